def mM_isDigit (n : Nat) (v0 : Int32) : Option (Int32) := if v0 < 48 then (some (0)) else (if 57 < v0 then (some (0)) else (some (1)))
theorem d_M_isDigit_0 : decode prog_11_method_14_code 0 = .ok (.iload_n 0, 1) := by decide +kernel
theorem d_M_isDigit_1 : decode prog_11_method_14_code 1 = .ok (.bipush 48, 2) := by decide +kernel
theorem d_M_isDigit_3 : decode prog_11_method_14_code 3 = .ok (.if_icmp .lt 13, 3) := by decide +kernel
theorem d_M_isDigit_6 : decode prog_11_method_14_code 6 = .ok (.iload_n 0, 1) := by decide +kernel
theorem d_M_isDigit_7 : decode prog_11_method_14_code 7 = .ok (.bipush 57, 2) := by decide +kernel
theorem d_M_isDigit_9 : decode prog_11_method_14_code 9 = .ok (.if_icmp .gt 7, 3) := by decide +kernel
theorem d_M_isDigit_12 : decode prog_11_method_14_code 12 = .ok (.iconst 1, 1) := by decide +kernel
theorem d_M_isDigit_13 : decode prog_11_method_14_code 13 = .ok (.goto 4, 3) := by decide +kernel
theorem d_M_isDigit_16 : decode prog_11_method_14_code 16 = .ok (.iconst 0, 1) := by decide +kernel
theorem d_M_isDigit_17 : decode prog_11_method_14_code 17 = .ok (.ireturn, 1) := by decide +kernel
set_option maxHeartbeats 4000000 in
set_option maxRecDepth 100000 in
theorem cM_isDigit (l : Launch) (dC : Nat → ClassId) (dI : Nat → Nat → Nat) (tk : Nat → ClassId) (A : Nat → Prop) (ws : va_W) (n : Nat) (v0 : Int32) (r0 : Int32) (hm : mM_isDigit n v0 = some r0) : CtI l dC dI tk A ⟨"EditorServerModel", "isDigit", "(I)Z"⟩ prog_11_method_14_code 1 (some .boolean) 0 0 [.int v0] ws r0 ws := by
  refine ent (by decide) (Nat.le_of_ble_eq_true rfl) ?_
  intro p e s m args below meth c hx hb hr hml hown hlk hG hg hst ls hl
  unfold mM_isDigit at hm
  have hl : lv_has ls 1 [(0, .int v0)] := hl
  refine lv_iload_n hx hb d_M_isDigit_0 rfl (lv_at hl 0 rfl) ?_
  refine lv_bipush (v := 48) hx hb d_M_isDigit_1 (by decide) ?_
  refine lv_icmp_lt (tgt := 16) hx hb d_M_isDigit_3 (by decide) (fun h1 => ?_) (fun h1 => ?_)
  · have hm := it_t hm h1
    refine lv_iconst (v := 0) hx hb d_M_isDigit_16 (by decide) ?_
    have he := (Option.some.inj hm)
    cases he
    exact rt_i hx hb hr hlk (by decide) hst rfl d_M_isDigit_17
  · have hm := it_f hm h1
    refine lv_iload_n hx hb d_M_isDigit_6 rfl (lv_at hl 0 rfl) ?_
    refine lv_bipush (v := 57) hx hb d_M_isDigit_7 (by decide) ?_
    refine lv_icmp_gt (tgt := 16) hx hb d_M_isDigit_9 (by decide) (fun h2 => ?_) (fun h2 => ?_)
    · have hm := it_t hm h2
      refine lv_iconst (v := 0) hx hb d_M_isDigit_16 (by decide) ?_
      have he := (Option.some.inj hm)
      cases he
      exact rt_i hx hb hr hlk (by decide) hst rfl d_M_isDigit_17
    · have hm := it_f hm h2
      refine lv_iconst (v := 1) hx hb d_M_isDigit_12 (by decide) ?_
      refine lv_goto (tgt := 17) hx hb d_M_isDigit_13 (by decide) ?_
      have he := (Option.some.inj hm)
      cases he
      exact rt_i hx hb hr hlk (by decide) hst rfl d_M_isDigit_17
def mM_numeral (n : Nat) (v1 : Int32) (g : aG) (a : aA) : Option (Int32 × aG × aA) := bd (mM_peek n g a) (fun x2 => jn (α := Int32) (if x2 = 45 then (some (.inl 1)) else (some (.inl 0))) (fun x6 => jn (α := aG) (if x6 = 0 then (some (.inl g)) else (lt (va_up g 20 ((g 20) + 1)) (fun g120 => some (.inl g120)))) (fun g10 => bd (mM_peek n g10 a) (fun x13 => if x13 = 48 then (jn (α := Int32 × Int32 × aG) (lp (ε := Int32 × Int32 × aG) (fun q97 => bd (mM_peek n q97.2.2 a) (fun x102 => bd (mM_isDigit n x102) (fun x105 => if x105 = 0 then (some (.inr (.inl (q97.1, q97.2.1, q97.2.2)))) else (if 7 ≤ q97.2.1 then (some (.inr (.inl (q97.1, q97.2.1, q97.2.2)))) else (jn (α := Unit) (if q97.2.1 = 1 then (some (.inr (.inr (.inl (q97.1, q97.2.1, q97.2.2))))) else (some (.inl ()))) (fun _ => bd (mM_peek n q97.2.2 a) (fun x113 => lt ((((10 * q97.1) + x113) - 48)) (fun x115 => lt (va_up q97.2.2 20 ((q97.2.2 20) + 1)) (fun g116 => some (.inl (x115, (q97.2.1 + 1), g116))))))))))) n (0, 0, g10)) (fun q72 => jn (α := Int32) (if x6 = 0 then (some (.inl q72.1)) else (some (.inl (-q72.1)))) (fun x75 => gd (inb v1 41) (lt (va_up a 2 (upd (a 2) v1.toNatClampNeg x75)) (fun a78 => if q72.2.1 ≤ 0 then (some ((0, q72.2.2, a78))) else (if 7 ≤ q72.2.1 then (some ((0, q72.2.2, a78))) else (jn (α := Unit) (if x6 = 0 then (some (.inl ())) else (some (.inr ((0, q72.2.2, a78))))) (fun _ => bd (mM_peek n q72.2.2 a78) (fun x85 => bd (mM_isDigit n x85) (fun x88 => if x88 = 0 then (some ((1, q72.2.2, a78))) else (some ((0, q72.2.2, a78))))))))))))) else (jn (α := Int32 × Int32 × aG) (lp (ε := Int32 × Int32 × aG) (fun q46 => bd (mM_peek n q46.2.2 a) (fun x51 => bd (mM_isDigit n x51) (fun x54 => if x54 = 0 then (some (.inr (.inl (q46.1, q46.2.1, q46.2.2)))) else (if 7 ≤ q46.2.1 then (some (.inr (.inl (q46.1, q46.2.1, q46.2.2)))) else (jn (α := Unit) (some (.inl ())) (fun _ => bd (mM_peek n q46.2.2 a) (fun x62 => lt ((((10 * q46.1) + x62) - 48)) (fun x64 => lt (va_up q46.2.2 20 ((q46.2.2 20) + 1)) (fun g65 => some (.inl (x64, (q46.2.1 + 1), g65))))))))))) n (0, 0, g10)) (fun q21 => jn (α := Int32) (if x6 = 0 then (some (.inl q21.1)) else (some (.inl (-q21.1)))) (fun x24 => gd (inb v1 41) (lt (va_up a 2 (upd (a 2) v1.toNatClampNeg x24)) (fun a27 => if q21.2.1 ≤ 0 then (some ((0, q21.2.2, a27))) else (if 7 ≤ q21.2.1 then (some ((0, q21.2.2, a27))) else (jn (α := Unit) (if x6 = 0 then (some (.inl ())) else (some (.inl ()))) (fun _ => bd (mM_peek n q21.2.2 a27) (fun x34 => bd (mM_isDigit n x34) (fun x37 => if x37 = 0 then (some ((1, q21.2.2, a27))) else (some ((0, q21.2.2, a27)))))))))))))))))
theorem d_M_numeral_0 : decode prog_11_method_15_code 0 = .ok (.aload_n 0, 1) := by decide +kernel
theorem d_M_numeral_1 : decode prog_11_method_15_code 1 = .ok (.invokevirtual 140, 3) := by decide +kernel
theorem d_M_numeral_4 : decode prog_11_method_15_code 4 = .ok (.bipush 45, 2) := by decide +kernel
theorem d_M_numeral_6 : decode prog_11_method_15_code 6 = .ok (.if_icmp .ne 7, 3) := by decide +kernel
theorem d_M_numeral_9 : decode prog_11_method_15_code 9 = .ok (.iconst 1, 1) := by decide +kernel
theorem d_M_numeral_10 : decode prog_11_method_15_code 10 = .ok (.goto 4, 3) := by decide +kernel
theorem d_M_numeral_13 : decode prog_11_method_15_code 13 = .ok (.iconst 0, 1) := by decide +kernel
theorem d_M_numeral_14 : decode prog_11_method_15_code 14 = .ok (.istore_n 2, 1) := by decide +kernel
theorem d_M_numeral_15 : decode prog_11_method_15_code 15 = .ok (.iload_n 2, 1) := by decide +kernel
theorem d_M_numeral_16 : decode prog_11_method_15_code 16 = .ok (.ifCond .eq 13, 3) := by decide +kernel
theorem d_M_numeral_19 : decode prog_11_method_15_code 19 = .ok (.aload_n 0, 1) := by decide +kernel
theorem d_M_numeral_20 : decode prog_11_method_15_code 20 = .ok (.dup, 1) := by decide +kernel
theorem d_M_numeral_21 : decode prog_11_method_15_code 21 = .ok (.getfield 121, 3) := by decide +kernel
theorem d_M_numeral_24 : decode prog_11_method_15_code 24 = .ok (.iconst 1, 1) := by decide +kernel
theorem d_M_numeral_25 : decode prog_11_method_15_code 25 = .ok (.iadd, 1) := by decide +kernel
theorem d_M_numeral_26 : decode prog_11_method_15_code 26 = .ok (.putfield 121, 3) := by decide +kernel
theorem d_M_numeral_29 : decode prog_11_method_15_code 29 = .ok (.iconst 0, 1) := by decide +kernel
theorem d_M_numeral_30 : decode prog_11_method_15_code 30 = .ok (.istore_n 3, 1) := by decide +kernel
theorem d_M_numeral_31 : decode prog_11_method_15_code 31 = .ok (.iconst 0, 1) := by decide +kernel
theorem d_M_numeral_32 : decode prog_11_method_15_code 32 = .ok (.istore 4, 2) := by decide +kernel
theorem d_M_numeral_34 : decode prog_11_method_15_code 34 = .ok (.aload_n 0, 1) := by decide +kernel
theorem d_M_numeral_35 : decode prog_11_method_15_code 35 = .ok (.invokevirtual 140, 3) := by decide +kernel
theorem d_M_numeral_38 : decode prog_11_method_15_code 38 = .ok (.bipush 48, 2) := by decide +kernel
theorem d_M_numeral_40 : decode prog_11_method_15_code 40 = .ok (.if_icmp .ne 7, 3) := by decide +kernel
theorem d_M_numeral_43 : decode prog_11_method_15_code 43 = .ok (.iconst 1, 1) := by decide +kernel
theorem d_M_numeral_44 : decode prog_11_method_15_code 44 = .ok (.goto 4, 3) := by decide +kernel
theorem d_M_numeral_47 : decode prog_11_method_15_code 47 = .ok (.iconst 0, 1) := by decide +kernel
theorem d_M_numeral_48 : decode prog_11_method_15_code 48 = .ok (.istore 5, 2) := by decide +kernel
theorem d_M_numeral_50 : decode prog_11_method_15_code 50 = .ok (.aload_n 0, 1) := by decide +kernel
theorem d_M_numeral_51 : decode prog_11_method_15_code 51 = .ok (.invokevirtual 140, 3) := by decide +kernel
theorem d_M_numeral_54 : decode prog_11_method_15_code 54 = .ok (.invokestatic 167, 3) := by decide +kernel
theorem d_M_numeral_57 : decode prog_11_method_15_code 57 = .ok (.ifCond .eq 50, 3) := by decide +kernel
theorem d_M_numeral_60 : decode prog_11_method_15_code 60 = .ok (.iload 4, 2) := by decide +kernel
theorem d_M_numeral_62 : decode prog_11_method_15_code 62 = .ok (.bipush 7, 2) := by decide +kernel
theorem d_M_numeral_64 : decode prog_11_method_15_code 64 = .ok (.if_icmp .ge 43, 3) := by decide +kernel
theorem d_M_numeral_67 : decode prog_11_method_15_code 67 = .ok (.iload 5, 2) := by decide +kernel
theorem d_M_numeral_69 : decode prog_11_method_15_code 69 = .ok (.ifCond .eq 9, 3) := by decide +kernel
theorem d_M_numeral_72 : decode prog_11_method_15_code 72 = .ok (.iload 4, 2) := by decide +kernel
theorem d_M_numeral_74 : decode prog_11_method_15_code 74 = .ok (.iconst 1, 1) := by decide +kernel
theorem d_M_numeral_75 : decode prog_11_method_15_code 75 = .ok (.if_icmp .eq 32, 3) := by decide +kernel
theorem d_M_numeral_78 : decode prog_11_method_15_code 78 = .ok (.bipush 10, 2) := by decide +kernel
theorem d_M_numeral_80 : decode prog_11_method_15_code 80 = .ok (.iload_n 3, 1) := by decide +kernel
theorem d_M_numeral_81 : decode prog_11_method_15_code 81 = .ok (.imul, 1) := by decide +kernel
theorem d_M_numeral_82 : decode prog_11_method_15_code 82 = .ok (.aload_n 0, 1) := by decide +kernel
theorem d_M_numeral_83 : decode prog_11_method_15_code 83 = .ok (.invokevirtual 140, 3) := by decide +kernel
theorem d_M_numeral_86 : decode prog_11_method_15_code 86 = .ok (.iadd, 1) := by decide +kernel
theorem d_M_numeral_87 : decode prog_11_method_15_code 87 = .ok (.bipush 48, 2) := by decide +kernel
theorem d_M_numeral_89 : decode prog_11_method_15_code 89 = .ok (.isub, 1) := by decide +kernel
theorem d_M_numeral_90 : decode prog_11_method_15_code 90 = .ok (.istore_n 3, 1) := by decide +kernel
theorem d_M_numeral_91 : decode prog_11_method_15_code 91 = .ok (.iinc 4 1, 3) := by decide +kernel
theorem d_M_numeral_94 : decode prog_11_method_15_code 94 = .ok (.aload_n 0, 1) := by decide +kernel
theorem d_M_numeral_95 : decode prog_11_method_15_code 95 = .ok (.dup, 1) := by decide +kernel
theorem d_M_numeral_96 : decode prog_11_method_15_code 96 = .ok (.getfield 121, 3) := by decide +kernel
theorem d_M_numeral_99 : decode prog_11_method_15_code 99 = .ok (.iconst 1, 1) := by decide +kernel
theorem d_M_numeral_100 : decode prog_11_method_15_code 100 = .ok (.iadd, 1) := by decide +kernel
theorem d_M_numeral_101 : decode prog_11_method_15_code 101 = .ok (.putfield 121, 3) := by decide +kernel
theorem d_M_numeral_104 : decode prog_11_method_15_code 104 = .ok (.goto (-54), 3) := by decide +kernel
theorem d_M_numeral_107 : decode prog_11_method_15_code 107 = .ok (.aload_n 0, 1) := by decide +kernel
theorem d_M_numeral_108 : decode prog_11_method_15_code 108 = .ok (.getfield 16, 3) := by decide +kernel
theorem d_M_numeral_111 : decode prog_11_method_15_code 111 = .ok (.iload_n 1, 1) := by decide +kernel
theorem d_M_numeral_112 : decode prog_11_method_15_code 112 = .ok (.iload_n 2, 1) := by decide +kernel
theorem d_M_numeral_113 : decode prog_11_method_15_code 113 = .ok (.ifCond .eq 8, 3) := by decide +kernel
theorem d_M_numeral_116 : decode prog_11_method_15_code 116 = .ok (.iload_n 3, 1) := by decide +kernel
theorem d_M_numeral_117 : decode prog_11_method_15_code 117 = .ok (.ineg, 1) := by decide +kernel
theorem d_M_numeral_118 : decode prog_11_method_15_code 118 = .ok (.goto 4, 3) := by decide +kernel
theorem d_M_numeral_121 : decode prog_11_method_15_code 121 = .ok (.iload_n 3, 1) := by decide +kernel
theorem d_M_numeral_122 : decode prog_11_method_15_code 122 = .ok (.iastore, 1) := by decide +kernel
theorem d_M_numeral_123 : decode prog_11_method_15_code 123 = .ok (.iload 4, 2) := by decide +kernel
theorem d_M_numeral_125 : decode prog_11_method_15_code 125 = .ok (.ifCond .le 33, 3) := by decide +kernel
theorem d_M_numeral_128 : decode prog_11_method_15_code 128 = .ok (.iload 4, 2) := by decide +kernel
theorem d_M_numeral_130 : decode prog_11_method_15_code 130 = .ok (.bipush 7, 2) := by decide +kernel
theorem d_M_numeral_132 : decode prog_11_method_15_code 132 = .ok (.if_icmp .ge 26, 3) := by decide +kernel
theorem d_M_numeral_135 : decode prog_11_method_15_code 135 = .ok (.iload_n 2, 1) := by decide +kernel
theorem d_M_numeral_136 : decode prog_11_method_15_code 136 = .ok (.ifCond .eq 8, 3) := by decide +kernel
theorem d_M_numeral_139 : decode prog_11_method_15_code 139 = .ok (.iload 5, 2) := by decide +kernel
theorem d_M_numeral_141 : decode prog_11_method_15_code 141 = .ok (.ifCond .ne 17, 3) := by decide +kernel
theorem d_M_numeral_144 : decode prog_11_method_15_code 144 = .ok (.aload_n 0, 1) := by decide +kernel
theorem d_M_numeral_145 : decode prog_11_method_15_code 145 = .ok (.invokevirtual 140, 3) := by decide +kernel
theorem d_M_numeral_148 : decode prog_11_method_15_code 148 = .ok (.invokestatic 167, 3) := by decide +kernel
theorem d_M_numeral_151 : decode prog_11_method_15_code 151 = .ok (.ifCond .ne 7, 3) := by decide +kernel
theorem d_M_numeral_154 : decode prog_11_method_15_code 154 = .ok (.iconst 1, 1) := by decide +kernel
theorem d_M_numeral_155 : decode prog_11_method_15_code 155 = .ok (.goto 4, 3) := by decide +kernel
theorem d_M_numeral_158 : decode prog_11_method_15_code 158 = .ok (.iconst 0, 1) := by decide +kernel
theorem d_M_numeral_159 : decode prog_11_method_15_code 159 = .ok (.ireturn, 1) := by decide +kernel
set_option maxHeartbeats 4000000 in
set_option maxRecDepth 100000 in
theorem cM_numeral (l : Launch) (dC : Nat → ClassId) (dI : Nat → Nat → Nat) (tk : Nat → ClassId) (A : Nat → Prop) (h : Nat) (L : Nat → Nat) (g : aG) (a : aA) (rw : va_W) (n : Nat) (v1 : Int32) (r0 : Int32) (g0 : aG) (a0 : aA) (hm : mM_numeral n v1 g a = some (r0, g0, a0)) : CtI l dC dI tk A ⟨"EditorServerModel", "numeral", "(I)Z"⟩ prog_11_method_15_code 6 (some .boolean) 1 20 [.ref h, .int v1] (oW 0 h ksM spM tk L g a rw) r0 (oW 0 h ksM spM tk L g0 a0 rw) := by
  refine ent (by decide) (Nat.le_of_ble_eq_true rfl) ?_
  intro p e s m args below meth c hx hb hr hml hown hlk hG hg hst ls hl
  unfold mM_numeral at hm
  have hl : lv_has ls 6 [(0, .ref h), (1, .int v1)] := hl
  refine lv_aload_n hx hb d_M_numeral_0 rfl (lv_at hl 0 rfl) ?_
  obtain ⟨x2, hc3, hm⟩ := bd_u hm
  refine cl_vi hx hb hml hown hG hg (cM_peek l dC dI tk A h L g a rw n _ hc3) (cw_v 0 hG k_1176 k_1178 s_29 k_14 k_1179 (by decide +kernel) ⟨by decide, by decide⟩) hst rfl oW_0 rfl hl.1 rfl (Nat.le_of_ble_eq_true rfl) ⟨Nat.le_refl 0, Nat.le_refl 0⟩ d_M_numeral_1 (fun H locs hst => ?_)
  refine lv_bipush (v := 45) hx hb d_M_numeral_4 (by decide) ?_
  obtain ⟨qJ4, hm, hLJ4, hR5⟩ := jn_u hm
  have hJ4 : ∀ (x6 : Int32), qJ4 = .inl x6 → ∀ (H : Heap) (locs : List Loc) (ls : Array Slot), lv_has ls 6 [(0, .ref h), (1, .int v1)] → St dC dI A s.heap H locs (oW 0 h ksM spM tk L g a rw) → W p l e (rmo 1 20) s m args below meth c H locs 0 0 (MQ below (QI dC dI A r0 (oW 0 h ksM spM tk L g0 a0 rw)) args s 0 0 A) (F0 m 14 ls [.int x6]) := by
    intro x6 hq H locs ls hl hst
    have hm := hLJ4 _ hq
    refine lv_istore_n (lv' := [(2, .int x6), (0, .ref h), (1, .int v1)]) hx hb d_M_numeral_14 rfl hl (by decide) rfl (fun ls hl => ?_)
    refine lv_iload_n hx hb d_M_numeral_15 rfl (lv_at hl 0 rfl) ?_
    obtain ⟨qJ8, hm, hLJ8, hR9⟩ := jn_u hm
    have hJ8 : ∀ (g10 : aG), qJ8 = .inl g10 → ∀ (H : Heap) (locs : List Loc) (ls : Array Slot), lv_has ls 6 [(0, .ref h), (1, .int v1), (2, .int x6)] → St dC dI A s.heap H locs (oW 0 h ksM spM tk L g10 a rw) → W p l e (rmo 1 20) s m args below meth c H locs 0 0 (MQ below (QI dC dI A r0 (oW 0 h ksM spM tk L g0 a0 rw)) args s 0 0 A) (F0 m 29 ls []) := by
      intro g10 hq H locs ls hl hst
      have hm := hLJ8 _ hq
      refine lv_iconst (v := 0) hx hb d_M_numeral_29 (by decide) ?_
      refine lv_istore_n (lv' := [(3, .int 0), (0, .ref h), (1, .int v1), (2, .int x6)]) hx hb d_M_numeral_30 rfl hl (by decide) rfl (fun ls hl => ?_)
      refine lv_iconst (v := 0) hx hb d_M_numeral_31 (by decide) ?_
      refine lv_istore (lv' := [(4, .int 0), (3, .int 0), (0, .ref h), (1, .int v1), (2, .int x6)]) hx hb d_M_numeral_32 hl (by decide) rfl (fun ls hl => ?_)
      refine lv_aload_n hx hb d_M_numeral_34 rfl (lv_at hl 2 rfl) ?_
      obtain ⟨x13, hc14, hm⟩ := bd_u hm
      refine cl_vi hx hb hml hown hG hg (cM_peek l dC dI tk A h L g10 a rw n _ hc14) (cw_v 0 hG k_1176 k_1178 s_29 k_14 k_1179 (by decide +kernel) ⟨by decide, by decide⟩) hst rfl oW_0 rfl hl.1 rfl (Nat.le_of_ble_eq_true rfl) ⟨Nat.le_refl 0, Nat.le_refl 0⟩ d_M_numeral_35 (fun H locs hst => ?_)
      refine lv_bipush (v := 48) hx hb d_M_numeral_38 (by decide) ?_
      refine lv_icmp_ne (tgt := 47) hx hb d_M_numeral_40 (by decide) (fun h15 => ?_) (fun h15 => ?_)
      · have hm := it_f hm h15
        refine lv_iconst (v := 0) hx hb d_M_numeral_47 (by decide) ?_
        refine lv_istore (lv' := [(5, .int 0), (4, .int 0), (3, .int 0), (0, .ref h), (1, .int v1), (2, .int x6)]) hx hb d_M_numeral_48 hl (by decide) rfl (fun ls hl => ?_)
        obtain ⟨qJ16, hm, hLJ16, hR17⟩ := jn_u hm
        have hJ16 : ∀ (x18 : Int32) (x19 : Int32) (g20 : aG), qJ16 = .inl (x18, x19, g20) → ∀ (H : Heap) (locs : List Loc) (ls : Array Slot), lv_has ls 6 [(0, .ref h), (1, .int v1), (2, .int x6), (3, .int x18), (4, .int x19), (5, .int 0)] → St dC dI A s.heap H locs (oW 0 h ksM spM tk L g20 a rw) → W p l e (rmo 1 20) s m args below meth c H locs 0 0 (MQ below (QI dC dI A r0 (oW 0 h ksM spM tk L g0 a0 rw)) args s 0 0 A) (F0 m 107 ls []) := by
          intro x18 x19 g20 hq H locs ls hl hst
          have hm := hLJ16 _ hq
          dsimp only at hm
          refine lv_aload_n hx hb d_M_numeral_107 rfl (lv_at hl 0 rfl) ?_
          refine ro_geta hx hb hown hG hg cM hst 10 2 (by decide) rfl rfl k_1024 d_M_numeral_108 ?_
          refine lv_iload_n hx hb d_M_numeral_111 rfl (lv_at hl 1 rfl) ?_
          refine lv_iload_n hx hb d_M_numeral_112 rfl (lv_at hl 2 rfl) ?_
          obtain ⟨qJ22, hm, hLJ22, hR23⟩ := jn_u hm
          have hJ22 : ∀ (x24 : Int32), qJ22 = .inl x24 → ∀ (H : Heap) (locs : List Loc) (ls : Array Slot), lv_has ls 6 [(0, .ref h), (1, .int v1), (2, .int x6), (3, .int x18), (4, .int x19), (5, .int 0)] → St dC dI A s.heap H locs (oW 0 h ksM spM tk L g20 a rw) → W p l e (rmo 1 20) s m args below meth c H locs 0 0 (MQ below (QI dC dI A r0 (oW 0 h ksM spM tk L g0 a0 rw)) args s 0 0 A) (F0 m 122 ls [.int x24, .int v1, .ref (L 2)]) := by
            intro x24 hq H locs ls hl hst
            have hm := hLJ22 _ hq
            obtain ⟨hn26, hm⟩ := gd_u hm
            refine ro_iast hx hb hg hst 2 rfl hn26 d_M_numeral_122 (fun a27 H locs ea27 hst => ?_)
            have hm := lt_u hm a27 ea27
            refine lv_iload hx hb d_M_numeral_123 (lv_at hl 4 rfl) ?_
            refine lv_if_le (tgt := 158) hx hb d_M_numeral_125 (by decide) (fun h28 => ?_) (fun h28 => ?_)
            · have hm := it_t hm h28
              refine lv_iconst (v := 0) hx hb d_M_numeral_158 (by decide) ?_
              have he := (Option.some.inj hm)
              cases he
              exact rt_i hx hb hr hlk (by decide) hst rfl d_M_numeral_159
            · have hm := it_f hm h28
              refine lv_iload hx hb d_M_numeral_128 (lv_at hl 4 rfl) ?_
              refine lv_bipush (v := 7) hx hb d_M_numeral_130 (by decide) ?_
              refine lv_icmp_ge (tgt := 158) hx hb d_M_numeral_132 (by decide) (fun h29 => ?_) (fun h29 => ?_)
              · have hm := it_t hm h29
                refine lv_iconst (v := 0) hx hb d_M_numeral_158 (by decide) ?_
                have he := (Option.some.inj hm)
                cases he
                exact rt_i hx hb hr hlk (by decide) hst rfl d_M_numeral_159
              · have hm := it_f hm h29
                refine lv_iload_n hx hb d_M_numeral_135 rfl (lv_at hl 2 rfl) ?_
                obtain ⟨qJ30, hm, hLJ30, hR31⟩ := jn_u hm
                have hJ30 : qJ30 = .inl () → ∀ (H : Heap) (locs : List Loc) (ls : Array Slot), lv_has ls 6 [(0, .ref h), (1, .int v1), (2, .int x6), (3, .int x18), (4, .int x19), (5, .int 0)] → St dC dI A s.heap H locs (oW 0 h ksM spM tk L g20 a27 rw) → W p l e (rmo 1 20) s m args below meth c H locs 0 0 (MQ below (QI dC dI A r0 (oW 0 h ksM spM tk L g0 a0 rw)) args s 0 0 A) (F0 m 144 ls []) := by
                  intro hq H locs ls hl hst
                  have hm := hLJ30 _ hq
                  refine lv_aload_n hx hb d_M_numeral_144 rfl (lv_at hl 0 rfl) ?_
                  obtain ⟨x34, hc35, hm⟩ := bd_u hm
                  refine cl_vi hx hb hml hown hG hg (cM_peek l dC dI tk A h L g20 a27 rw n _ hc35) (cw_v 0 hG k_1176 k_1178 s_29 k_14 k_1179 (by decide +kernel) ⟨by decide, by decide⟩) hst rfl oW_0 rfl hl.1 rfl (Nat.le_of_ble_eq_true rfl) ⟨Nat.le_refl 0, Nat.le_refl 0⟩ d_M_numeral_145 (fun H locs hst => ?_)
                  obtain ⟨x37, hc38, hm⟩ := bd_u hm
                  refine cl_si hx hb hml hown hG hg (cM_isDigit l dC dI tk A (oW 0 h ksM spM tk L g20 a27 rw) n x34 _ hc38) (cw_s 1 hG k_1208 k_1209 k_14 k_1210 (by decide +kernel) ⟨by decide, by decide⟩) hst rfl hl.1 rfl (Nat.le_of_ble_eq_true rfl) ⟨Nat.le_refl 0, Nat.le_refl 0⟩ d_M_numeral_148 (fun H locs hst => ?_)
                  refine lv_if_ne (tgt := 158) hx hb d_M_numeral_151 (by decide) (fun h39 => ?_) (fun h39 => ?_)
                  · have hm := it_f hm h39
                    refine lv_iconst (v := 0) hx hb d_M_numeral_158 (by decide) ?_
                    have he := (Option.some.inj hm)
                    cases he
                    exact rt_i hx hb hr hlk (by decide) hst rfl d_M_numeral_159
                  · have hm := it_t hm h39
                    refine lv_iconst (v := 1) hx hb d_M_numeral_154 (by decide) ?_
                    refine lv_goto (tgt := 159) hx hb d_M_numeral_155 (by decide) ?_
                    have he := (Option.some.inj hm)
                    cases he
                    exact rt_i hx hb hr hlk (by decide) hst rfl d_M_numeral_159
                refine lv_if_eq (tgt := 144) hx hb d_M_numeral_136 (by decide) (fun h40 => ?_) (fun h40 => ?_)
                · have hm := it_t hm h40
                  exact hJ30  (Option.some.inj hm).symm _ _ _ (lv_sub hl [0, 1, 2, 3, 4, 5] rfl) hst
                · have hm := it_f hm h40
                  refine lv_iload hx hb d_M_numeral_139 (lv_at hl 5 rfl) ?_
                  refine lv_if_ne (tgt := 158) hx hb d_M_numeral_141 (by decide) (fun h41 => ?_) (fun h41 => ?_)
                  · exact absurd h41 (by decide)
                  exact hJ30  (Option.some.inj hm).symm _ _ _ (lv_sub hl [0, 1, 2, 3, 4, 5] rfl) hst
          refine lv_if_eq (tgt := 121) hx hb d_M_numeral_113 (by decide) (fun h42 => ?_) (fun h42 => ?_)
          · have hm := it_t hm h42
            refine lv_iload_n hx hb d_M_numeral_121 rfl (lv_at hl 3 rfl) ?_
            exact hJ22 x18 (Option.some.inj hm).symm _ _ _ (lv_sub hl [0, 1, 2, 3, 4, 5] rfl) hst
          · have hm := it_f hm h42
            refine lv_iload_n hx hb d_M_numeral_116 rfl (lv_at hl 3 rfl) ?_
            refine lv_ineg hx hb d_M_numeral_117 ?_
            refine lv_goto (tgt := 122) hx hb d_M_numeral_118 (by decide) ?_
            exact hJ22 (-x18) (Option.some.inj hm).symm _ _ _ (lv_sub hl [0, 1, 2, 3, 4, 5] rfl) hst
        refine lp_u (fun q46 : Int32 × Int32 × aG => ∀ (H : Heap) (locs : List Loc) (ls : Array Slot), lv_has ls 6 [(0, .ref h), (1, .int v1), (2, .int x6), (3, .int q46.1), (4, .int q46.2.1), (5, .int 0)] → St dC dI A s.heap H locs (oW 0 h ksM spM tk L q46.2.2 a rw) → W p l e (rmo 1 20) s m args below meth c H locs 0 0 (MQ below (QI dC dI A r0 (oW 0 h ksM spM tk L g0 a0 rw)) args s 0 0 A) (F0 m 50 ls [])) ?_ n (0, 0, g10) hm _ _ _ (lv_sub hl [3, 4, 5, 2, 1, 0] rfl) hst
        rintro ⟨x43, x44, g45⟩ r49 hm hJ470 hR48 H locs ls hl hst
        dsimp only at hm hl hst ⊢
        have hJ47 := fun y0 y1 y2 (e : r49 = .inl (y0, y1, y2)) => hJ470 (y0, y1, y2) e
        dsimp only at hJ47
        refine lv_aload_n hx hb d_M_numeral_50 rfl (lv_at hl 0 rfl) ?_
        obtain ⟨x51, hc52, hm⟩ := bd_u hm
        refine cl_vi hx hb hml hown hG hg (cM_peek l dC dI tk A h L g45 a rw n _ hc52) (cw_v 0 hG k_1176 k_1178 s_29 k_14 k_1179 (by decide +kernel) ⟨by decide, by decide⟩) hst rfl oW_0 rfl hl.1 rfl (Nat.le_of_ble_eq_true rfl) ⟨Nat.le_refl 0, Nat.le_refl 0⟩ d_M_numeral_51 (fun H locs hst => ?_)
        obtain ⟨x54, hc55, hm⟩ := bd_u hm
        refine cl_si hx hb hml hown hG hg (cM_isDigit l dC dI tk A (oW 0 h ksM spM tk L g45 a rw) n x51 _ hc55) (cw_s 1 hG k_1208 k_1209 k_14 k_1210 (by decide +kernel) ⟨by decide, by decide⟩) hst rfl hl.1 rfl (Nat.le_of_ble_eq_true rfl) ⟨Nat.le_refl 0, Nat.le_refl 0⟩ d_M_numeral_54 (fun H locs hst => ?_)
        refine lv_if_eq (tgt := 107) hx hb d_M_numeral_57 (by decide) (fun h56 => ?_) (fun h56 => ?_)
        · have hm := it_t hm h56
          exact hJ16 x43 x44 g45 (hR48 _ (Option.some.inj hm).symm).symm _ _ _ (lv_sub hl [0, 1, 2, 3, 4, 5] rfl) hst
        · have hm := it_f hm h56
          refine lv_iload hx hb d_M_numeral_60 (lv_at hl 4 rfl) ?_
          refine lv_bipush (v := 7) hx hb d_M_numeral_62 (by decide) ?_
          refine lv_icmp_ge (tgt := 107) hx hb d_M_numeral_64 (by decide) (fun h57 => ?_) (fun h57 => ?_)
          · have hm := it_t hm h57
            exact hJ16 x43 x44 g45 (hR48 _ (Option.some.inj hm).symm).symm _ _ _ (lv_sub hl [0, 1, 2, 3, 4, 5] rfl) hst
          · have hm := it_f hm h57
            refine lv_iload hx hb d_M_numeral_67 (lv_at hl 5 rfl) ?_
            obtain ⟨qJ58, hm, hLJ58, hR59⟩ := jn_u hm
            have hJ58 : qJ58 = .inl () → ∀ (H : Heap) (locs : List Loc) (ls : Array Slot), lv_has ls 6 [(0, .ref h), (1, .int v1), (2, .int x6), (3, .int x43), (4, .int x44), (5, .int 0)] → St dC dI A s.heap H locs (oW 0 h ksM spM tk L g45 a rw) → W p l e (rmo 1 20) s m args below meth c H locs 0 0 (MQ below (QI dC dI A r0 (oW 0 h ksM spM tk L g0 a0 rw)) args s 0 0 A) (F0 m 78 ls []) := by
              intro hq H locs ls hl hst
              have hm := hLJ58 _ hq
              refine lv_bipush (v := 10) hx hb d_M_numeral_78 (by decide) ?_
              refine lv_iload_n hx hb d_M_numeral_80 rfl (lv_at hl 3 rfl) ?_
              refine lv_imul hx hb d_M_numeral_81 ?_
              refine lv_aload_n hx hb d_M_numeral_82 rfl (lv_at hl 0 rfl) ?_
              obtain ⟨x62, hc63, hm⟩ := bd_u hm
              refine cl_vi hx hb hml hown hG hg (cM_peek l dC dI tk A h L g45 a rw n _ hc63) (cw_v 0 hG k_1176 k_1178 s_29 k_14 k_1179 (by decide +kernel) ⟨by decide, by decide⟩) hst rfl oW_0 rfl hl.1 rfl (Nat.le_of_ble_eq_true rfl) ⟨Nat.le_refl 0, Nat.le_refl 0⟩ d_M_numeral_83 (fun H locs hst => ?_)
              refine lv_iadd hx hb d_M_numeral_86 ?_
              refine lv_bipush (v := 48) hx hb d_M_numeral_87 (by decide) ?_
              refine lv_isub hx hb d_M_numeral_89 ?_
              refine lv_topi (fun x64 ex64 => ?_)
              have hm := lt_u hm x64 ex64
              refine lv_istore_n (lv' := [(3, .int x64), (0, .ref h), (1, .int v1), (2, .int x6), (4, .int x44), (5, .int 0)]) hx hb d_M_numeral_90 rfl hl (by decide) rfl (fun ls hl => ?_)
              refine lv_iinc (k := 4) (v := (x44 + 1)) (lv' := [(4, .int (x44 + 1)), (3, .int x64), (0, .ref h), (1, .int v1), (2, .int x6), (5, .int 0)]) hx hb d_M_numeral_91 hl rfl (by rfl) (by decide) rfl (fun ls hl => ?_)
              refine lv_aload_n hx hb d_M_numeral_94 rfl (lv_at hl 2 rfl) ?_
              refine lv_dup hx hb d_M_numeral_95 rfl ?_
              refine ro_geti hx hb hown hG hg cM hst 20 (by decide) rfl rfl k_1034 d_M_numeral_96 ?_
              refine lv_iconst (v := 1) hx hb d_M_numeral_99 (by decide) ?_
              refine lv_iadd hx hb d_M_numeral_100 ?_
              refine ro_puti hx hb hown hG hg cM hst 20 (by decide) rfl rfl rfl rfl rfl k_1034 d_M_numeral_101 (fun g65 H locs eg65 hst => ?_)
              have hm := lt_u hm g65 eg65
              refine lv_goto (tgt := 50) hx hb d_M_numeral_104 (by decide) ?_
              exact hJ47 x64 (x44 + 1) g65 (Option.some.inj hm).symm _ _ _ (lv_sub hl [2, 3, 4, 1, 0, 5] rfl) hst
            refine lv_if_eq (tgt := 78) hx hb d_M_numeral_69 (by decide) (fun h66 => ?_) (fun h66 => ?_)
            rotate_left
            · exact absurd h66 (by decide)
            exact hJ58  (Option.some.inj hm).symm _ _ _ (lv_sub hl [0, 1, 2, 3, 4, 5] rfl) hst
      · have hm := it_t hm h15
        refine lv_iconst (v := 1) hx hb d_M_numeral_43 (by decide) ?_
        refine lv_goto (tgt := 48) hx hb d_M_numeral_44 (by decide) ?_
        refine lv_istore (lv' := [(5, .int 1), (4, .int 0), (3, .int 0), (0, .ref h), (1, .int v1), (2, .int x6)]) hx hb d_M_numeral_48 hl (by decide) rfl (fun ls hl => ?_)
        obtain ⟨qJ67, hm, hLJ67, hR68⟩ := jn_u hm
        have hJ67 : ∀ (x69 : Int32) (x70 : Int32) (g71 : aG), qJ67 = .inl (x69, x70, g71) → ∀ (H : Heap) (locs : List Loc) (ls : Array Slot), lv_has ls 6 [(0, .ref h), (1, .int v1), (2, .int x6), (3, .int x69), (4, .int x70), (5, .int 1)] → St dC dI A s.heap H locs (oW 0 h ksM spM tk L g71 a rw) → W p l e (rmo 1 20) s m args below meth c H locs 0 0 (MQ below (QI dC dI A r0 (oW 0 h ksM spM tk L g0 a0 rw)) args s 0 0 A) (F0 m 107 ls []) := by
          intro x69 x70 g71 hq H locs ls hl hst
          have hm := hLJ67 _ hq
          dsimp only at hm
          refine lv_aload_n hx hb d_M_numeral_107 rfl (lv_at hl 0 rfl) ?_
          refine ro_geta hx hb hown hG hg cM hst 10 2 (by decide) rfl rfl k_1024 d_M_numeral_108 ?_
          refine lv_iload_n hx hb d_M_numeral_111 rfl (lv_at hl 1 rfl) ?_
          refine lv_iload_n hx hb d_M_numeral_112 rfl (lv_at hl 2 rfl) ?_
          obtain ⟨qJ73, hm, hLJ73, hR74⟩ := jn_u hm
          have hJ73 : ∀ (x75 : Int32), qJ73 = .inl x75 → ∀ (H : Heap) (locs : List Loc) (ls : Array Slot), lv_has ls 6 [(0, .ref h), (1, .int v1), (2, .int x6), (3, .int x69), (4, .int x70), (5, .int 1)] → St dC dI A s.heap H locs (oW 0 h ksM spM tk L g71 a rw) → W p l e (rmo 1 20) s m args below meth c H locs 0 0 (MQ below (QI dC dI A r0 (oW 0 h ksM spM tk L g0 a0 rw)) args s 0 0 A) (F0 m 122 ls [.int x75, .int v1, .ref (L 2)]) := by
            intro x75 hq H locs ls hl hst
            have hm := hLJ73 _ hq
            obtain ⟨hn77, hm⟩ := gd_u hm
            refine ro_iast hx hb hg hst 2 rfl hn77 d_M_numeral_122 (fun a78 H locs ea78 hst => ?_)
            have hm := lt_u hm a78 ea78
            refine lv_iload hx hb d_M_numeral_123 (lv_at hl 4 rfl) ?_
            refine lv_if_le (tgt := 158) hx hb d_M_numeral_125 (by decide) (fun h79 => ?_) (fun h79 => ?_)
            · have hm := it_t hm h79
              refine lv_iconst (v := 0) hx hb d_M_numeral_158 (by decide) ?_
              have he := (Option.some.inj hm)
              cases he
              exact rt_i hx hb hr hlk (by decide) hst rfl d_M_numeral_159
            · have hm := it_f hm h79
              refine lv_iload hx hb d_M_numeral_128 (lv_at hl 4 rfl) ?_
              refine lv_bipush (v := 7) hx hb d_M_numeral_130 (by decide) ?_
              refine lv_icmp_ge (tgt := 158) hx hb d_M_numeral_132 (by decide) (fun h80 => ?_) (fun h80 => ?_)
              · have hm := it_t hm h80
                refine lv_iconst (v := 0) hx hb d_M_numeral_158 (by decide) ?_
                have he := (Option.some.inj hm)
                cases he
                exact rt_i hx hb hr hlk (by decide) hst rfl d_M_numeral_159
              · have hm := it_f hm h80
                refine lv_iload_n hx hb d_M_numeral_135 rfl (lv_at hl 2 rfl) ?_
                obtain ⟨qJ81, hm, hLJ81, hR82⟩ := jn_u hm
                have hJ81 : qJ81 = .inl () → ∀ (H : Heap) (locs : List Loc) (ls : Array Slot), lv_has ls 6 [(0, .ref h), (1, .int v1), (2, .int x6), (3, .int x69), (4, .int x70), (5, .int 1)] → St dC dI A s.heap H locs (oW 0 h ksM spM tk L g71 a78 rw) → W p l e (rmo 1 20) s m args below meth c H locs 0 0 (MQ below (QI dC dI A r0 (oW 0 h ksM spM tk L g0 a0 rw)) args s 0 0 A) (F0 m 144 ls []) := by
                  intro hq H locs ls hl hst
                  have hm := hLJ81 _ hq
                  refine lv_aload_n hx hb d_M_numeral_144 rfl (lv_at hl 0 rfl) ?_
                  obtain ⟨x85, hc86, hm⟩ := bd_u hm
                  refine cl_vi hx hb hml hown hG hg (cM_peek l dC dI tk A h L g71 a78 rw n _ hc86) (cw_v 0 hG k_1176 k_1178 s_29 k_14 k_1179 (by decide +kernel) ⟨by decide, by decide⟩) hst rfl oW_0 rfl hl.1 rfl (Nat.le_of_ble_eq_true rfl) ⟨Nat.le_refl 0, Nat.le_refl 0⟩ d_M_numeral_145 (fun H locs hst => ?_)
                  obtain ⟨x88, hc89, hm⟩ := bd_u hm
                  refine cl_si hx hb hml hown hG hg (cM_isDigit l dC dI tk A (oW 0 h ksM spM tk L g71 a78 rw) n x85 _ hc89) (cw_s 1 hG k_1208 k_1209 k_14 k_1210 (by decide +kernel) ⟨by decide, by decide⟩) hst rfl hl.1 rfl (Nat.le_of_ble_eq_true rfl) ⟨Nat.le_refl 0, Nat.le_refl 0⟩ d_M_numeral_148 (fun H locs hst => ?_)
                  refine lv_if_ne (tgt := 158) hx hb d_M_numeral_151 (by decide) (fun h90 => ?_) (fun h90 => ?_)
                  · have hm := it_f hm h90
                    refine lv_iconst (v := 0) hx hb d_M_numeral_158 (by decide) ?_
                    have he := (Option.some.inj hm)
                    cases he
                    exact rt_i hx hb hr hlk (by decide) hst rfl d_M_numeral_159
                  · have hm := it_t hm h90
                    refine lv_iconst (v := 1) hx hb d_M_numeral_154 (by decide) ?_
                    refine lv_goto (tgt := 159) hx hb d_M_numeral_155 (by decide) ?_
                    have he := (Option.some.inj hm)
                    cases he
                    exact rt_i hx hb hr hlk (by decide) hst rfl d_M_numeral_159
                refine lv_if_eq (tgt := 144) hx hb d_M_numeral_136 (by decide) (fun h91 => ?_) (fun h91 => ?_)
                · have hm := it_t hm h91
                  exact hJ81  (Option.some.inj hm).symm _ _ _ (lv_sub hl [0, 1, 2, 3, 4, 5] rfl) hst
                · have hm := it_f hm h91
                  refine lv_iload hx hb d_M_numeral_139 (lv_at hl 5 rfl) ?_
                  refine lv_if_ne (tgt := 158) hx hb d_M_numeral_141 (by decide) (fun h92 => ?_) (fun h92 => ?_)
                  rotate_left
                  · exact absurd h92 (by decide)
                  refine lv_iconst (v := 0) hx hb d_M_numeral_158 (by decide) ?_
                  have he := (hR82 _ (Option.some.inj hm).symm)
                  cases he
                  exact rt_i hx hb hr hlk (by decide) hst rfl d_M_numeral_159
          refine lv_if_eq (tgt := 121) hx hb d_M_numeral_113 (by decide) (fun h93 => ?_) (fun h93 => ?_)
          · have hm := it_t hm h93
            refine lv_iload_n hx hb d_M_numeral_121 rfl (lv_at hl 3 rfl) ?_
            exact hJ73 x69 (Option.some.inj hm).symm _ _ _ (lv_sub hl [0, 1, 2, 3, 4, 5] rfl) hst
          · have hm := it_f hm h93
            refine lv_iload_n hx hb d_M_numeral_116 rfl (lv_at hl 3 rfl) ?_
            refine lv_ineg hx hb d_M_numeral_117 ?_
            refine lv_goto (tgt := 122) hx hb d_M_numeral_118 (by decide) ?_
            exact hJ73 (-x69) (Option.some.inj hm).symm _ _ _ (lv_sub hl [0, 1, 2, 3, 4, 5] rfl) hst
        refine lp_u (fun q97 : Int32 × Int32 × aG => ∀ (H : Heap) (locs : List Loc) (ls : Array Slot), lv_has ls 6 [(0, .ref h), (1, .int v1), (2, .int x6), (3, .int q97.1), (4, .int q97.2.1), (5, .int 1)] → St dC dI A s.heap H locs (oW 0 h ksM spM tk L q97.2.2 a rw) → W p l e (rmo 1 20) s m args below meth c H locs 0 0 (MQ below (QI dC dI A r0 (oW 0 h ksM spM tk L g0 a0 rw)) args s 0 0 A) (F0 m 50 ls [])) ?_ n (0, 0, g10) hm _ _ _ (lv_sub hl [3, 4, 5, 2, 1, 0] rfl) hst
        rintro ⟨x94, x95, g96⟩ r100 hm hJ980 hR99 H locs ls hl hst
        dsimp only at hm hl hst ⊢
        have hJ98 := fun y0 y1 y2 (e : r100 = .inl (y0, y1, y2)) => hJ980 (y0, y1, y2) e
        dsimp only at hJ98
        refine lv_aload_n hx hb d_M_numeral_50 rfl (lv_at hl 0 rfl) ?_
        obtain ⟨x102, hc103, hm⟩ := bd_u hm
        refine cl_vi hx hb hml hown hG hg (cM_peek l dC dI tk A h L g96 a rw n _ hc103) (cw_v 0 hG k_1176 k_1178 s_29 k_14 k_1179 (by decide +kernel) ⟨by decide, by decide⟩) hst rfl oW_0 rfl hl.1 rfl (Nat.le_of_ble_eq_true rfl) ⟨Nat.le_refl 0, Nat.le_refl 0⟩ d_M_numeral_51 (fun H locs hst => ?_)
        obtain ⟨x105, hc106, hm⟩ := bd_u hm
        refine cl_si hx hb hml hown hG hg (cM_isDigit l dC dI tk A (oW 0 h ksM spM tk L g96 a rw) n x102 _ hc106) (cw_s 1 hG k_1208 k_1209 k_14 k_1210 (by decide +kernel) ⟨by decide, by decide⟩) hst rfl hl.1 rfl (Nat.le_of_ble_eq_true rfl) ⟨Nat.le_refl 0, Nat.le_refl 0⟩ d_M_numeral_54 (fun H locs hst => ?_)
        refine lv_if_eq (tgt := 107) hx hb d_M_numeral_57 (by decide) (fun h107 => ?_) (fun h107 => ?_)
        · have hm := it_t hm h107
          exact hJ67 x94 x95 g96 (hR99 _ (Option.some.inj hm).symm).symm _ _ _ (lv_sub hl [0, 1, 2, 3, 4, 5] rfl) hst
        · have hm := it_f hm h107
          refine lv_iload hx hb d_M_numeral_60 (lv_at hl 4 rfl) ?_
          refine lv_bipush (v := 7) hx hb d_M_numeral_62 (by decide) ?_
          refine lv_icmp_ge (tgt := 107) hx hb d_M_numeral_64 (by decide) (fun h108 => ?_) (fun h108 => ?_)
          · have hm := it_t hm h108
            exact hJ67 x94 x95 g96 (hR99 _ (Option.some.inj hm).symm).symm _ _ _ (lv_sub hl [0, 1, 2, 3, 4, 5] rfl) hst
          · have hm := it_f hm h108
            refine lv_iload hx hb d_M_numeral_67 (lv_at hl 5 rfl) ?_
            obtain ⟨qJ109, hm, hLJ109, hR110⟩ := jn_u hm
            have hJ109 : qJ109 = .inl () → ∀ (H : Heap) (locs : List Loc) (ls : Array Slot), lv_has ls 6 [(0, .ref h), (1, .int v1), (2, .int x6), (3, .int x94), (4, .int x95), (5, .int 1)] → St dC dI A s.heap H locs (oW 0 h ksM spM tk L g96 a rw) → W p l e (rmo 1 20) s m args below meth c H locs 0 0 (MQ below (QI dC dI A r0 (oW 0 h ksM spM tk L g0 a0 rw)) args s 0 0 A) (F0 m 78 ls []) := by
              intro hq H locs ls hl hst
              have hm := hLJ109 _ hq
              refine lv_bipush (v := 10) hx hb d_M_numeral_78 (by decide) ?_
              refine lv_iload_n hx hb d_M_numeral_80 rfl (lv_at hl 3 rfl) ?_
              refine lv_imul hx hb d_M_numeral_81 ?_
              refine lv_aload_n hx hb d_M_numeral_82 rfl (lv_at hl 0 rfl) ?_
              obtain ⟨x113, hc114, hm⟩ := bd_u hm
              refine cl_vi hx hb hml hown hG hg (cM_peek l dC dI tk A h L g96 a rw n _ hc114) (cw_v 0 hG k_1176 k_1178 s_29 k_14 k_1179 (by decide +kernel) ⟨by decide, by decide⟩) hst rfl oW_0 rfl hl.1 rfl (Nat.le_of_ble_eq_true rfl) ⟨Nat.le_refl 0, Nat.le_refl 0⟩ d_M_numeral_83 (fun H locs hst => ?_)
              refine lv_iadd hx hb d_M_numeral_86 ?_
              refine lv_bipush (v := 48) hx hb d_M_numeral_87 (by decide) ?_
              refine lv_isub hx hb d_M_numeral_89 ?_
              refine lv_topi (fun x115 ex115 => ?_)
              have hm := lt_u hm x115 ex115
              refine lv_istore_n (lv' := [(3, .int x115), (0, .ref h), (1, .int v1), (2, .int x6), (4, .int x95), (5, .int 1)]) hx hb d_M_numeral_90 rfl hl (by decide) rfl (fun ls hl => ?_)
              refine lv_iinc (k := 4) (v := (x95 + 1)) (lv' := [(4, .int (x95 + 1)), (3, .int x115), (0, .ref h), (1, .int v1), (2, .int x6), (5, .int 1)]) hx hb d_M_numeral_91 hl rfl (by rfl) (by decide) rfl (fun ls hl => ?_)
              refine lv_aload_n hx hb d_M_numeral_94 rfl (lv_at hl 2 rfl) ?_
              refine lv_dup hx hb d_M_numeral_95 rfl ?_
              refine ro_geti hx hb hown hG hg cM hst 20 (by decide) rfl rfl k_1034 d_M_numeral_96 ?_
              refine lv_iconst (v := 1) hx hb d_M_numeral_99 (by decide) ?_
              refine lv_iadd hx hb d_M_numeral_100 ?_
              refine ro_puti hx hb hown hG hg cM hst 20 (by decide) rfl rfl rfl rfl rfl k_1034 d_M_numeral_101 (fun g116 H locs eg116 hst => ?_)
              have hm := lt_u hm g116 eg116
              refine lv_goto (tgt := 50) hx hb d_M_numeral_104 (by decide) ?_
              exact hJ98 x115 (x95 + 1) g116 (Option.some.inj hm).symm _ _ _ (lv_sub hl [2, 3, 4, 1, 0, 5] rfl) hst
            refine lv_if_eq (tgt := 78) hx hb d_M_numeral_69 (by decide) (fun h117 => ?_) (fun h117 => ?_)
            · exact absurd h117 (by decide)
            refine lv_iload hx hb d_M_numeral_72 (lv_at hl 4 rfl) ?_
            refine lv_iconst (v := 1) hx hb d_M_numeral_74 (by decide) ?_
            refine lv_icmp_eq (tgt := 107) hx hb d_M_numeral_75 (by decide) (fun h118 => ?_) (fun h118 => ?_)
            · have hm := it_t hm h118
              exact hJ67 x94 x95 g96 (hR99 _ (hR110 _ (Option.some.inj hm).symm).symm).symm _ _ _ (lv_sub hl [0, 1, 2, 3, 4, 5] rfl) hst
            · have hm := it_f hm h118
              exact hJ109  (Option.some.inj hm).symm _ _ _ (lv_sub hl [0, 1, 2, 3, 4, 5] rfl) hst
    refine lv_if_eq (tgt := 29) hx hb d_M_numeral_16 (by decide) (fun h119 => ?_) (fun h119 => ?_)
    · have hm := it_t hm h119
      exact hJ8 g (Option.some.inj hm).symm _ _ _ (lv_sub hl [1, 2, 0] rfl) hst
    · have hm := it_f hm h119
      refine lv_aload_n hx hb d_M_numeral_19 rfl (lv_at hl 1 rfl) ?_
      refine lv_dup hx hb d_M_numeral_20 rfl ?_
      refine ro_geti hx hb hown hG hg cM hst 20 (by decide) rfl rfl k_1034 d_M_numeral_21 ?_
      refine lv_iconst (v := 1) hx hb d_M_numeral_24 (by decide) ?_
      refine lv_iadd hx hb d_M_numeral_25 ?_
      refine ro_puti hx hb hown hG hg cM hst 20 (by decide) rfl rfl rfl rfl rfl k_1034 d_M_numeral_26 (fun g120 H locs eg120 hst => ?_)
      have hm := lt_u hm g120 eg120
      exact hJ8 g120 (Option.some.inj hm).symm _ _ _ (lv_sub hl [1, 2, 0] rfl) hst
  refine lv_icmp_ne (tgt := 13) hx hb d_M_numeral_6 (by decide) (fun h121 => ?_) (fun h121 => ?_)
  · have hm := it_f hm h121
    refine lv_iconst (v := 0) hx hb d_M_numeral_13 (by decide) ?_
    exact hJ4 0 (Option.some.inj hm).symm _ _ _ (lv_sub hl [0, 1] rfl) hst
  · have hm := it_t hm h121
    refine lv_iconst (v := 1) hx hb d_M_numeral_9 (by decide) ?_
    refine lv_goto (tgt := 14) hx hb d_M_numeral_10 (by decide) ?_
    exact hJ4 1 (Option.some.inj hm).symm _ _ _ (lv_sub hl [0, 1] rfl) hst
def mM_word (n : Nat) (v1 : Int32) (v2 : Int32) (v3 : Int32) (v4 : Int32) (g : aG) (a : aA) : Option (Int32 × aG) := jn (α := aG) (if (g 6) ≤ ((g 20) + 3) then (some (.inl g)) else (gd (inb ((g 20) + 1) 200) (lt (a 0 ((g 20) + 1).toNatClampNeg) (fun x15 => if x15 = v1 then (gd (inb ((g 20) + 2) 200) (lt (a 0 ((g 20) + 2).toNatClampNeg) (fun x18 => if x18 = v2 then (gd (inb ((g 20) + 3) 200) (lt (a 0 ((g 20) + 3).toNatClampNeg) (fun x21 => if x21 = v3 then (lt (va_up g 20 ((g 20) + 4)) (fun g23 => if v4 = 0 then (some (.inr ((1, g23)))) else (jn (α := aG) (if (g23 6) ≤ (g23 20) then (some (.inl g23)) else (gd (inb (g23 20) 200) (lt (a 0 (g23 20).toNatClampNeg) (fun x33 => if x33 = v4 then (lt (va_up g23 20 ((g23 20) + 1)) (fun g35 => some (.inr (.inr ((1, g35)))))) else (some (.inl g23)))))) (fun g27 => lt (va_up g27 20 ((g27 20) + 1)) (fun g29 => some (.inr ((0, g29)))))))) else (some (.inl g))))) else (some (.inl g))))) else (some (.inl g)))))) (fun g3 => lt (va_up g3 20 ((g3 20) + 4)) (fun g5 => if v4 = 0 then (some ((0, g5))) else (jn (α := aG) (some (.inl g5)) (fun g9 => lt (va_up g9 20 ((g9 20) + 1)) (fun g11 => some ((0, g11)))))))
theorem d_M_word_0 : decode prog_11_method_13_code 0 = .ok (.aload_n 0, 1) := by decide +kernel
theorem d_M_word_1 : decode prog_11_method_13_code 1 = .ok (.getfield 121, 3) := by decide +kernel
theorem d_M_word_4 : decode prog_11_method_13_code 4 = .ok (.iconst 3, 1) := by decide +kernel
theorem d_M_word_5 : decode prog_11_method_13_code 5 = .ok (.iadd, 1) := by decide +kernel
theorem d_M_word_6 : decode prog_11_method_13_code 6 = .ok (.aload_n 0, 1) := by decide +kernel
theorem d_M_word_7 : decode prog_11_method_13_code 7 = .ok (.getfield 109, 3) := by decide +kernel
theorem d_M_word_10 : decode prog_11_method_13_code 10 = .ok (.if_icmp .ge 52, 3) := by decide +kernel
theorem d_M_word_13 : decode prog_11_method_13_code 13 = .ok (.aload_n 0, 1) := by decide +kernel
theorem d_M_word_14 : decode prog_11_method_13_code 14 = .ok (.getfield 7, 3) := by decide +kernel
theorem d_M_word_17 : decode prog_11_method_13_code 17 = .ok (.aload_n 0, 1) := by decide +kernel
theorem d_M_word_18 : decode prog_11_method_13_code 18 = .ok (.getfield 121, 3) := by decide +kernel
theorem d_M_word_21 : decode prog_11_method_13_code 21 = .ok (.iconst 1, 1) := by decide +kernel
theorem d_M_word_22 : decode prog_11_method_13_code 22 = .ok (.iadd, 1) := by decide +kernel
theorem d_M_word_23 : decode prog_11_method_13_code 23 = .ok (.iaload, 1) := by decide +kernel
theorem d_M_word_24 : decode prog_11_method_13_code 24 = .ok (.iload_n 1, 1) := by decide +kernel
theorem d_M_word_25 : decode prog_11_method_13_code 25 = .ok (.if_icmp .ne 37, 3) := by decide +kernel
theorem d_M_word_28 : decode prog_11_method_13_code 28 = .ok (.aload_n 0, 1) := by decide +kernel
theorem d_M_word_29 : decode prog_11_method_13_code 29 = .ok (.getfield 7, 3) := by decide +kernel
theorem d_M_word_32 : decode prog_11_method_13_code 32 = .ok (.aload_n 0, 1) := by decide +kernel
theorem d_M_word_33 : decode prog_11_method_13_code 33 = .ok (.getfield 121, 3) := by decide +kernel
theorem d_M_word_36 : decode prog_11_method_13_code 36 = .ok (.iconst 2, 1) := by decide +kernel
theorem d_M_word_37 : decode prog_11_method_13_code 37 = .ok (.iadd, 1) := by decide +kernel
theorem d_M_word_38 : decode prog_11_method_13_code 38 = .ok (.iaload, 1) := by decide +kernel
theorem d_M_word_39 : decode prog_11_method_13_code 39 = .ok (.iload_n 2, 1) := by decide +kernel
theorem d_M_word_40 : decode prog_11_method_13_code 40 = .ok (.if_icmp .ne 22, 3) := by decide +kernel
theorem d_M_word_43 : decode prog_11_method_13_code 43 = .ok (.aload_n 0, 1) := by decide +kernel
theorem d_M_word_44 : decode prog_11_method_13_code 44 = .ok (.getfield 7, 3) := by decide +kernel
theorem d_M_word_47 : decode prog_11_method_13_code 47 = .ok (.aload_n 0, 1) := by decide +kernel
theorem d_M_word_48 : decode prog_11_method_13_code 48 = .ok (.getfield 121, 3) := by decide +kernel
theorem d_M_word_51 : decode prog_11_method_13_code 51 = .ok (.iconst 3, 1) := by decide +kernel
theorem d_M_word_52 : decode prog_11_method_13_code 52 = .ok (.iadd, 1) := by decide +kernel
theorem d_M_word_53 : decode prog_11_method_13_code 53 = .ok (.iaload, 1) := by decide +kernel
theorem d_M_word_54 : decode prog_11_method_13_code 54 = .ok (.iload_n 3, 1) := by decide +kernel
theorem d_M_word_55 : decode prog_11_method_13_code 55 = .ok (.if_icmp .ne 7, 3) := by decide +kernel
theorem d_M_word_58 : decode prog_11_method_13_code 58 = .ok (.iconst 1, 1) := by decide +kernel
theorem d_M_word_59 : decode prog_11_method_13_code 59 = .ok (.goto 4, 3) := by decide +kernel
theorem d_M_word_62 : decode prog_11_method_13_code 62 = .ok (.iconst 0, 1) := by decide +kernel
theorem d_M_word_63 : decode prog_11_method_13_code 63 = .ok (.istore 5, 2) := by decide +kernel
theorem d_M_word_65 : decode prog_11_method_13_code 65 = .ok (.aload_n 0, 1) := by decide +kernel
theorem d_M_word_66 : decode prog_11_method_13_code 66 = .ok (.dup, 1) := by decide +kernel
theorem d_M_word_67 : decode prog_11_method_13_code 67 = .ok (.getfield 121, 3) := by decide +kernel
theorem d_M_word_70 : decode prog_11_method_13_code 70 = .ok (.iconst 4, 1) := by decide +kernel
theorem d_M_word_71 : decode prog_11_method_13_code 71 = .ok (.iadd, 1) := by decide +kernel
theorem d_M_word_72 : decode prog_11_method_13_code 72 = .ok (.putfield 121, 3) := by decide +kernel
theorem d_M_word_75 : decode prog_11_method_13_code 75 = .ok (.iload 4, 2) := by decide +kernel
theorem d_M_word_77 : decode prog_11_method_13_code 77 = .ok (.ifCond .ne 6, 3) := by decide +kernel
theorem d_M_word_80 : decode prog_11_method_13_code 80 = .ok (.iload 5, 2) := by decide +kernel
theorem d_M_word_82 : decode prog_11_method_13_code 82 = .ok (.ireturn, 1) := by decide +kernel
theorem d_M_word_83 : decode prog_11_method_13_code 83 = .ok (.iload 5, 2) := by decide +kernel
theorem d_M_word_85 : decode prog_11_method_13_code 85 = .ok (.ifCond .eq 32, 3) := by decide +kernel
theorem d_M_word_88 : decode prog_11_method_13_code 88 = .ok (.aload_n 0, 1) := by decide +kernel
theorem d_M_word_89 : decode prog_11_method_13_code 89 = .ok (.getfield 121, 3) := by decide +kernel
theorem d_M_word_92 : decode prog_11_method_13_code 92 = .ok (.aload_n 0, 1) := by decide +kernel
theorem d_M_word_93 : decode prog_11_method_13_code 93 = .ok (.getfield 109, 3) := by decide +kernel
theorem d_M_word_96 : decode prog_11_method_13_code 96 = .ok (.if_icmp .ge 21, 3) := by decide +kernel
theorem d_M_word_99 : decode prog_11_method_13_code 99 = .ok (.aload_n 0, 1) := by decide +kernel
theorem d_M_word_100 : decode prog_11_method_13_code 100 = .ok (.getfield 7, 3) := by decide +kernel
theorem d_M_word_103 : decode prog_11_method_13_code 103 = .ok (.aload_n 0, 1) := by decide +kernel
theorem d_M_word_104 : decode prog_11_method_13_code 104 = .ok (.getfield 121, 3) := by decide +kernel
theorem d_M_word_107 : decode prog_11_method_13_code 107 = .ok (.iaload, 1) := by decide +kernel
theorem d_M_word_108 : decode prog_11_method_13_code 108 = .ok (.iload 4, 2) := by decide +kernel
theorem d_M_word_110 : decode prog_11_method_13_code 110 = .ok (.if_icmp .ne 7, 3) := by decide +kernel
theorem d_M_word_113 : decode prog_11_method_13_code 113 = .ok (.iconst 1, 1) := by decide +kernel
theorem d_M_word_114 : decode prog_11_method_13_code 114 = .ok (.goto 4, 3) := by decide +kernel
theorem d_M_word_117 : decode prog_11_method_13_code 117 = .ok (.iconst 0, 1) := by decide +kernel
theorem d_M_word_118 : decode prog_11_method_13_code 118 = .ok (.istore 5, 2) := by decide +kernel
theorem d_M_word_120 : decode prog_11_method_13_code 120 = .ok (.aload_n 0, 1) := by decide +kernel
theorem d_M_word_121 : decode prog_11_method_13_code 121 = .ok (.dup, 1) := by decide +kernel
theorem d_M_word_122 : decode prog_11_method_13_code 122 = .ok (.getfield 121, 3) := by decide +kernel
theorem d_M_word_125 : decode prog_11_method_13_code 125 = .ok (.iconst 1, 1) := by decide +kernel
theorem d_M_word_126 : decode prog_11_method_13_code 126 = .ok (.iadd, 1) := by decide +kernel
theorem d_M_word_127 : decode prog_11_method_13_code 127 = .ok (.putfield 121, 3) := by decide +kernel
theorem d_M_word_130 : decode prog_11_method_13_code 130 = .ok (.iload 5, 2) := by decide +kernel
theorem d_M_word_132 : decode prog_11_method_13_code 132 = .ok (.ireturn, 1) := by decide +kernel
set_option maxHeartbeats 4000000 in
set_option maxRecDepth 100000 in
theorem cM_word (l : Launch) (dC : Nat → ClassId) (dI : Nat → Nat → Nat) (tk : Nat → ClassId) (A : Nat → Prop) (h : Nat) (L : Nat → Nat) (g : aG) (a : aA) (rw : va_W) (n : Nat) (v1 : Int32) (v2 : Int32) (v3 : Int32) (v4 : Int32) (r0 : Int32) (g0 : aG) (hm : mM_word n v1 v2 v3 v4 g a = some (r0, g0)) : CtI l dC dI tk A ⟨"EditorServerModel", "word", "(IIII)Z"⟩ prog_11_method_13_code 6 (some .boolean) 0 0 [.ref h, .int v1, .int v2, .int v3, .int v4] (oW 0 h ksM spM tk L g a rw) r0 (oW 0 h ksM spM tk L g0 a rw) := by
  refine ent (by decide) (Nat.le_of_ble_eq_true rfl) ?_
  intro p e s m args below meth c hx hb hr hml hown hlk hG hg hst ls hl
  unfold mM_word at hm
  have hl : lv_has ls 6 [(0, .ref h), (1, .int v1), (2, .int v2), (3, .int v3), (4, .int v4)] := hl
  refine lv_aload_n hx hb d_M_word_0 rfl (lv_at hl 0 rfl) ?_
  refine ro_geti hx hb hown hG hg cM hst 20 (by decide) rfl rfl k_1034 d_M_word_1 ?_
  refine lv_iconst (v := 3) hx hb d_M_word_4 (by decide) ?_
  refine lv_iadd hx hb d_M_word_5 ?_
  refine lv_aload_n hx hb d_M_word_6 rfl (lv_at hl 0 rfl) ?_
  refine ro_geti hx hb hown hG hg cM hst 6 (by decide) rfl rfl k_1020 d_M_word_7 ?_
  obtain ⟨qJ1, hm, hLJ1, hR2⟩ := jn_u hm
  have hJ1 : ∀ (g3 : aG), qJ1 = .inl g3 → ∀ (H : Heap) (locs : List Loc) (ls : Array Slot), lv_has ls 6 [(0, .ref h), (1, .int v1), (2, .int v2), (3, .int v3), (4, .int v4)] → St dC dI A s.heap H locs (oW 0 h ksM spM tk L g3 a rw) → W p l e (rmo 0 0) s m args below meth c H locs 0 0 (MQ below (QI dC dI A r0 (oW 0 h ksM spM tk L g0 a rw)) args s 0 0 A) (F0 m 62 ls []) := by
    intro g3 hq H locs ls hl hst
    have hm := hLJ1 _ hq
    refine lv_iconst (v := 0) hx hb d_M_word_62 (by decide) ?_
    refine lv_istore (lv' := [(5, .int 0), (0, .ref h), (1, .int v1), (2, .int v2), (3, .int v3), (4, .int v4)]) hx hb d_M_word_63 hl (by decide) rfl (fun ls hl => ?_)
    refine lv_aload_n hx hb d_M_word_65 rfl (lv_at hl 1 rfl) ?_
    refine lv_dup hx hb d_M_word_66 rfl ?_
    refine ro_geti hx hb hown hG hg cM hst 20 (by decide) rfl rfl k_1034 d_M_word_67 ?_
    refine lv_iconst (v := 4) hx hb d_M_word_70 (by decide) ?_
    refine lv_iadd hx hb d_M_word_71 ?_
    refine ro_puti hx hb hown hG hg cM hst 20 (by decide) rfl rfl rfl rfl rfl k_1034 d_M_word_72 (fun g5 H locs eg5 hst => ?_)
    have hm := lt_u hm g5 eg5
    refine lv_iload hx hb d_M_word_75 (lv_at hl 5 rfl) ?_
    refine lv_if_ne (tgt := 83) hx hb d_M_word_77 (by decide) (fun h6 => ?_) (fun h6 => ?_)
    · have hm := it_f hm h6
      refine lv_iload hx hb d_M_word_83 (lv_at hl 0 rfl) ?_
      obtain ⟨qJ7, hm, hLJ7, hR8⟩ := jn_u hm
      have hJ7 : ∀ (g9 : aG), qJ7 = .inl g9 → ∀ (H : Heap) (locs : List Loc) (ls : Array Slot), lv_has ls 6 [(0, .ref h), (1, .int v1), (2, .int v2), (3, .int v3), (4, .int v4)] → St dC dI A s.heap H locs (oW 0 h ksM spM tk L g9 a rw) → W p l e (rmo 0 0) s m args below meth c H locs 0 0 (MQ below (QI dC dI A r0 (oW 0 h ksM spM tk L g0 a rw)) args s 0 0 A) (F0 m 117 ls []) := by
        intro g9 hq H locs ls hl hst
        have hm := hLJ7 _ hq
        refine lv_iconst (v := 0) hx hb d_M_word_117 (by decide) ?_
        refine lv_istore (lv' := [(5, .int 0), (0, .ref h), (1, .int v1), (2, .int v2), (3, .int v3), (4, .int v4)]) hx hb d_M_word_118 hl (by decide) rfl (fun ls hl => ?_)
        refine lv_aload_n hx hb d_M_word_120 rfl (lv_at hl 1 rfl) ?_
        refine lv_dup hx hb d_M_word_121 rfl ?_
        refine ro_geti hx hb hown hG hg cM hst 20 (by decide) rfl rfl k_1034 d_M_word_122 ?_
        refine lv_iconst (v := 1) hx hb d_M_word_125 (by decide) ?_
        refine lv_iadd hx hb d_M_word_126 ?_
        refine ro_puti hx hb hown hG hg cM hst 20 (by decide) rfl rfl rfl rfl rfl k_1034 d_M_word_127 (fun g11 H locs eg11 hst => ?_)
        have hm := lt_u hm g11 eg11
        refine lv_iload hx hb d_M_word_130 (lv_at hl 0 rfl) ?_
        have he := (Option.some.inj hm)
        cases he
        exact rt_i hx hb hr hlk (by decide) hst rfl d_M_word_132
      refine lv_if_eq (tgt := 117) hx hb d_M_word_85 (by decide) (fun h12 => ?_) (fun h12 => ?_)
      rotate_left
      · exact absurd h12 (by decide)
      exact hJ7 g5 (Option.some.inj hm).symm _ _ _ (lv_sub hl [1, 2, 3, 4, 5] rfl) hst
    · have hm := it_t hm h6
      refine lv_iload hx hb d_M_word_80 (lv_at hl 0 rfl) ?_
      have he := (Option.some.inj hm)
      cases he
      exact rt_i hx hb hr hlk (by decide) hst rfl d_M_word_82
  refine lv_icmp_ge (tgt := 62) hx hb d_M_word_10 (by decide) (fun h13 => ?_) (fun h13 => ?_)
  · have hm := it_t hm h13
    exact hJ1 g (Option.some.inj hm).symm _ _ _ (lv_sub hl [0, 1, 2, 3, 4] rfl) hst
  · have hm := it_f hm h13
    refine lv_aload_n hx hb d_M_word_13 rfl (lv_at hl 0 rfl) ?_
    refine ro_geta hx hb hown hG hg cM hst 7 0 (by decide) rfl rfl k_1021 d_M_word_14 ?_
    refine lv_aload_n hx hb d_M_word_17 rfl (lv_at hl 0 rfl) ?_
    refine ro_geti hx hb hown hG hg cM hst 20 (by decide) rfl rfl k_1034 d_M_word_18 ?_
    refine lv_iconst (v := 1) hx hb d_M_word_21 (by decide) ?_
    refine lv_iadd hx hb d_M_word_22 ?_
    obtain ⟨hn14, hm⟩ := gd_u hm
    refine ro_iald hx hb hg hst 0 rfl hn14 d_M_word_23 ?_
    refine lv_topi (fun x15 ex15 => ?_)
    have hm := lt_u hm x15 ex15
    refine lv_iload_n hx hb d_M_word_24 rfl (lv_at hl 1 rfl) ?_
    refine lv_icmp_ne (tgt := 62) hx hb d_M_word_25 (by decide) (fun h16 => ?_) (fun h16 => ?_)
    · have hm := it_f hm h16
      exact hJ1 g (Option.some.inj hm).symm _ _ _ (lv_sub hl [0, 1, 2, 3, 4] rfl) hst
    · have hm := it_t hm h16
      refine lv_aload_n hx hb d_M_word_28 rfl (lv_at hl 0 rfl) ?_
      refine ro_geta hx hb hown hG hg cM hst 7 0 (by decide) rfl rfl k_1021 d_M_word_29 ?_
      refine lv_aload_n hx hb d_M_word_32 rfl (lv_at hl 0 rfl) ?_
      refine ro_geti hx hb hown hG hg cM hst 20 (by decide) rfl rfl k_1034 d_M_word_33 ?_
      refine lv_iconst (v := 2) hx hb d_M_word_36 (by decide) ?_
      refine lv_iadd hx hb d_M_word_37 ?_
      obtain ⟨hn17, hm⟩ := gd_u hm
      refine ro_iald hx hb hg hst 0 rfl hn17 d_M_word_38 ?_
      refine lv_topi (fun x18 ex18 => ?_)
      have hm := lt_u hm x18 ex18
      refine lv_iload_n hx hb d_M_word_39 rfl (lv_at hl 2 rfl) ?_
      refine lv_icmp_ne (tgt := 62) hx hb d_M_word_40 (by decide) (fun h19 => ?_) (fun h19 => ?_)
      · have hm := it_f hm h19
        exact hJ1 g (Option.some.inj hm).symm _ _ _ (lv_sub hl [0, 1, 2, 3, 4] rfl) hst
      · have hm := it_t hm h19
        refine lv_aload_n hx hb d_M_word_43 rfl (lv_at hl 0 rfl) ?_
        refine ro_geta hx hb hown hG hg cM hst 7 0 (by decide) rfl rfl k_1021 d_M_word_44 ?_
        refine lv_aload_n hx hb d_M_word_47 rfl (lv_at hl 0 rfl) ?_
        refine ro_geti hx hb hown hG hg cM hst 20 (by decide) rfl rfl k_1034 d_M_word_48 ?_
        refine lv_iconst (v := 3) hx hb d_M_word_51 (by decide) ?_
        refine lv_iadd hx hb d_M_word_52 ?_
        obtain ⟨hn20, hm⟩ := gd_u hm
        refine ro_iald hx hb hg hst 0 rfl hn20 d_M_word_53 ?_
        refine lv_topi (fun x21 ex21 => ?_)
        have hm := lt_u hm x21 ex21
        refine lv_iload_n hx hb d_M_word_54 rfl (lv_at hl 3 rfl) ?_
        refine lv_icmp_ne (tgt := 62) hx hb d_M_word_55 (by decide) (fun h22 => ?_) (fun h22 => ?_)
        · have hm := it_f hm h22
          exact hJ1 g (Option.some.inj hm).symm _ _ _ (lv_sub hl [0, 1, 2, 3, 4] rfl) hst
        · have hm := it_t hm h22
          refine lv_iconst (v := 1) hx hb d_M_word_58 (by decide) ?_
          refine lv_goto (tgt := 63) hx hb d_M_word_59 (by decide) ?_
          refine lv_istore (lv' := [(5, .int 1), (0, .ref h), (1, .int v1), (2, .int v2), (3, .int v3), (4, .int v4)]) hx hb d_M_word_63 hl (by decide) rfl (fun ls hl => ?_)
          refine lv_aload_n hx hb d_M_word_65 rfl (lv_at hl 1 rfl) ?_
          refine lv_dup hx hb d_M_word_66 rfl ?_
          refine ro_geti hx hb hown hG hg cM hst 20 (by decide) rfl rfl k_1034 d_M_word_67 ?_
          refine lv_iconst (v := 4) hx hb d_M_word_70 (by decide) ?_
          refine lv_iadd hx hb d_M_word_71 ?_
          refine ro_puti hx hb hown hG hg cM hst 20 (by decide) rfl rfl rfl rfl rfl k_1034 d_M_word_72 (fun g23 H locs eg23 hst => ?_)
          have hm := lt_u hm g23 eg23
          refine lv_iload hx hb d_M_word_75 (lv_at hl 5 rfl) ?_
          refine lv_if_ne (tgt := 83) hx hb d_M_word_77 (by decide) (fun h24 => ?_) (fun h24 => ?_)
          · have hm := it_f hm h24
            refine lv_iload hx hb d_M_word_83 (lv_at hl 0 rfl) ?_
            obtain ⟨qJ25, hm, hLJ25, hR26⟩ := jn_u hm
            have hJ25 : ∀ (g27 : aG), qJ25 = .inl g27 → ∀ (H : Heap) (locs : List Loc) (ls : Array Slot), lv_has ls 6 [(0, .ref h), (1, .int v1), (2, .int v2), (3, .int v3), (4, .int v4)] → St dC dI A s.heap H locs (oW 0 h ksM spM tk L g27 a rw) → W p l e (rmo 0 0) s m args below meth c H locs 0 0 (MQ below (QI dC dI A r0 (oW 0 h ksM spM tk L g0 a rw)) args s 0 0 A) (F0 m 117 ls []) := by
              intro g27 hq H locs ls hl hst
              have hm := hLJ25 _ hq
              refine lv_iconst (v := 0) hx hb d_M_word_117 (by decide) ?_
              refine lv_istore (lv' := [(5, .int 0), (0, .ref h), (1, .int v1), (2, .int v2), (3, .int v3), (4, .int v4)]) hx hb d_M_word_118 hl (by decide) rfl (fun ls hl => ?_)
              refine lv_aload_n hx hb d_M_word_120 rfl (lv_at hl 1 rfl) ?_
              refine lv_dup hx hb d_M_word_121 rfl ?_
              refine ro_geti hx hb hown hG hg cM hst 20 (by decide) rfl rfl k_1034 d_M_word_122 ?_
              refine lv_iconst (v := 1) hx hb d_M_word_125 (by decide) ?_
              refine lv_iadd hx hb d_M_word_126 ?_
              refine ro_puti hx hb hown hG hg cM hst 20 (by decide) rfl rfl rfl rfl rfl k_1034 d_M_word_127 (fun g29 H locs eg29 hst => ?_)
              have hm := lt_u hm g29 eg29
              refine lv_iload hx hb d_M_word_130 (lv_at hl 0 rfl) ?_
              have he := (hR2 _ (Option.some.inj hm).symm)
              cases he
              exact rt_i hx hb hr hlk (by decide) hst rfl d_M_word_132
            refine lv_if_eq (tgt := 117) hx hb d_M_word_85 (by decide) (fun h30 => ?_) (fun h30 => ?_)
            · exact absurd h30 (by decide)
            refine lv_aload_n hx hb d_M_word_88 rfl (lv_at hl 1 rfl) ?_
            refine ro_geti hx hb hown hG hg cM hst 20 (by decide) rfl rfl k_1034 d_M_word_89 ?_
            refine lv_aload_n hx hb d_M_word_92 rfl (lv_at hl 1 rfl) ?_
            refine ro_geti hx hb hown hG hg cM hst 6 (by decide) rfl rfl k_1020 d_M_word_93 ?_
            refine lv_icmp_ge (tgt := 117) hx hb d_M_word_96 (by decide) (fun h31 => ?_) (fun h31 => ?_)
            · have hm := it_t hm h31
              exact hJ25 g23 (Option.some.inj hm).symm _ _ _ (lv_sub hl [1, 2, 3, 4, 5] rfl) hst
            · have hm := it_f hm h31
              refine lv_aload_n hx hb d_M_word_99 rfl (lv_at hl 1 rfl) ?_
              refine ro_geta hx hb hown hG hg cM hst 7 0 (by decide) rfl rfl k_1021 d_M_word_100 ?_
              refine lv_aload_n hx hb d_M_word_103 rfl (lv_at hl 1 rfl) ?_
              refine ro_geti hx hb hown hG hg cM hst 20 (by decide) rfl rfl k_1034 d_M_word_104 ?_
              obtain ⟨hn32, hm⟩ := gd_u hm
              refine ro_iald hx hb hg hst 0 rfl hn32 d_M_word_107 ?_
              refine lv_topi (fun x33 ex33 => ?_)
              have hm := lt_u hm x33 ex33
              refine lv_iload hx hb d_M_word_108 (lv_at hl 5 rfl) ?_
              refine lv_icmp_ne (tgt := 117) hx hb d_M_word_110 (by decide) (fun h34 => ?_) (fun h34 => ?_)
              · have hm := it_f hm h34
                exact hJ25 g23 (Option.some.inj hm).symm _ _ _ (lv_sub hl [1, 2, 3, 4, 5] rfl) hst
              · have hm := it_t hm h34
                refine lv_iconst (v := 1) hx hb d_M_word_113 (by decide) ?_
                refine lv_goto (tgt := 118) hx hb d_M_word_114 (by decide) ?_
                refine lv_istore (lv' := [(5, .int 1), (0, .ref h), (1, .int v1), (2, .int v2), (3, .int v3), (4, .int v4)]) hx hb d_M_word_118 hl (by decide) rfl (fun ls hl => ?_)
                refine lv_aload_n hx hb d_M_word_120 rfl (lv_at hl 1 rfl) ?_
                refine lv_dup hx hb d_M_word_121 rfl ?_
                refine ro_geti hx hb hown hG hg cM hst 20 (by decide) rfl rfl k_1034 d_M_word_122 ?_
                refine lv_iconst (v := 1) hx hb d_M_word_125 (by decide) ?_
                refine lv_iadd hx hb d_M_word_126 ?_
                refine ro_puti hx hb hown hG hg cM hst 20 (by decide) rfl rfl rfl rfl rfl k_1034 d_M_word_127 (fun g35 H locs eg35 hst => ?_)
                have hm := lt_u hm g35 eg35
                refine lv_iload hx hb d_M_word_130 (lv_at hl 0 rfl) ?_
                have he := (hR2 _ (hR26 _ (Option.some.inj hm).symm).symm)
                cases he
                exact rt_i hx hb hr hlk (by decide) hst rfl d_M_word_132
          · have hm := it_t hm h24
            refine lv_iload hx hb d_M_word_80 (lv_at hl 0 rfl) ?_
            have he := (hR2 _ (Option.some.inj hm).symm)
            cases he
            exact rt_i hx hb hr hlk (by decide) hst rfl d_M_word_82
def mM_value (n : Nat) (v1 : Int32) (g : aG) (a : aA) : Option (Int32 × aG × aA) := if (g 8) = 40 then (some ((0, g, a))) else (jn (α := Int32) (if (g 19) = 0 then (some (.inl (-1))) else (gd (inb ((g 19) - 1) 7) (lt (a 9 ((g 19) - 1).toNatClampNeg) (fun x77 => some (.inl x77))))) (fun x4 => gd (inb (g 8) 41) (lt (va_up a 5 (upd (a 5) (g 8).toNatClampNeg x4)) (fun a7 => lt (va_up g 8 ((g 8) + 1)) (fun g8 => lt (va_up g8 21 1) (fun g9 => jn (α := aG × aA) (if v1 = 91 then (some (.inl (g9, a7))) else (if v1 = 123 then (some (.inl (g9, a7))) else (if v1 = 34 then (gd (inb (g 8) 41) (lt (va_up a7 1 (upd (a7 1) (g 8).toNatClampNeg 2)) (fun a62 => gd (inb (g 8) 41) (lt (va_up a62 3 (upd (a62 3) (g 8).toNatClampNeg (g9 17))) (fun a64 => bd (mM_string n g9 a64) (fun q65 => gd (inb (g 8) 41) (lt (q65.2.2 3 (g 8).toNatClampNeg) (fun x71 => gd (inb (g 8) 41) (lt (va_up q65.2.2 4 (upd (q65.2.2 4) (g 8).toNatClampNeg ((q65.2.1 17) - x71))) (fun a73 => gd (okz q65.1) (some (.inr ((q65.1, q65.2.1, a73)))))))))))))) else (gd (inb (g 8) 41) (lt (va_up a7 1 (upd (a7 1) (g 8).toNatClampNeg 0)) (fun a34 => if v1 = 116 then (bd (mM_word n 114 117 101 0 g9 a34) (fun q56 => gd (okz q56.1) (some (.inr ((q56.1, q56.2, a34)))))) else (if v1 = 102 then (bd (mM_word n 97 108 115 101 g9 a34) (fun q51 => gd (okz q51.1) (some (.inr ((q51.1, q51.2, a34)))))) else (if v1 = 110 then (bd (mM_word n 117 108 108 0 g9 a34) (fun q46 => gd (okz q46.1) (some (.inr ((q46.1, q46.2, a34)))))) else (gd (inb (g 8) 41) (lt (va_up a34 1 (upd (a34 1) (g 8).toNatClampNeg 1)) (fun a39 => bd (mM_numeral n (g 8) g9 a39) (fun q40 => gd (okz q40.1) (some (.inr ((q40.1, q40.2.1, q40.2.2)))))))))))))))) (fun q14 => if (q14.1 19) = 6 then (some ((0, q14.1, q14.2))) else (jn (α := Int32) (if v1 = 91 then (some (.inl 3)) else (some (.inl 4))) (fun x18 => gd (inb (g 8) 41) (lt (va_up q14.2 1 (upd (q14.2 1) (g 8).toNatClampNeg x18)) (fun a21 => gd (inb (q14.1 19) 7) (lt (va_up a21 9 (upd (a21 9) (q14.1 19).toNatClampNeg (g 8))) (fun a23 => lt (va_up q14.1 19 ((q14.1 19) + 1)) (fun g24 => lt (va_up g24 20 ((g24 20) + 1)) (fun g25 => if v1 = 91 then (lt (va_up g25 21 2) (fun g28 => some ((1, g28, a23)))) else (lt (va_up g25 21 4) (fun g27 => some ((1, g27, a23)))))))))))))))))))
theorem d_M_value_0 : decode prog_11_method_12_code 0 = .ok (.aload_n 0, 1) := by decide +kernel
theorem d_M_value_1 : decode prog_11_method_12_code 1 = .ok (.getfield 124, 3) := by decide +kernel
theorem d_M_value_4 : decode prog_11_method_12_code 4 = .ok (.bipush 40, 2) := by decide +kernel
theorem d_M_value_6 : decode prog_11_method_12_code 6 = .ok (.if_icmp .ne 5, 3) := by decide +kernel
theorem d_M_value_9 : decode prog_11_method_12_code 9 = .ok (.iconst 0, 1) := by decide +kernel
theorem d_M_value_10 : decode prog_11_method_12_code 10 = .ok (.ireturn, 1) := by decide +kernel
theorem d_M_value_11 : decode prog_11_method_12_code 11 = .ok (.aload_n 0, 1) := by decide +kernel
theorem d_M_value_12 : decode prog_11_method_12_code 12 = .ok (.getfield 124, 3) := by decide +kernel
theorem d_M_value_15 : decode prog_11_method_12_code 15 = .ok (.istore_n 2, 1) := by decide +kernel
theorem d_M_value_16 : decode prog_11_method_12_code 16 = .ok (.aload_n 0, 1) := by decide +kernel
theorem d_M_value_17 : decode prog_11_method_12_code 17 = .ok (.getfield 25, 3) := by decide +kernel
theorem d_M_value_20 : decode prog_11_method_12_code 20 = .ok (.iload_n 2, 1) := by decide +kernel
theorem d_M_value_21 : decode prog_11_method_12_code 21 = .ok (.aload_n 0, 1) := by decide +kernel
theorem d_M_value_22 : decode prog_11_method_12_code 22 = .ok (.getfield 130, 3) := by decide +kernel
theorem d_M_value_25 : decode prog_11_method_12_code 25 = .ok (.ifCond .ne 7, 3) := by decide +kernel
theorem d_M_value_28 : decode prog_11_method_12_code 28 = .ok (.iconst (-1), 1) := by decide +kernel
theorem d_M_value_29 : decode prog_11_method_12_code 29 = .ok (.goto 14, 3) := by decide +kernel
theorem d_M_value_32 : decode prog_11_method_12_code 32 = .ok (.aload_n 0, 1) := by decide +kernel
theorem d_M_value_33 : decode prog_11_method_12_code 33 = .ok (.getfield 37, 3) := by decide +kernel
theorem d_M_value_36 : decode prog_11_method_12_code 36 = .ok (.aload_n 0, 1) := by decide +kernel
theorem d_M_value_37 : decode prog_11_method_12_code 37 = .ok (.getfield 130, 3) := by decide +kernel
theorem d_M_value_40 : decode prog_11_method_12_code 40 = .ok (.iconst 1, 1) := by decide +kernel
theorem d_M_value_41 : decode prog_11_method_12_code 41 = .ok (.isub, 1) := by decide +kernel
theorem d_M_value_42 : decode prog_11_method_12_code 42 = .ok (.iaload, 1) := by decide +kernel
theorem d_M_value_43 : decode prog_11_method_12_code 43 = .ok (.iastore, 1) := by decide +kernel
theorem d_M_value_44 : decode prog_11_method_12_code 44 = .ok (.aload_n 0, 1) := by decide +kernel
theorem d_M_value_45 : decode prog_11_method_12_code 45 = .ok (.dup, 1) := by decide +kernel
theorem d_M_value_46 : decode prog_11_method_12_code 46 = .ok (.getfield 124, 3) := by decide +kernel
theorem d_M_value_49 : decode prog_11_method_12_code 49 = .ok (.iconst 1, 1) := by decide +kernel
theorem d_M_value_50 : decode prog_11_method_12_code 50 = .ok (.iadd, 1) := by decide +kernel
theorem d_M_value_51 : decode prog_11_method_12_code 51 = .ok (.putfield 124, 3) := by decide +kernel
theorem d_M_value_54 : decode prog_11_method_12_code 54 = .ok (.aload_n 0, 1) := by decide +kernel
theorem d_M_value_55 : decode prog_11_method_12_code 55 = .ok (.iconst 1, 1) := by decide +kernel
theorem d_M_value_56 : decode prog_11_method_12_code 56 = .ok (.putfield 133, 3) := by decide +kernel
theorem d_M_value_59 : decode prog_11_method_12_code 59 = .ok (.iload_n 1, 1) := by decide +kernel
theorem d_M_value_60 : decode prog_11_method_12_code 60 = .ok (.bipush 91, 2) := by decide +kernel
theorem d_M_value_62 : decode prog_11_method_12_code 62 = .ok (.if_icmp .eq 9, 3) := by decide +kernel
theorem d_M_value_65 : decode prog_11_method_12_code 65 = .ok (.iload_n 1, 1) := by decide +kernel
theorem d_M_value_66 : decode prog_11_method_12_code 66 = .ok (.bipush 123, 2) := by decide +kernel
theorem d_M_value_68 : decode prog_11_method_12_code 68 = .ok (.if_icmp .ne 78, 3) := by decide +kernel
theorem d_M_value_71 : decode prog_11_method_12_code 71 = .ok (.aload_n 0, 1) := by decide +kernel
theorem d_M_value_72 : decode prog_11_method_12_code 72 = .ok (.getfield 130, 3) := by decide +kernel
theorem d_M_value_75 : decode prog_11_method_12_code 75 = .ok (.bipush 6, 2) := by decide +kernel
theorem d_M_value_77 : decode prog_11_method_12_code 77 = .ok (.if_icmp .ne 5, 3) := by decide +kernel
theorem d_M_value_80 : decode prog_11_method_12_code 80 = .ok (.iconst 0, 1) := by decide +kernel
theorem d_M_value_81 : decode prog_11_method_12_code 81 = .ok (.ireturn, 1) := by decide +kernel
theorem d_M_value_82 : decode prog_11_method_12_code 82 = .ok (.aload_n 0, 1) := by decide +kernel
theorem d_M_value_83 : decode prog_11_method_12_code 83 = .ok (.getfield 13, 3) := by decide +kernel
theorem d_M_value_86 : decode prog_11_method_12_code 86 = .ok (.iload_n 2, 1) := by decide +kernel
theorem d_M_value_87 : decode prog_11_method_12_code 87 = .ok (.iload_n 1, 1) := by decide +kernel
theorem d_M_value_88 : decode prog_11_method_12_code 88 = .ok (.bipush 91, 2) := by decide +kernel
theorem d_M_value_90 : decode prog_11_method_12_code 90 = .ok (.if_icmp .ne 7, 3) := by decide +kernel
theorem d_M_value_93 : decode prog_11_method_12_code 93 = .ok (.iconst 3, 1) := by decide +kernel
theorem d_M_value_94 : decode prog_11_method_12_code 94 = .ok (.goto 4, 3) := by decide +kernel
theorem d_M_value_97 : decode prog_11_method_12_code 97 = .ok (.iconst 4, 1) := by decide +kernel
theorem d_M_value_98 : decode prog_11_method_12_code 98 = .ok (.iastore, 1) := by decide +kernel
theorem d_M_value_99 : decode prog_11_method_12_code 99 = .ok (.aload_n 0, 1) := by decide +kernel
theorem d_M_value_100 : decode prog_11_method_12_code 100 = .ok (.getfield 37, 3) := by decide +kernel
theorem d_M_value_103 : decode prog_11_method_12_code 103 = .ok (.aload_n 0, 1) := by decide +kernel
theorem d_M_value_104 : decode prog_11_method_12_code 104 = .ok (.getfield 130, 3) := by decide +kernel
theorem d_M_value_107 : decode prog_11_method_12_code 107 = .ok (.iload_n 2, 1) := by decide +kernel
theorem d_M_value_108 : decode prog_11_method_12_code 108 = .ok (.iastore, 1) := by decide +kernel
theorem d_M_value_109 : decode prog_11_method_12_code 109 = .ok (.aload_n 0, 1) := by decide +kernel
theorem d_M_value_110 : decode prog_11_method_12_code 110 = .ok (.dup, 1) := by decide +kernel
theorem d_M_value_111 : decode prog_11_method_12_code 111 = .ok (.getfield 130, 3) := by decide +kernel
theorem d_M_value_114 : decode prog_11_method_12_code 114 = .ok (.iconst 1, 1) := by decide +kernel
theorem d_M_value_115 : decode prog_11_method_12_code 115 = .ok (.iadd, 1) := by decide +kernel
theorem d_M_value_116 : decode prog_11_method_12_code 116 = .ok (.putfield 130, 3) := by decide +kernel
theorem d_M_value_119 : decode prog_11_method_12_code 119 = .ok (.aload_n 0, 1) := by decide +kernel
theorem d_M_value_120 : decode prog_11_method_12_code 120 = .ok (.dup, 1) := by decide +kernel
theorem d_M_value_121 : decode prog_11_method_12_code 121 = .ok (.getfield 121, 3) := by decide +kernel
theorem d_M_value_124 : decode prog_11_method_12_code 124 = .ok (.iconst 1, 1) := by decide +kernel
theorem d_M_value_125 : decode prog_11_method_12_code 125 = .ok (.iadd, 1) := by decide +kernel
theorem d_M_value_126 : decode prog_11_method_12_code 126 = .ok (.putfield 121, 3) := by decide +kernel
theorem d_M_value_129 : decode prog_11_method_12_code 129 = .ok (.aload_n 0, 1) := by decide +kernel
theorem d_M_value_130 : decode prog_11_method_12_code 130 = .ok (.iload_n 1, 1) := by decide +kernel
theorem d_M_value_131 : decode prog_11_method_12_code 131 = .ok (.bipush 91, 2) := by decide +kernel
theorem d_M_value_133 : decode prog_11_method_12_code 133 = .ok (.if_icmp .ne 7, 3) := by decide +kernel
theorem d_M_value_136 : decode prog_11_method_12_code 136 = .ok (.iconst 2, 1) := by decide +kernel
theorem d_M_value_137 : decode prog_11_method_12_code 137 = .ok (.goto 4, 3) := by decide +kernel
theorem d_M_value_140 : decode prog_11_method_12_code 140 = .ok (.iconst 4, 1) := by decide +kernel
theorem d_M_value_141 : decode prog_11_method_12_code 141 = .ok (.putfield 133, 3) := by decide +kernel
theorem d_M_value_144 : decode prog_11_method_12_code 144 = .ok (.iconst 1, 1) := by decide +kernel
theorem d_M_value_145 : decode prog_11_method_12_code 145 = .ok (.ireturn, 1) := by decide +kernel
theorem d_M_value_146 : decode prog_11_method_12_code 146 = .ok (.iload_n 1, 1) := by decide +kernel
theorem d_M_value_147 : decode prog_11_method_12_code 147 = .ok (.bipush 34, 2) := by decide +kernel
theorem d_M_value_149 : decode prog_11_method_12_code 149 = .ok (.if_icmp .ne 44, 3) := by decide +kernel
theorem d_M_value_152 : decode prog_11_method_12_code 152 = .ok (.aload_n 0, 1) := by decide +kernel
theorem d_M_value_153 : decode prog_11_method_12_code 153 = .ok (.getfield 13, 3) := by decide +kernel
theorem d_M_value_156 : decode prog_11_method_12_code 156 = .ok (.iload_n 2, 1) := by decide +kernel
theorem d_M_value_157 : decode prog_11_method_12_code 157 = .ok (.iconst 2, 1) := by decide +kernel
theorem d_M_value_158 : decode prog_11_method_12_code 158 = .ok (.iastore, 1) := by decide +kernel
theorem d_M_value_159 : decode prog_11_method_12_code 159 = .ok (.aload_n 0, 1) := by decide +kernel
theorem d_M_value_160 : decode prog_11_method_12_code 160 = .ok (.getfield 19, 3) := by decide +kernel
theorem d_M_value_163 : decode prog_11_method_12_code 163 = .ok (.iload_n 2, 1) := by decide +kernel
theorem d_M_value_164 : decode prog_11_method_12_code 164 = .ok (.aload_n 0, 1) := by decide +kernel
theorem d_M_value_165 : decode prog_11_method_12_code 165 = .ok (.getfield 127, 3) := by decide +kernel
theorem d_M_value_168 : decode prog_11_method_12_code 168 = .ok (.iastore, 1) := by decide +kernel
theorem d_M_value_169 : decode prog_11_method_12_code 169 = .ok (.aload_n 0, 1) := by decide +kernel
theorem d_M_value_170 : decode prog_11_method_12_code 170 = .ok (.invokevirtual 154, 3) := by decide +kernel
theorem d_M_value_173 : decode prog_11_method_12_code 173 = .ok (.istore_n 3, 1) := by decide +kernel
theorem d_M_value_174 : decode prog_11_method_12_code 174 = .ok (.aload_n 0, 1) := by decide +kernel
theorem d_M_value_175 : decode prog_11_method_12_code 175 = .ok (.getfield 22, 3) := by decide +kernel
theorem d_M_value_178 : decode prog_11_method_12_code 178 = .ok (.iload_n 2, 1) := by decide +kernel
theorem d_M_value_179 : decode prog_11_method_12_code 179 = .ok (.aload_n 0, 1) := by decide +kernel
theorem d_M_value_180 : decode prog_11_method_12_code 180 = .ok (.getfield 127, 3) := by decide +kernel
theorem d_M_value_183 : decode prog_11_method_12_code 183 = .ok (.aload_n 0, 1) := by decide +kernel
theorem d_M_value_184 : decode prog_11_method_12_code 184 = .ok (.getfield 19, 3) := by decide +kernel
theorem d_M_value_187 : decode prog_11_method_12_code 187 = .ok (.iload_n 2, 1) := by decide +kernel
theorem d_M_value_188 : decode prog_11_method_12_code 188 = .ok (.iaload, 1) := by decide +kernel
theorem d_M_value_189 : decode prog_11_method_12_code 189 = .ok (.isub, 1) := by decide +kernel
theorem d_M_value_190 : decode prog_11_method_12_code 190 = .ok (.iastore, 1) := by decide +kernel
theorem d_M_value_191 : decode prog_11_method_12_code 191 = .ok (.iload_n 3, 1) := by decide +kernel
theorem d_M_value_192 : decode prog_11_method_12_code 192 = .ok (.ireturn, 1) := by decide +kernel
theorem d_M_value_193 : decode prog_11_method_12_code 193 = .ok (.aload_n 0, 1) := by decide +kernel
theorem d_M_value_194 : decode prog_11_method_12_code 194 = .ok (.getfield 13, 3) := by decide +kernel
theorem d_M_value_197 : decode prog_11_method_12_code 197 = .ok (.iload_n 2, 1) := by decide +kernel
theorem d_M_value_198 : decode prog_11_method_12_code 198 = .ok (.iconst 0, 1) := by decide +kernel
theorem d_M_value_199 : decode prog_11_method_12_code 199 = .ok (.iastore, 1) := by decide +kernel
theorem d_M_value_200 : decode prog_11_method_12_code 200 = .ok (.iload_n 1, 1) := by decide +kernel
theorem d_M_value_201 : decode prog_11_method_12_code 201 = .ok (.bipush 116, 2) := by decide +kernel
theorem d_M_value_203 : decode prog_11_method_12_code 203 = .ok (.if_icmp .ne 15, 3) := by decide +kernel
theorem d_M_value_206 : decode prog_11_method_12_code 206 = .ok (.aload_n 0, 1) := by decide +kernel
theorem d_M_value_207 : decode prog_11_method_12_code 207 = .ok (.bipush 114, 2) := by decide +kernel
theorem d_M_value_209 : decode prog_11_method_12_code 209 = .ok (.bipush 117, 2) := by decide +kernel
theorem d_M_value_211 : decode prog_11_method_12_code 211 = .ok (.bipush 101, 2) := by decide +kernel
theorem d_M_value_213 : decode prog_11_method_12_code 213 = .ok (.iconst 0, 1) := by decide +kernel
theorem d_M_value_214 : decode prog_11_method_12_code 214 = .ok (.invokevirtual 160, 3) := by decide +kernel
theorem d_M_value_217 : decode prog_11_method_12_code 217 = .ok (.ireturn, 1) := by decide +kernel
theorem d_M_value_218 : decode prog_11_method_12_code 218 = .ok (.iload_n 1, 1) := by decide +kernel
theorem d_M_value_219 : decode prog_11_method_12_code 219 = .ok (.bipush 102, 2) := by decide +kernel
theorem d_M_value_221 : decode prog_11_method_12_code 221 = .ok (.if_icmp .ne 16, 3) := by decide +kernel
theorem d_M_value_224 : decode prog_11_method_12_code 224 = .ok (.aload_n 0, 1) := by decide +kernel
theorem d_M_value_225 : decode prog_11_method_12_code 225 = .ok (.bipush 97, 2) := by decide +kernel
theorem d_M_value_227 : decode prog_11_method_12_code 227 = .ok (.bipush 108, 2) := by decide +kernel
theorem d_M_value_229 : decode prog_11_method_12_code 229 = .ok (.bipush 115, 2) := by decide +kernel
theorem d_M_value_231 : decode prog_11_method_12_code 231 = .ok (.bipush 101, 2) := by decide +kernel
theorem d_M_value_233 : decode prog_11_method_12_code 233 = .ok (.invokevirtual 160, 3) := by decide +kernel
theorem d_M_value_236 : decode prog_11_method_12_code 236 = .ok (.ireturn, 1) := by decide +kernel
theorem d_M_value_237 : decode prog_11_method_12_code 237 = .ok (.iload_n 1, 1) := by decide +kernel
theorem d_M_value_238 : decode prog_11_method_12_code 238 = .ok (.bipush 110, 2) := by decide +kernel
theorem d_M_value_240 : decode prog_11_method_12_code 240 = .ok (.if_icmp .ne 15, 3) := by decide +kernel
theorem d_M_value_243 : decode prog_11_method_12_code 243 = .ok (.aload_n 0, 1) := by decide +kernel
theorem d_M_value_244 : decode prog_11_method_12_code 244 = .ok (.bipush 117, 2) := by decide +kernel
theorem d_M_value_246 : decode prog_11_method_12_code 246 = .ok (.bipush 108, 2) := by decide +kernel
theorem d_M_value_248 : decode prog_11_method_12_code 248 = .ok (.bipush 108, 2) := by decide +kernel
theorem d_M_value_250 : decode prog_11_method_12_code 250 = .ok (.iconst 0, 1) := by decide +kernel
theorem d_M_value_251 : decode prog_11_method_12_code 251 = .ok (.invokevirtual 160, 3) := by decide +kernel
theorem d_M_value_254 : decode prog_11_method_12_code 254 = .ok (.ireturn, 1) := by decide +kernel
theorem d_M_value_255 : decode prog_11_method_12_code 255 = .ok (.aload_n 0, 1) := by decide +kernel
theorem d_M_value_256 : decode prog_11_method_12_code 256 = .ok (.getfield 13, 3) := by decide +kernel
theorem d_M_value_259 : decode prog_11_method_12_code 259 = .ok (.iload_n 2, 1) := by decide +kernel
theorem d_M_value_260 : decode prog_11_method_12_code 260 = .ok (.iconst 1, 1) := by decide +kernel
theorem d_M_value_261 : decode prog_11_method_12_code 261 = .ok (.iastore, 1) := by decide +kernel
theorem d_M_value_262 : decode prog_11_method_12_code 262 = .ok (.aload_n 0, 1) := by decide +kernel
theorem d_M_value_263 : decode prog_11_method_12_code 263 = .ok (.iload_n 2, 1) := by decide +kernel
theorem d_M_value_264 : decode prog_11_method_12_code 264 = .ok (.invokevirtual 164, 3) := by decide +kernel
theorem d_M_value_267 : decode prog_11_method_12_code 267 = .ok (.ireturn, 1) := by decide +kernel
set_option maxHeartbeats 4000000 in
set_option maxRecDepth 100000 in
theorem cM_value (l : Launch) (dC : Nat → ClassId) (dI : Nat → Nat → Nat) (tk : Nat → ClassId) (A : Nat → Prop) (h : Nat) (L : Nat → Nat) (g : aG) (a : aA) (rw : va_W) (n : Nat) (v1 : Int32) (r0 : Int32) (g0 : aG) (a0 : aA) (hm : mM_value n v1 g a = some (r0, g0, a0)) : CtI l dC dI tk A ⟨"EditorServerModel", "value", "(I)Z"⟩ prog_11_method_12_code 4 (some .boolean) 2 45 [.ref h, .int v1] (oW 0 h ksM spM tk L g a rw) r0 (oW 0 h ksM spM tk L g0 a0 rw) := by
  refine ent (by decide) (Nat.le_of_ble_eq_true rfl) ?_
  intro p e s m args below meth c hx hb hr hml hown hlk hG hg hst ls hl
  unfold mM_value at hm
  have hl : lv_has ls 4 [(0, .ref h), (1, .int v1)] := hl
  refine lv_aload_n hx hb d_M_value_0 rfl (lv_at hl 0 rfl) ?_
  refine ro_geti hx hb hown hG hg cM hst 8 (by decide) rfl rfl k_1022 d_M_value_1 ?_
  refine lv_bipush (v := 40) hx hb d_M_value_4 (by decide) ?_
  refine lv_icmp_ne (tgt := 11) hx hb d_M_value_6 (by decide) (fun h1 => ?_) (fun h1 => ?_)
  · have hm := it_f hm h1
    refine lv_aload_n hx hb d_M_value_11 rfl (lv_at hl 0 rfl) ?_
    refine ro_geti hx hb hown hG hg cM hst 8 (by decide) rfl rfl k_1022 d_M_value_12 ?_
    refine lv_istore_n (lv' := [(2, .int (g 8)), (0, .ref h), (1, .int v1)]) hx hb d_M_value_15 rfl hl (by decide) rfl (fun ls hl => ?_)
    refine lv_aload_n hx hb d_M_value_16 rfl (lv_at hl 1 rfl) ?_
    refine ro_geta hx hb hown hG hg cM hst 13 5 (by decide) rfl rfl k_1027 d_M_value_17 ?_
    refine lv_iload_n hx hb d_M_value_20 rfl (lv_at hl 0 rfl) ?_
    refine lv_aload_n hx hb d_M_value_21 rfl (lv_at hl 1 rfl) ?_
    refine ro_geti hx hb hown hG hg cM hst 19 (by decide) rfl rfl k_1033 d_M_value_22 ?_
    obtain ⟨qJ2, hm, hLJ2, hR3⟩ := jn_u hm
    have hJ2 : ∀ (x4 : Int32), qJ2 = .inl x4 → ∀ (H : Heap) (locs : List Loc) (ls : Array Slot), lv_has ls 4 [(0, .ref h), (1, .int v1), (2, .int (g 8))] → St dC dI A s.heap H locs (oW 0 h ksM spM tk L g a rw) → W p l e (rmo 2 45) s m args below meth c H locs 0 0 (MQ below (QI dC dI A r0 (oW 0 h ksM spM tk L g0 a0 rw)) args s 0 0 A) (F0 m 43 ls [.int x4, .int (g 8), .ref (L 5)]) := by
      intro x4 hq H locs ls hl hst
      have hm := hLJ2 _ hq
      obtain ⟨hn6, hm⟩ := gd_u hm
      refine ro_iast hx hb hg hst 5 rfl hn6 d_M_value_43 (fun a7 H locs ea7 hst => ?_)
      have hm := lt_u hm a7 ea7
      refine lv_aload_n hx hb d_M_value_44 rfl (lv_at hl 0 rfl) ?_
      refine lv_dup hx hb d_M_value_45 rfl ?_
      refine ro_geti hx hb hown hG hg cM hst 8 (by decide) rfl rfl k_1022 d_M_value_46 ?_
      refine lv_iconst (v := 1) hx hb d_M_value_49 (by decide) ?_
      refine lv_iadd hx hb d_M_value_50 ?_
      refine ro_puti hx hb hown hG hg cM hst 8 (by decide) rfl rfl rfl rfl rfl k_1022 d_M_value_51 (fun g8 H locs eg8 hst => ?_)
      have hm := lt_u hm g8 eg8
      refine lv_aload_n hx hb d_M_value_54 rfl (lv_at hl 0 rfl) ?_
      refine lv_iconst (v := 1) hx hb d_M_value_55 (by decide) ?_
      refine ro_puti hx hb hown hG hg cM hst 21 (by decide) rfl rfl rfl rfl rfl k_1035 d_M_value_56 (fun g9 H locs eg9 hst => ?_)
      have hm := lt_u hm g9 eg9
      refine lv_iload_n hx hb d_M_value_59 rfl (lv_at hl 1 rfl) ?_
      refine lv_bipush (v := 91) hx hb d_M_value_60 (by decide) ?_
      obtain ⟨qJ10, hm, hLJ10, hR11⟩ := jn_u hm
      have hJ10 : ∀ (g12 : aG) (a13 : aA), qJ10 = .inl (g12, a13) → ∀ (H : Heap) (locs : List Loc) (ls : Array Slot), lv_has ls 4 [(0, .ref h), (1, .int v1), (2, .int (g 8))] → St dC dI A s.heap H locs (oW 0 h ksM spM tk L g12 a13 rw) → W p l e (rmo 2 45) s m args below meth c H locs 0 0 (MQ below (QI dC dI A r0 (oW 0 h ksM spM tk L g0 a0 rw)) args s 0 0 A) (F0 m 71 ls []) := by
        intro g12 a13 hq H locs ls hl hst
        have hm := hLJ10 _ hq
        dsimp only at hm
        refine lv_aload_n hx hb d_M_value_71 rfl (lv_at hl 0 rfl) ?_
        refine ro_geti hx hb hown hG hg cM hst 19 (by decide) rfl rfl k_1033 d_M_value_72 ?_
        refine lv_bipush (v := 6) hx hb d_M_value_75 (by decide) ?_
        refine lv_icmp_ne (tgt := 82) hx hb d_M_value_77 (by decide) (fun h15 => ?_) (fun h15 => ?_)
        · have hm := it_f hm h15
          refine lv_aload_n hx hb d_M_value_82 rfl (lv_at hl 0 rfl) ?_
          refine ro_geta hx hb hown hG hg cM hst 9 1 (by decide) rfl rfl k_1023 d_M_value_83 ?_
          refine lv_iload_n hx hb d_M_value_86 rfl (lv_at hl 2 rfl) ?_
          refine lv_iload_n hx hb d_M_value_87 rfl (lv_at hl 1 rfl) ?_
          refine lv_bipush (v := 91) hx hb d_M_value_88 (by decide) ?_
          obtain ⟨qJ16, hm, hLJ16, hR17⟩ := jn_u hm
          have hJ16 : ∀ (x18 : Int32), qJ16 = .inl x18 → ∀ (H : Heap) (locs : List Loc) (ls : Array Slot), lv_has ls 4 [(0, .ref h), (1, .int v1), (2, .int (g 8))] → St dC dI A s.heap H locs (oW 0 h ksM spM tk L g12 a13 rw) → W p l e (rmo 2 45) s m args below meth c H locs 0 0 (MQ below (QI dC dI A r0 (oW 0 h ksM spM tk L g0 a0 rw)) args s 0 0 A) (F0 m 98 ls [.int x18, .int (g 8), .ref (L 1)]) := by
            intro x18 hq H locs ls hl hst
            have hm := hLJ16 _ hq
            obtain ⟨hn20, hm⟩ := gd_u hm
            refine ro_iast hx hb hg hst 1 rfl hn20 d_M_value_98 (fun a21 H locs ea21 hst => ?_)
            have hm := lt_u hm a21 ea21
            refine lv_aload_n hx hb d_M_value_99 rfl (lv_at hl 0 rfl) ?_
            refine ro_geta hx hb hown hG hg cM hst 18 9 (by decide) rfl rfl k_1032 d_M_value_100 ?_
            refine lv_aload_n hx hb d_M_value_103 rfl (lv_at hl 0 rfl) ?_
            refine ro_geti hx hb hown hG hg cM hst 19 (by decide) rfl rfl k_1033 d_M_value_104 ?_
            refine lv_iload_n hx hb d_M_value_107 rfl (lv_at hl 2 rfl) ?_
            obtain ⟨hn22, hm⟩ := gd_u hm
            refine ro_iast hx hb hg hst 9 rfl hn22 d_M_value_108 (fun a23 H locs ea23 hst => ?_)
            have hm := lt_u hm a23 ea23
            refine lv_aload_n hx hb d_M_value_109 rfl (lv_at hl 0 rfl) ?_
            refine lv_dup hx hb d_M_value_110 rfl ?_
            refine ro_geti hx hb hown hG hg cM hst 19 (by decide) rfl rfl k_1033 d_M_value_111 ?_
            refine lv_iconst (v := 1) hx hb d_M_value_114 (by decide) ?_
            refine lv_iadd hx hb d_M_value_115 ?_
            refine ro_puti hx hb hown hG hg cM hst 19 (by decide) rfl rfl rfl rfl rfl k_1033 d_M_value_116 (fun g24 H locs eg24 hst => ?_)
            have hm := lt_u hm g24 eg24
            refine lv_aload_n hx hb d_M_value_119 rfl (lv_at hl 0 rfl) ?_
            refine lv_dup hx hb d_M_value_120 rfl ?_
            refine ro_geti hx hb hown hG hg cM hst 20 (by decide) rfl rfl k_1034 d_M_value_121 ?_
            refine lv_iconst (v := 1) hx hb d_M_value_124 (by decide) ?_
            refine lv_iadd hx hb d_M_value_125 ?_
            refine ro_puti hx hb hown hG hg cM hst 20 (by decide) rfl rfl rfl rfl rfl k_1034 d_M_value_126 (fun g25 H locs eg25 hst => ?_)
            have hm := lt_u hm g25 eg25
            refine lv_aload_n hx hb d_M_value_129 rfl (lv_at hl 0 rfl) ?_
            refine lv_iload_n hx hb d_M_value_130 rfl (lv_at hl 1 rfl) ?_
            refine lv_bipush (v := 91) hx hb d_M_value_131 (by decide) ?_
            refine lv_icmp_ne (tgt := 140) hx hb d_M_value_133 (by decide) (fun h26 => ?_) (fun h26 => ?_)
            · have hm := it_f hm h26
              refine lv_iconst (v := 4) hx hb d_M_value_140 (by decide) ?_
              refine ro_puti hx hb hown hG hg cM hst 21 (by decide) rfl rfl rfl rfl rfl k_1035 d_M_value_141 (fun g27 H locs eg27 hst => ?_)
              have hm := lt_u hm g27 eg27
              refine lv_iconst (v := 1) hx hb d_M_value_144 (by decide) ?_
              have he := (Option.some.inj hm)
              cases he
              exact rt_i hx hb hr hlk (by decide) hst rfl d_M_value_145
            · have hm := it_t hm h26
              refine lv_iconst (v := 2) hx hb d_M_value_136 (by decide) ?_
              refine lv_goto (tgt := 141) hx hb d_M_value_137 (by decide) ?_
              refine ro_puti hx hb hown hG hg cM hst 21 (by decide) rfl rfl rfl rfl rfl k_1035 d_M_value_141 (fun g28 H locs eg28 hst => ?_)
              have hm := lt_u hm g28 eg28
              refine lv_iconst (v := 1) hx hb d_M_value_144 (by decide) ?_
              have he := (Option.some.inj hm)
              cases he
              exact rt_i hx hb hr hlk (by decide) hst rfl d_M_value_145
          refine lv_icmp_ne (tgt := 97) hx hb d_M_value_90 (by decide) (fun h29 => ?_) (fun h29 => ?_)
          · have hm := it_f hm h29
            refine lv_iconst (v := 4) hx hb d_M_value_97 (by decide) ?_
            exact hJ16 4 (Option.some.inj hm).symm _ _ _ (lv_sub hl [0, 1, 2] rfl) hst
          · have hm := it_t hm h29
            refine lv_iconst (v := 3) hx hb d_M_value_93 (by decide) ?_
            refine lv_goto (tgt := 98) hx hb d_M_value_94 (by decide) ?_
            exact hJ16 3 (Option.some.inj hm).symm _ _ _ (lv_sub hl [0, 1, 2] rfl) hst
        · have hm := it_t hm h15
          refine lv_iconst (v := 0) hx hb d_M_value_80 (by decide) ?_
          have he := (Option.some.inj hm)
          cases he
          exact rt_i hx hb hr hlk (by decide) hst rfl d_M_value_81
      refine lv_icmp_eq (tgt := 71) hx hb d_M_value_62 (by decide) (fun h30 => ?_) (fun h30 => ?_)
      · have hm := it_t hm h30
        exact hJ10 g9 a7 (Option.some.inj hm).symm _ _ _ (lv_sub hl [0, 1, 2] rfl) hst
      · have hm := it_f hm h30
        refine lv_iload_n hx hb d_M_value_65 rfl (lv_at hl 1 rfl) ?_
        refine lv_bipush (v := 123) hx hb d_M_value_66 (by decide) ?_
        refine lv_icmp_ne (tgt := 146) hx hb d_M_value_68 (by decide) (fun h31 => ?_) (fun h31 => ?_)
        · have hm := it_f hm h31
          refine lv_iload_n hx hb d_M_value_146 rfl (lv_at hl 1 rfl) ?_
          refine lv_bipush (v := 34) hx hb d_M_value_147 (by decide) ?_
          refine lv_icmp_ne (tgt := 193) hx hb d_M_value_149 (by decide) (fun h32 => ?_) (fun h32 => ?_)
          · have hm := it_f hm h32
            refine lv_aload_n hx hb d_M_value_193 rfl (lv_at hl 0 rfl) ?_
            refine ro_geta hx hb hown hG hg cM hst 9 1 (by decide) rfl rfl k_1023 d_M_value_194 ?_
            refine lv_iload_n hx hb d_M_value_197 rfl (lv_at hl 2 rfl) ?_
            refine lv_iconst (v := 0) hx hb d_M_value_198 (by decide) ?_
            obtain ⟨hn33, hm⟩ := gd_u hm
            refine ro_iast hx hb hg hst 1 rfl hn33 d_M_value_199 (fun a34 H locs ea34 hst => ?_)
            have hm := lt_u hm a34 ea34
            refine lv_iload_n hx hb d_M_value_200 rfl (lv_at hl 1 rfl) ?_
            refine lv_bipush (v := 116) hx hb d_M_value_201 (by decide) ?_
            refine lv_icmp_ne (tgt := 218) hx hb d_M_value_203 (by decide) (fun h35 => ?_) (fun h35 => ?_)
            · have hm := it_f hm h35
              refine lv_iload_n hx hb d_M_value_218 rfl (lv_at hl 1 rfl) ?_
              refine lv_bipush (v := 102) hx hb d_M_value_219 (by decide) ?_
              refine lv_icmp_ne (tgt := 237) hx hb d_M_value_221 (by decide) (fun h36 => ?_) (fun h36 => ?_)
              · have hm := it_f hm h36
                refine lv_iload_n hx hb d_M_value_237 rfl (lv_at hl 1 rfl) ?_
                refine lv_bipush (v := 110) hx hb d_M_value_238 (by decide) ?_
                refine lv_icmp_ne (tgt := 255) hx hb d_M_value_240 (by decide) (fun h37 => ?_) (fun h37 => ?_)
                · have hm := it_f hm h37
                  refine lv_aload_n hx hb d_M_value_255 rfl (lv_at hl 0 rfl) ?_
                  refine ro_geta hx hb hown hG hg cM hst 9 1 (by decide) rfl rfl k_1023 d_M_value_256 ?_
                  refine lv_iload_n hx hb d_M_value_259 rfl (lv_at hl 2 rfl) ?_
                  refine lv_iconst (v := 1) hx hb d_M_value_260 (by decide) ?_
                  obtain ⟨hn38, hm⟩ := gd_u hm
                  refine ro_iast hx hb hg hst 1 rfl hn38 d_M_value_261 (fun a39 H locs ea39 hst => ?_)
                  have hm := lt_u hm a39 ea39
                  refine lv_aload_n hx hb d_M_value_262 rfl (lv_at hl 0 rfl) ?_
                  refine lv_iload_n hx hb d_M_value_263 rfl (lv_at hl 2 rfl) ?_
                  obtain ⟨⟨x41, g42, a43⟩, hc44, hm⟩ := bd_u hm
                  dsimp only at hm
                  refine cl_vi hx hb hml hown hG hg (cM_numeral l dC dI tk A h L g9 a39 rw n (g 8) _ _ _ hc44) (cw_v 1 hG k_1204 k_1206 s_36 k_14 k_1207 (by decide +kernel) ⟨by decide, by decide⟩) hst rfl oW_0 rfl hl.1 rfl (Nat.le_of_ble_eq_true rfl) ⟨Nat.le_refl 0, Nat.le_refl 0⟩ d_M_value_264 (fun H locs hst => ?_)
                  obtain ⟨hn45, hm⟩ := gd_u hm
                  have he := (hR11 _ (Option.some.inj hm).symm)
                  cases he
                  exact rt_i hx hb hr hlk (okz_n hn45).1 hst rfl d_M_value_267
                · have hm := it_t hm h37
                  refine lv_aload_n hx hb d_M_value_243 rfl (lv_at hl 0 rfl) ?_
                  refine lv_bipush (v := 117) hx hb d_M_value_244 (by decide) ?_
                  refine lv_bipush (v := 108) hx hb d_M_value_246 (by decide) ?_
                  refine lv_bipush (v := 108) hx hb d_M_value_248 (by decide) ?_
                  refine lv_iconst (v := 0) hx hb d_M_value_250 (by decide) ?_
                  obtain ⟨⟨x47, g48⟩, hc49, hm⟩ := bd_u hm
                  dsimp only at hm
                  refine cl_vi hx hb hml hown hG hg (cM_word l dC dI tk A h L g9 a34 rw n 117 108 108 0 _ _ hc49) (cw_v 4 hG k_1200 k_1202 s_35 k_14 k_1203 (by decide +kernel) ⟨by decide, by decide⟩) hst rfl oW_0 rfl hl.1 rfl (Nat.le_of_ble_eq_true rfl) ⟨Nat.le_refl 0, Nat.le_refl 0⟩ d_M_value_251 (fun H locs hst => ?_)
                  obtain ⟨hn50, hm⟩ := gd_u hm
                  have he := (hR11 _ (Option.some.inj hm).symm)
                  cases he
                  exact rt_i hx hb hr hlk (okz_n hn50).1 hst rfl d_M_value_254
              · have hm := it_t hm h36
                refine lv_aload_n hx hb d_M_value_224 rfl (lv_at hl 0 rfl) ?_
                refine lv_bipush (v := 97) hx hb d_M_value_225 (by decide) ?_
                refine lv_bipush (v := 108) hx hb d_M_value_227 (by decide) ?_
                refine lv_bipush (v := 115) hx hb d_M_value_229 (by decide) ?_
                refine lv_bipush (v := 101) hx hb d_M_value_231 (by decide) ?_
                obtain ⟨⟨x52, g53⟩, hc54, hm⟩ := bd_u hm
                dsimp only at hm
                refine cl_vi hx hb hml hown hG hg (cM_word l dC dI tk A h L g9 a34 rw n 97 108 115 101 _ _ hc54) (cw_v 4 hG k_1200 k_1202 s_35 k_14 k_1203 (by decide +kernel) ⟨by decide, by decide⟩) hst rfl oW_0 rfl hl.1 rfl (Nat.le_of_ble_eq_true rfl) ⟨Nat.le_refl 0, Nat.le_refl 0⟩ d_M_value_233 (fun H locs hst => ?_)
                obtain ⟨hn55, hm⟩ := gd_u hm
                have he := (hR11 _ (Option.some.inj hm).symm)
                cases he
                exact rt_i hx hb hr hlk (okz_n hn55).1 hst rfl d_M_value_236
            · have hm := it_t hm h35
              refine lv_aload_n hx hb d_M_value_206 rfl (lv_at hl 0 rfl) ?_
              refine lv_bipush (v := 114) hx hb d_M_value_207 (by decide) ?_
              refine lv_bipush (v := 117) hx hb d_M_value_209 (by decide) ?_
              refine lv_bipush (v := 101) hx hb d_M_value_211 (by decide) ?_
              refine lv_iconst (v := 0) hx hb d_M_value_213 (by decide) ?_
              obtain ⟨⟨x57, g58⟩, hc59, hm⟩ := bd_u hm
              dsimp only at hm
              refine cl_vi hx hb hml hown hG hg (cM_word l dC dI tk A h L g9 a34 rw n 114 117 101 0 _ _ hc59) (cw_v 4 hG k_1200 k_1202 s_35 k_14 k_1203 (by decide +kernel) ⟨by decide, by decide⟩) hst rfl oW_0 rfl hl.1 rfl (Nat.le_of_ble_eq_true rfl) ⟨Nat.le_refl 0, Nat.le_refl 0⟩ d_M_value_214 (fun H locs hst => ?_)
              obtain ⟨hn60, hm⟩ := gd_u hm
              have he := (hR11 _ (Option.some.inj hm).symm)
              cases he
              exact rt_i hx hb hr hlk (okz_n hn60).1 hst rfl d_M_value_217
          · have hm := it_t hm h32
            refine lv_aload_n hx hb d_M_value_152 rfl (lv_at hl 0 rfl) ?_
            refine ro_geta hx hb hown hG hg cM hst 9 1 (by decide) rfl rfl k_1023 d_M_value_153 ?_
            refine lv_iload_n hx hb d_M_value_156 rfl (lv_at hl 2 rfl) ?_
            refine lv_iconst (v := 2) hx hb d_M_value_157 (by decide) ?_
            obtain ⟨hn61, hm⟩ := gd_u hm
            refine ro_iast hx hb hg hst 1 rfl hn61 d_M_value_158 (fun a62 H locs ea62 hst => ?_)
            have hm := lt_u hm a62 ea62
            refine lv_aload_n hx hb d_M_value_159 rfl (lv_at hl 0 rfl) ?_
            refine ro_geta hx hb hown hG hg cM hst 11 3 (by decide) rfl rfl k_1025 d_M_value_160 ?_
            refine lv_iload_n hx hb d_M_value_163 rfl (lv_at hl 2 rfl) ?_
            refine lv_aload_n hx hb d_M_value_164 rfl (lv_at hl 0 rfl) ?_
            refine ro_geti hx hb hown hG hg cM hst 17 (by decide) rfl rfl k_1031 d_M_value_165 ?_
            obtain ⟨hn63, hm⟩ := gd_u hm
            refine ro_iast hx hb hg hst 3 rfl hn63 d_M_value_168 (fun a64 H locs ea64 hst => ?_)
            have hm := lt_u hm a64 ea64
            refine lv_aload_n hx hb d_M_value_169 rfl (lv_at hl 0 rfl) ?_
            obtain ⟨⟨x66, g67, a68⟩, hc69, hm⟩ := bd_u hm
            dsimp only at hm
            refine cl_vi hx hb hml hown hG hg (cM_string l dC dI tk A h L g9 a64 rw n _ _ _ hc69) (cw_v 0 hG k_1192 k_1194 s_33 k_14 k_1195 (by decide +kernel) ⟨by decide, by decide⟩) hst rfl oW_0 rfl hl.1 rfl (Nat.le_of_ble_eq_true rfl) ⟨Nat.le_refl 0, Nat.le_refl 0⟩ d_M_value_170 (fun H locs hst => ?_)
            refine lv_istore_n (lv' := [(3, .int x66), (0, .ref h), (1, .int v1), (2, .int (g 8))]) hx hb d_M_value_173 rfl hl (by decide) rfl (fun ls hl => ?_)
            refine lv_aload_n hx hb d_M_value_174 rfl (lv_at hl 1 rfl) ?_
            refine ro_geta hx hb hown hG hg cM hst 12 4 (by decide) rfl rfl k_1026 d_M_value_175 ?_
            refine lv_iload_n hx hb d_M_value_178 rfl (lv_at hl 3 rfl) ?_
            refine lv_aload_n hx hb d_M_value_179 rfl (lv_at hl 1 rfl) ?_
            refine ro_geti hx hb hown hG hg cM hst 17 (by decide) rfl rfl k_1031 d_M_value_180 ?_
            refine lv_aload_n hx hb d_M_value_183 rfl (lv_at hl 1 rfl) ?_
            refine ro_geta hx hb hown hG hg cM hst 11 3 (by decide) rfl rfl k_1025 d_M_value_184 ?_
            refine lv_iload_n hx hb d_M_value_187 rfl (lv_at hl 3 rfl) ?_
            obtain ⟨hn70, hm⟩ := gd_u hm
            refine ro_iald hx hb hg hst 3 rfl hn70 d_M_value_188 ?_
            refine lv_topi (fun x71 ex71 => ?_)
            have hm := lt_u hm x71 ex71
            refine lv_isub hx hb d_M_value_189 ?_
            obtain ⟨hn72, hm⟩ := gd_u hm
            refine ro_iast hx hb hg hst 4 rfl hn72 d_M_value_190 (fun a73 H locs ea73 hst => ?_)
            have hm := lt_u hm a73 ea73
            refine lv_iload_n hx hb d_M_value_191 rfl (lv_at hl 0 rfl) ?_
            obtain ⟨hn74, hm⟩ := gd_u hm
            have he := (hR11 _ (Option.some.inj hm).symm)
            cases he
            exact rt_i hx hb hr hlk (okz_n hn74).1 hst rfl d_M_value_192
        · have hm := it_t hm h31
          exact hJ10 g9 a7 (Option.some.inj hm).symm _ _ _ (lv_sub hl [0, 1, 2] rfl) hst
    refine lv_if_ne (tgt := 32) hx hb d_M_value_25 (by decide) (fun h75 => ?_) (fun h75 => ?_)
    · have hm := it_f hm h75
      refine lv_aload_n hx hb d_M_value_32 rfl (lv_at hl 1 rfl) ?_
      refine ro_geta hx hb hown hG hg cM hst 18 9 (by decide) rfl rfl k_1032 d_M_value_33 ?_
      refine lv_aload_n hx hb d_M_value_36 rfl (lv_at hl 1 rfl) ?_
      refine ro_geti hx hb hown hG hg cM hst 19 (by decide) rfl rfl k_1033 d_M_value_37 ?_
      refine lv_iconst (v := 1) hx hb d_M_value_40 (by decide) ?_
      refine lv_isub hx hb d_M_value_41 ?_
      obtain ⟨hn76, hm⟩ := gd_u hm
      refine ro_iald hx hb hg hst 9 rfl hn76 d_M_value_42 ?_
      refine lv_topi (fun x77 ex77 => ?_)
      have hm := lt_u hm x77 ex77
      exact hJ2 x77 (Option.some.inj hm).symm _ _ _ (lv_sub hl [1, 2, 0] rfl) hst
    · have hm := it_t hm h75
      refine lv_iconst (v := (-1)) hx hb d_M_value_28 (by decide) ?_
      refine lv_goto (tgt := 43) hx hb d_M_value_29 (by decide) ?_
      exact hJ2 (-1) (Option.some.inj hm).symm _ _ _ (lv_sub hl [1, 2, 0] rfl) hst
  · have hm := it_t hm h1
    refine lv_iconst (v := 0) hx hb d_M_value_9 (by decide) ?_
    have he := (Option.some.inj hm)
    cases he
    exact rt_i hx hb hr hlk (by decide) hst rfl d_M_value_10
def mM_one (n : Nat) (v1 : Int32) (g : aG) (a : aA) : Option (Int32 × aG × aA) := jn (α := aG × aA) (if (g 21) = 3 then (some (.inl (g, a))) else (if (g 21) = 4 then (some (.inl (g, a))) else (jn (α := aG) (if v1 = 93 then (if (g 21) = 2 then (bd (mM_shut n g a) (fun q87 => gd (okz q87.1) (some (.inr (.inr ((q87.1, q87.2, a))))))) else (some (.inl g))) else (some (.inl g))) (fun g55 => jn (α := aG) (if v1 = 125 then (if (g55 21) = 4 then (bd (mM_shut n g55 a) (fun q80 => gd (okz q80.1) (some (.inr (.inr ((q80.1, q80.2, a))))))) else (some (.inl g55))) else (some (.inl g55))) (fun g59 => if (g59 21) = 1 then (bd (mM_behind n v1 g59 a) (fun q73 => gd (okz q73.1) (some (.inr ((q73.1, q73.2, a)))))) else (if (g59 21) = 5 then (lt (va_up g59 20 ((g59 20) + 1)) (fun g70 => lt (va_up g70 21 0) (fun g71 => if v1 = 58 then (some (.inr ((1, g71, a)))) else (some (.inr ((0, g71, a))))))) else (bd (mM_value n v1 g59 a) (fun q64 => gd (okz q64.1) (some (.inr ((q64.1, q64.2.1, q64.2.2)))))))))))) (fun q5 => jn (α := aG) (if v1 = 93 then (if (q5.1 21) = 2 then (bd (mM_shut n q5.1 q5.2) (fun q46 => gd (okz q46.1) (some (.inr ((q46.1, q46.2, q5.2)))))) else (some (.inl q5.1))) else (some (.inl q5.1))) (fun g8 => jn (α := aG) (if v1 = 125 then (if (g8 21) = 4 then (bd (mM_shut n g8 q5.2) (fun q39 => gd (okz q39.1) (some (.inr ((q39.1, q39.2, q5.2)))))) else (some (.inl g8))) else (some (.inl g8))) (fun g12 => if (g12 21) = 1 then (bd (mM_behind n v1 g12 q5.2) (fun q32 => gd (okz q32.1) (some ((q32.1, q32.2, q5.2))))) else (if (g12 21) = 5 then (lt (va_up g12 20 ((g12 20) + 1)) (fun g29 => lt (va_up g29 21 0) (fun g30 => if v1 = 58 then (some ((1, g30, q5.2))) else (some ((0, g30, q5.2)))))) else (if v1 = 34 then (bd (mM_string n g12 q5.2) (fun q18 => if q18.1 = 0 then (some ((0, q18.2.1, q18.2.2))) else (gd (inb (q18.2.1 8) 41) (lt (va_up q18.2.2 6 (upd (q18.2.2 6) (q18.2.1 8).toNatClampNeg (g12 17))) (fun a25 => gd (inb (q18.2.1 8) 41) (lt (va_up a25 7 (upd (a25 7) (q18.2.1 8).toNatClampNeg ((q18.2.1 17) - (g12 17)))) (fun a27 => lt (va_up q18.2.1 21 5) (fun g28 => some ((1, g28, a27)))))))))) else (some ((0, g12, q5.2))))))))
theorem d_M_one_0 : decode prog_11_method_9_code 0 = .ok (.aload_n 0, 1) := by decide +kernel
theorem d_M_one_1 : decode prog_11_method_9_code 1 = .ok (.getfield 133, 3) := by decide +kernel
theorem d_M_one_4 : decode prog_11_method_9_code 4 = .ok (.iconst 3, 1) := by decide +kernel
theorem d_M_one_5 : decode prog_11_method_9_code 5 = .ok (.if_icmp .eq 11, 3) := by decide +kernel
theorem d_M_one_8 : decode prog_11_method_9_code 8 = .ok (.aload_n 0, 1) := by decide +kernel
theorem d_M_one_9 : decode prog_11_method_9_code 9 = .ok (.getfield 133, 3) := by decide +kernel
theorem d_M_one_12 : decode prog_11_method_9_code 12 = .ok (.iconst 4, 1) := by decide +kernel
theorem d_M_one_13 : decode prog_11_method_9_code 13 = .ok (.if_icmp .ne 7, 3) := by decide +kernel
theorem d_M_one_16 : decode prog_11_method_9_code 16 = .ok (.iconst 1, 1) := by decide +kernel
theorem d_M_one_17 : decode prog_11_method_9_code 17 = .ok (.goto 4, 3) := by decide +kernel
theorem d_M_one_20 : decode prog_11_method_9_code 20 = .ok (.iconst 0, 1) := by decide +kernel
theorem d_M_one_21 : decode prog_11_method_9_code 21 = .ok (.istore_n 2, 1) := by decide +kernel
theorem d_M_one_22 : decode prog_11_method_9_code 22 = .ok (.iload_n 1, 1) := by decide +kernel
theorem d_M_one_23 : decode prog_11_method_9_code 23 = .ok (.bipush 93, 2) := by decide +kernel
theorem d_M_one_25 : decode prog_11_method_9_code 25 = .ok (.if_icmp .ne 11, 3) := by decide +kernel
theorem d_M_one_28 : decode prog_11_method_9_code 28 = .ok (.aload_n 0, 1) := by decide +kernel
theorem d_M_one_29 : decode prog_11_method_9_code 29 = .ok (.getfield 133, 3) := by decide +kernel
theorem d_M_one_32 : decode prog_11_method_9_code 32 = .ok (.iconst 2, 1) := by decide +kernel
theorem d_M_one_33 : decode prog_11_method_9_code 33 = .ok (.if_icmp .eq 17, 3) := by decide +kernel
theorem d_M_one_36 : decode prog_11_method_9_code 36 = .ok (.iload_n 1, 1) := by decide +kernel
theorem d_M_one_37 : decode prog_11_method_9_code 37 = .ok (.bipush 125, 2) := by decide +kernel
theorem d_M_one_39 : decode prog_11_method_9_code 39 = .ok (.if_icmp .ne 16, 3) := by decide +kernel
theorem d_M_one_42 : decode prog_11_method_9_code 42 = .ok (.aload_n 0, 1) := by decide +kernel
theorem d_M_one_43 : decode prog_11_method_9_code 43 = .ok (.getfield 133, 3) := by decide +kernel
theorem d_M_one_46 : decode prog_11_method_9_code 46 = .ok (.iconst 4, 1) := by decide +kernel
theorem d_M_one_47 : decode prog_11_method_9_code 47 = .ok (.if_icmp .ne 8, 3) := by decide +kernel
theorem d_M_one_50 : decode prog_11_method_9_code 50 = .ok (.aload_n 0, 1) := by decide +kernel
theorem d_M_one_51 : decode prog_11_method_9_code 51 = .ok (.invokevirtual 147, 3) := by decide +kernel
theorem d_M_one_54 : decode prog_11_method_9_code 54 = .ok (.ireturn, 1) := by decide +kernel
theorem d_M_one_55 : decode prog_11_method_9_code 55 = .ok (.aload_n 0, 1) := by decide +kernel
theorem d_M_one_56 : decode prog_11_method_9_code 56 = .ok (.getfield 133, 3) := by decide +kernel
theorem d_M_one_59 : decode prog_11_method_9_code 59 = .ok (.iconst 1, 1) := by decide +kernel
theorem d_M_one_60 : decode prog_11_method_9_code 60 = .ok (.if_icmp .ne 9, 3) := by decide +kernel
theorem d_M_one_63 : decode prog_11_method_9_code 63 = .ok (.aload_n 0, 1) := by decide +kernel
theorem d_M_one_64 : decode prog_11_method_9_code 64 = .ok (.iload_n 1, 1) := by decide +kernel
theorem d_M_one_65 : decode prog_11_method_9_code 65 = .ok (.invokevirtual 151, 3) := by decide +kernel
theorem d_M_one_68 : decode prog_11_method_9_code 68 = .ok (.ireturn, 1) := by decide +kernel
theorem d_M_one_69 : decode prog_11_method_9_code 69 = .ok (.aload_n 0, 1) := by decide +kernel
theorem d_M_one_70 : decode prog_11_method_9_code 70 = .ok (.getfield 133, 3) := by decide +kernel
theorem d_M_one_73 : decode prog_11_method_9_code 73 = .ok (.iconst 5, 1) := by decide +kernel
theorem d_M_one_74 : decode prog_11_method_9_code 74 = .ok (.if_icmp .ne 30, 3) := by decide +kernel
theorem d_M_one_77 : decode prog_11_method_9_code 77 = .ok (.aload_n 0, 1) := by decide +kernel
theorem d_M_one_78 : decode prog_11_method_9_code 78 = .ok (.dup, 1) := by decide +kernel
theorem d_M_one_79 : decode prog_11_method_9_code 79 = .ok (.getfield 121, 3) := by decide +kernel
theorem d_M_one_82 : decode prog_11_method_9_code 82 = .ok (.iconst 1, 1) := by decide +kernel
theorem d_M_one_83 : decode prog_11_method_9_code 83 = .ok (.iadd, 1) := by decide +kernel
theorem d_M_one_84 : decode prog_11_method_9_code 84 = .ok (.putfield 121, 3) := by decide +kernel
theorem d_M_one_87 : decode prog_11_method_9_code 87 = .ok (.aload_n 0, 1) := by decide +kernel
theorem d_M_one_88 : decode prog_11_method_9_code 88 = .ok (.iconst 0, 1) := by decide +kernel
theorem d_M_one_89 : decode prog_11_method_9_code 89 = .ok (.putfield 133, 3) := by decide +kernel
theorem d_M_one_92 : decode prog_11_method_9_code 92 = .ok (.iload_n 1, 1) := by decide +kernel
theorem d_M_one_93 : decode prog_11_method_9_code 93 = .ok (.bipush 58, 2) := by decide +kernel
theorem d_M_one_95 : decode prog_11_method_9_code 95 = .ok (.if_icmp .ne 7, 3) := by decide +kernel
theorem d_M_one_98 : decode prog_11_method_9_code 98 = .ok (.iconst 1, 1) := by decide +kernel
theorem d_M_one_99 : decode prog_11_method_9_code 99 = .ok (.goto 4, 3) := by decide +kernel
theorem d_M_one_102 : decode prog_11_method_9_code 102 = .ok (.iconst 0, 1) := by decide +kernel
theorem d_M_one_103 : decode prog_11_method_9_code 103 = .ok (.ireturn, 1) := by decide +kernel
theorem d_M_one_104 : decode prog_11_method_9_code 104 = .ok (.iload_n 2, 1) := by decide +kernel
theorem d_M_one_105 : decode prog_11_method_9_code 105 = .ok (.ifCond .eq 55, 3) := by decide +kernel
theorem d_M_one_108 : decode prog_11_method_9_code 108 = .ok (.aload_n 0, 1) := by decide +kernel
theorem d_M_one_109 : decode prog_11_method_9_code 109 = .ok (.getfield 127, 3) := by decide +kernel
theorem d_M_one_112 : decode prog_11_method_9_code 112 = .ok (.istore_n 3, 1) := by decide +kernel
theorem d_M_one_113 : decode prog_11_method_9_code 113 = .ok (.iload_n 1, 1) := by decide +kernel
theorem d_M_one_114 : decode prog_11_method_9_code 114 = .ok (.bipush 34, 2) := by decide +kernel
theorem d_M_one_116 : decode prog_11_method_9_code 116 = .ok (.if_icmp .ne 10, 3) := by decide +kernel
theorem d_M_one_119 : decode prog_11_method_9_code 119 = .ok (.aload_n 0, 1) := by decide +kernel
theorem d_M_one_120 : decode prog_11_method_9_code 120 = .ok (.invokevirtual 154, 3) := by decide +kernel
theorem d_M_one_123 : decode prog_11_method_9_code 123 = .ok (.ifCond .ne 5, 3) := by decide +kernel
theorem d_M_one_126 : decode prog_11_method_9_code 126 = .ok (.iconst 0, 1) := by decide +kernel
theorem d_M_one_127 : decode prog_11_method_9_code 127 = .ok (.ireturn, 1) := by decide +kernel
theorem d_M_one_128 : decode prog_11_method_9_code 128 = .ok (.aload_n 0, 1) := by decide +kernel
theorem d_M_one_129 : decode prog_11_method_9_code 129 = .ok (.getfield 28, 3) := by decide +kernel
theorem d_M_one_132 : decode prog_11_method_9_code 132 = .ok (.aload_n 0, 1) := by decide +kernel
theorem d_M_one_133 : decode prog_11_method_9_code 133 = .ok (.getfield 124, 3) := by decide +kernel
theorem d_M_one_136 : decode prog_11_method_9_code 136 = .ok (.iload_n 3, 1) := by decide +kernel
theorem d_M_one_137 : decode prog_11_method_9_code 137 = .ok (.iastore, 1) := by decide +kernel
theorem d_M_one_138 : decode prog_11_method_9_code 138 = .ok (.aload_n 0, 1) := by decide +kernel
theorem d_M_one_139 : decode prog_11_method_9_code 139 = .ok (.getfield 31, 3) := by decide +kernel
theorem d_M_one_142 : decode prog_11_method_9_code 142 = .ok (.aload_n 0, 1) := by decide +kernel
theorem d_M_one_143 : decode prog_11_method_9_code 143 = .ok (.getfield 124, 3) := by decide +kernel
theorem d_M_one_146 : decode prog_11_method_9_code 146 = .ok (.aload_n 0, 1) := by decide +kernel
theorem d_M_one_147 : decode prog_11_method_9_code 147 = .ok (.getfield 127, 3) := by decide +kernel
theorem d_M_one_150 : decode prog_11_method_9_code 150 = .ok (.iload_n 3, 1) := by decide +kernel
theorem d_M_one_151 : decode prog_11_method_9_code 151 = .ok (.isub, 1) := by decide +kernel
theorem d_M_one_152 : decode prog_11_method_9_code 152 = .ok (.iastore, 1) := by decide +kernel
theorem d_M_one_153 : decode prog_11_method_9_code 153 = .ok (.aload_n 0, 1) := by decide +kernel
theorem d_M_one_154 : decode prog_11_method_9_code 154 = .ok (.iconst 5, 1) := by decide +kernel
theorem d_M_one_155 : decode prog_11_method_9_code 155 = .ok (.putfield 133, 3) := by decide +kernel
theorem d_M_one_158 : decode prog_11_method_9_code 158 = .ok (.iconst 1, 1) := by decide +kernel
theorem d_M_one_159 : decode prog_11_method_9_code 159 = .ok (.ireturn, 1) := by decide +kernel
theorem d_M_one_160 : decode prog_11_method_9_code 160 = .ok (.aload_n 0, 1) := by decide +kernel
theorem d_M_one_161 : decode prog_11_method_9_code 161 = .ok (.iload_n 1, 1) := by decide +kernel
theorem d_M_one_162 : decode prog_11_method_9_code 162 = .ok (.invokevirtual 157, 3) := by decide +kernel
theorem d_M_one_165 : decode prog_11_method_9_code 165 = .ok (.ireturn, 1) := by decide +kernel
set_option maxHeartbeats 4000000 in
set_option maxRecDepth 100000 in
theorem cM_one (l : Launch) (dC : Nat → ClassId) (dI : Nat → Nat → Nat) (tk : Nat → ClassId) (A : Nat → Prop) (h : Nat) (L : Nat → Nat) (g : aG) (a : aA) (rw : va_W) (n : Nat) (v1 : Int32) (r0 : Int32) (g0 : aG) (a0 : aA) (hm : mM_one n v1 g a = some (r0, g0, a0)) : CtI l dC dI tk A ⟨"EditorServerModel", "one", "(I)Z"⟩ prog_11_method_9_code 4 (some .boolean) 3 68 [.ref h, .int v1] (oW 0 h ksM spM tk L g a rw) r0 (oW 0 h ksM spM tk L g0 a0 rw) := by
  refine ent (by decide) (Nat.le_of_ble_eq_true rfl) ?_
  intro p e s m args below meth c hx hb hr hml hown hlk hG hg hst ls hl
  unfold mM_one at hm
  have hl : lv_has ls 4 [(0, .ref h), (1, .int v1)] := hl
  refine lv_aload_n hx hb d_M_one_0 rfl (lv_at hl 0 rfl) ?_
  refine ro_geti hx hb hown hG hg cM hst 21 (by decide) rfl rfl k_1035 d_M_one_1 ?_
  refine lv_iconst (v := 3) hx hb d_M_one_4 (by decide) ?_
  obtain ⟨qJ1, hm, hLJ1, hR2⟩ := jn_u hm
  have hJ1 : ∀ (g3 : aG) (a4 : aA), qJ1 = .inl (g3, a4) → ∀ (H : Heap) (locs : List Loc) (ls : Array Slot), lv_has ls 4 [(0, .ref h), (1, .int v1)] → St dC dI A s.heap H locs (oW 0 h ksM spM tk L g3 a4 rw) → W p l e (rmo 3 68) s m args below meth c H locs 0 0 (MQ below (QI dC dI A r0 (oW 0 h ksM spM tk L g0 a0 rw)) args s 0 0 A) (F0 m 16 ls []) := by
    intro g3 a4 hq H locs ls hl hst
    have hm := hLJ1 _ hq
    dsimp only at hm
    refine lv_iconst (v := 1) hx hb d_M_one_16 (by decide) ?_
    refine lv_goto (tgt := 21) hx hb d_M_one_17 (by decide) ?_
    refine lv_istore_n (lv' := [(2, .int 1), (0, .ref h), (1, .int v1)]) hx hb d_M_one_21 rfl hl (by decide) rfl (fun ls hl => ?_)
    refine lv_iload_n hx hb d_M_one_22 rfl (lv_at hl 2 rfl) ?_
    refine lv_bipush (v := 93) hx hb d_M_one_23 (by decide) ?_
    obtain ⟨qJ6, hm, hLJ6, hR7⟩ := jn_u hm
    have hJ6 : ∀ (g8 : aG), qJ6 = .inl g8 → ∀ (H : Heap) (locs : List Loc) (ls : Array Slot), lv_has ls 4 [(0, .ref h), (1, .int v1), (2, .int 1)] → St dC dI A s.heap H locs (oW 0 h ksM spM tk L g8 a4 rw) → W p l e (rmo 3 68) s m args below meth c H locs 0 0 (MQ below (QI dC dI A r0 (oW 0 h ksM spM tk L g0 a0 rw)) args s 0 0 A) (F0 m 36 ls []) := by
      intro g8 hq H locs ls hl hst
      have hm := hLJ6 _ hq
      refine lv_iload_n hx hb d_M_one_36 rfl (lv_at hl 1 rfl) ?_
      refine lv_bipush (v := 125) hx hb d_M_one_37 (by decide) ?_
      obtain ⟨qJ10, hm, hLJ10, hR11⟩ := jn_u hm
      have hJ10 : ∀ (g12 : aG), qJ10 = .inl g12 → ∀ (H : Heap) (locs : List Loc) (ls : Array Slot), lv_has ls 4 [(0, .ref h), (1, .int v1), (2, .int 1)] → St dC dI A s.heap H locs (oW 0 h ksM spM tk L g12 a4 rw) → W p l e (rmo 3 68) s m args below meth c H locs 0 0 (MQ below (QI dC dI A r0 (oW 0 h ksM spM tk L g0 a0 rw)) args s 0 0 A) (F0 m 55 ls []) := by
        intro g12 hq H locs ls hl hst
        have hm := hLJ10 _ hq
        refine lv_aload_n hx hb d_M_one_55 rfl (lv_at hl 0 rfl) ?_
        refine ro_geti hx hb hown hG hg cM hst 21 (by decide) rfl rfl k_1035 d_M_one_56 ?_
        refine lv_iconst (v := 1) hx hb d_M_one_59 (by decide) ?_
        refine lv_icmp_ne (tgt := 69) hx hb d_M_one_60 (by decide) (fun h14 => ?_) (fun h14 => ?_)
        · have hm := it_f hm h14
          refine lv_aload_n hx hb d_M_one_69 rfl (lv_at hl 0 rfl) ?_
          refine ro_geti hx hb hown hG hg cM hst 21 (by decide) rfl rfl k_1035 d_M_one_70 ?_
          refine lv_iconst (v := 5) hx hb d_M_one_73 (by decide) ?_
          refine lv_icmp_ne (tgt := 104) hx hb d_M_one_74 (by decide) (fun h15 => ?_) (fun h15 => ?_)
          · have hm := it_f hm h15
            refine lv_iload_n hx hb d_M_one_104 rfl (lv_at hl 2 rfl) ?_
            refine lv_if_eq (tgt := 160) hx hb d_M_one_105 (by decide) (fun h16 => ?_) (fun h16 => ?_)
            · exact absurd h16 (by decide)
            refine lv_aload_n hx hb d_M_one_108 rfl (lv_at hl 0 rfl) ?_
            refine ro_geti hx hb hown hG hg cM hst 17 (by decide) rfl rfl k_1031 d_M_one_109 ?_
            refine lv_istore_n (lv' := [(3, .int (g12 17)), (0, .ref h), (1, .int v1), (2, .int 1)]) hx hb d_M_one_112 rfl hl (by decide) rfl (fun ls hl => ?_)
            refine lv_iload_n hx hb d_M_one_113 rfl (lv_at hl 2 rfl) ?_
            refine lv_bipush (v := 34) hx hb d_M_one_114 (by decide) ?_
            refine lv_icmp_ne (tgt := 126) hx hb d_M_one_116 (by decide) (fun h17 => ?_) (fun h17 => ?_)
            · have hm := it_f hm h17
              refine lv_iconst (v := 0) hx hb d_M_one_126 (by decide) ?_
              have he := (Option.some.inj hm)
              cases he
              exact rt_i hx hb hr hlk (by decide) hst rfl d_M_one_127
            · have hm := it_t hm h17
              refine lv_aload_n hx hb d_M_one_119 rfl (lv_at hl 1 rfl) ?_
              obtain ⟨⟨x19, g20, a21⟩, hc22, hm⟩ := bd_u hm
              dsimp only at hm
              refine cl_vi hx hb hml hown hG hg (cM_string l dC dI tk A h L g12 a4 rw n _ _ _ hc22) (cw_v 0 hG k_1192 k_1194 s_33 k_14 k_1195 (by decide +kernel) ⟨by decide, by decide⟩) hst rfl oW_0 rfl hl.1 rfl (Nat.le_of_ble_eq_true rfl) ⟨Nat.le_refl 0, Nat.le_refl 0⟩ d_M_one_120 (fun H locs hst => ?_)
              refine lv_if_ne (tgt := 128) hx hb d_M_one_123 (by decide) (fun h23 => ?_) (fun h23 => ?_)
              · have hm := it_f hm h23
                refine lv_aload_n hx hb d_M_one_128 rfl (lv_at hl 1 rfl) ?_
                refine ro_geta hx hb hown hG hg cM hst 14 6 (by decide) rfl rfl k_1028 d_M_one_129 ?_
                refine lv_aload_n hx hb d_M_one_132 rfl (lv_at hl 1 rfl) ?_
                refine ro_geti hx hb hown hG hg cM hst 8 (by decide) rfl rfl k_1022 d_M_one_133 ?_
                refine lv_iload_n hx hb d_M_one_136 rfl (lv_at hl 0 rfl) ?_
                obtain ⟨hn24, hm⟩ := gd_u hm
                refine ro_iast hx hb hg hst 6 rfl hn24 d_M_one_137 (fun a25 H locs ea25 hst => ?_)
                have hm := lt_u hm a25 ea25
                refine lv_aload_n hx hb d_M_one_138 rfl (lv_at hl 1 rfl) ?_
                refine ro_geta hx hb hown hG hg cM hst 15 7 (by decide) rfl rfl k_1029 d_M_one_139 ?_
                refine lv_aload_n hx hb d_M_one_142 rfl (lv_at hl 1 rfl) ?_
                refine ro_geti hx hb hown hG hg cM hst 8 (by decide) rfl rfl k_1022 d_M_one_143 ?_
                refine lv_aload_n hx hb d_M_one_146 rfl (lv_at hl 1 rfl) ?_
                refine ro_geti hx hb hown hG hg cM hst 17 (by decide) rfl rfl k_1031 d_M_one_147 ?_
                refine lv_iload_n hx hb d_M_one_150 rfl (lv_at hl 0 rfl) ?_
                refine lv_isub hx hb d_M_one_151 ?_
                obtain ⟨hn26, hm⟩ := gd_u hm
                refine ro_iast hx hb hg hst 7 rfl hn26 d_M_one_152 (fun a27 H locs ea27 hst => ?_)
                have hm := lt_u hm a27 ea27
                refine lv_aload_n hx hb d_M_one_153 rfl (lv_at hl 1 rfl) ?_
                refine lv_iconst (v := 5) hx hb d_M_one_154 (by decide) ?_
                refine ro_puti hx hb hown hG hg cM hst 21 (by decide) rfl rfl rfl rfl rfl k_1035 d_M_one_155 (fun g28 H locs eg28 hst => ?_)
                have hm := lt_u hm g28 eg28
                refine lv_iconst (v := 1) hx hb d_M_one_158 (by decide) ?_
                have he := (Option.some.inj hm)
                cases he
                exact rt_i hx hb hr hlk (by decide) hst rfl d_M_one_159
              · have hm := it_t hm h23
                refine lv_iconst (v := 0) hx hb d_M_one_126 (by decide) ?_
                have he := (Option.some.inj hm)
                cases he
                exact rt_i hx hb hr hlk (by decide) hst rfl d_M_one_127
          · have hm := it_t hm h15
            refine lv_aload_n hx hb d_M_one_77 rfl (lv_at hl 0 rfl) ?_
            refine lv_dup hx hb d_M_one_78 rfl ?_
            refine ro_geti hx hb hown hG hg cM hst 20 (by decide) rfl rfl k_1034 d_M_one_79 ?_
            refine lv_iconst (v := 1) hx hb d_M_one_82 (by decide) ?_
            refine lv_iadd hx hb d_M_one_83 ?_
            refine ro_puti hx hb hown hG hg cM hst 20 (by decide) rfl rfl rfl rfl rfl k_1034 d_M_one_84 (fun g29 H locs eg29 hst => ?_)
            have hm := lt_u hm g29 eg29
            refine lv_aload_n hx hb d_M_one_87 rfl (lv_at hl 0 rfl) ?_
            refine lv_iconst (v := 0) hx hb d_M_one_88 (by decide) ?_
            refine ro_puti hx hb hown hG hg cM hst 21 (by decide) rfl rfl rfl rfl rfl k_1035 d_M_one_89 (fun g30 H locs eg30 hst => ?_)
            have hm := lt_u hm g30 eg30
            refine lv_iload_n hx hb d_M_one_92 rfl (lv_at hl 1 rfl) ?_
            refine lv_bipush (v := 58) hx hb d_M_one_93 (by decide) ?_
            refine lv_icmp_ne (tgt := 102) hx hb d_M_one_95 (by decide) (fun h31 => ?_) (fun h31 => ?_)
            · have hm := it_f hm h31
              refine lv_iconst (v := 0) hx hb d_M_one_102 (by decide) ?_
              have he := (Option.some.inj hm)
              cases he
              exact rt_i hx hb hr hlk (by decide) hst rfl d_M_one_103
            · have hm := it_t hm h31
              refine lv_iconst (v := 1) hx hb d_M_one_98 (by decide) ?_
              refine lv_goto (tgt := 103) hx hb d_M_one_99 (by decide) ?_
              have he := (Option.some.inj hm)
              cases he
              exact rt_i hx hb hr hlk (by decide) hst rfl d_M_one_103
        · have hm := it_t hm h14
          refine lv_aload_n hx hb d_M_one_63 rfl (lv_at hl 0 rfl) ?_
          refine lv_iload_n hx hb d_M_one_64 rfl (lv_at hl 1 rfl) ?_
          obtain ⟨⟨x33, g34⟩, hc35, hm⟩ := bd_u hm
          dsimp only at hm
          refine cl_vi hx hb hml hown hG hg (cM_behind l dC dI tk A h L g12 a4 rw n v1 _ _ hc35) (cw_v 1 hG k_1188 k_1190 s_32 k_14 k_1191 (by decide +kernel) ⟨by decide, by decide⟩) hst rfl oW_0 rfl hl.1 rfl (Nat.le_of_ble_eq_true rfl) ⟨Nat.le_refl 0, Nat.le_refl 0⟩ d_M_one_65 (fun H locs hst => ?_)
          obtain ⟨hn36, hm⟩ := gd_u hm
          have he := (Option.some.inj hm)
          cases he
          exact rt_i hx hb hr hlk (okz_n hn36).1 hst rfl d_M_one_68
      refine lv_icmp_ne (tgt := 55) hx hb d_M_one_39 (by decide) (fun h37 => ?_) (fun h37 => ?_)
      · have hm := it_f hm h37
        exact hJ10 g8 (Option.some.inj hm).symm _ _ _ (lv_sub hl [0, 1, 2] rfl) hst
      · have hm := it_t hm h37
        refine lv_aload_n hx hb d_M_one_42 rfl (lv_at hl 0 rfl) ?_
        refine ro_geti hx hb hown hG hg cM hst 21 (by decide) rfl rfl k_1035 d_M_one_43 ?_
        refine lv_iconst (v := 4) hx hb d_M_one_46 (by decide) ?_
        refine lv_icmp_ne (tgt := 55) hx hb d_M_one_47 (by decide) (fun h38 => ?_) (fun h38 => ?_)
        · have hm := it_f hm h38
          exact hJ10 g8 (Option.some.inj hm).symm _ _ _ (lv_sub hl [0, 1, 2] rfl) hst
        · have hm := it_t hm h38
          refine lv_aload_n hx hb d_M_one_50 rfl (lv_at hl 0 rfl) ?_
          obtain ⟨⟨x40, g41⟩, hc42, hm⟩ := bd_u hm
          dsimp only at hm
          refine cl_vi hx hb hml hown hG hg (cM_shut l dC dI tk A h L g8 a4 rw n _ _ hc42) (cw_v 0 hG k_1184 k_1186 s_31 k_14 k_1187 (by decide +kernel) ⟨by decide, by decide⟩) hst rfl oW_0 rfl hl.1 rfl (Nat.le_of_ble_eq_true rfl) ⟨Nat.le_refl 0, Nat.le_refl 0⟩ d_M_one_51 (fun H locs hst => ?_)
          obtain ⟨hn43, hm⟩ := gd_u hm
          have he := (hR11 _ (Option.some.inj hm).symm)
          cases he
          exact rt_i hx hb hr hlk (okz_n hn43).1 hst rfl d_M_one_54
    refine lv_icmp_ne (tgt := 36) hx hb d_M_one_25 (by decide) (fun h44 => ?_) (fun h44 => ?_)
    · have hm := it_f hm h44
      exact hJ6 g3 (Option.some.inj hm).symm _ _ _ (lv_sub hl [1, 2, 0] rfl) hst
    · have hm := it_t hm h44
      refine lv_aload_n hx hb d_M_one_28 rfl (lv_at hl 1 rfl) ?_
      refine ro_geti hx hb hown hG hg cM hst 21 (by decide) rfl rfl k_1035 d_M_one_29 ?_
      refine lv_iconst (v := 2) hx hb d_M_one_32 (by decide) ?_
      refine lv_icmp_eq (tgt := 50) hx hb d_M_one_33 (by decide) (fun h45 => ?_) (fun h45 => ?_)
      · have hm := it_t hm h45
        refine lv_aload_n hx hb d_M_one_50 rfl (lv_at hl 1 rfl) ?_
        obtain ⟨⟨x47, g48⟩, hc49, hm⟩ := bd_u hm
        dsimp only at hm
        refine cl_vi hx hb hml hown hG hg (cM_shut l dC dI tk A h L g3 a4 rw n _ _ hc49) (cw_v 0 hG k_1184 k_1186 s_31 k_14 k_1187 (by decide +kernel) ⟨by decide, by decide⟩) hst rfl oW_0 rfl hl.1 rfl (Nat.le_of_ble_eq_true rfl) ⟨Nat.le_refl 0, Nat.le_refl 0⟩ d_M_one_51 (fun H locs hst => ?_)
        obtain ⟨hn50, hm⟩ := gd_u hm
        have he := (hR7 _ (Option.some.inj hm).symm)
        cases he
        exact rt_i hx hb hr hlk (okz_n hn50).1 hst rfl d_M_one_54
      · have hm := it_f hm h45
        exact hJ6 g3 (Option.some.inj hm).symm _ _ _ (lv_sub hl [1, 2, 0] rfl) hst
  refine lv_icmp_eq (tgt := 16) hx hb d_M_one_5 (by decide) (fun h51 => ?_) (fun h51 => ?_)
  · have hm := it_t hm h51
    exact hJ1 g a (Option.some.inj hm).symm _ _ _ (lv_sub hl [0, 1] rfl) hst
  · have hm := it_f hm h51
    refine lv_aload_n hx hb d_M_one_8 rfl (lv_at hl 0 rfl) ?_
    refine ro_geti hx hb hown hG hg cM hst 21 (by decide) rfl rfl k_1035 d_M_one_9 ?_
    refine lv_iconst (v := 4) hx hb d_M_one_12 (by decide) ?_
    refine lv_icmp_ne (tgt := 20) hx hb d_M_one_13 (by decide) (fun h52 => ?_) (fun h52 => ?_)
    · have hm := it_f hm h52
      refine lv_iconst (v := 0) hx hb d_M_one_20 (by decide) ?_
      refine lv_istore_n (lv' := [(2, .int 0), (0, .ref h), (1, .int v1)]) hx hb d_M_one_21 rfl hl (by decide) rfl (fun ls hl => ?_)
      refine lv_iload_n hx hb d_M_one_22 rfl (lv_at hl 2 rfl) ?_
      refine lv_bipush (v := 93) hx hb d_M_one_23 (by decide) ?_
      obtain ⟨qJ53, hm, hLJ53, hR54⟩ := jn_u hm
      have hJ53 : ∀ (g55 : aG), qJ53 = .inl g55 → ∀ (H : Heap) (locs : List Loc) (ls : Array Slot), lv_has ls 4 [(0, .ref h), (1, .int v1), (2, .int 0)] → St dC dI A s.heap H locs (oW 0 h ksM spM tk L g55 a rw) → W p l e (rmo 3 68) s m args below meth c H locs 0 0 (MQ below (QI dC dI A r0 (oW 0 h ksM spM tk L g0 a0 rw)) args s 0 0 A) (F0 m 36 ls []) := by
        intro g55 hq H locs ls hl hst
        have hm := hLJ53 _ hq
        refine lv_iload_n hx hb d_M_one_36 rfl (lv_at hl 1 rfl) ?_
        refine lv_bipush (v := 125) hx hb d_M_one_37 (by decide) ?_
        obtain ⟨qJ57, hm, hLJ57, hR58⟩ := jn_u hm
        have hJ57 : ∀ (g59 : aG), qJ57 = .inl g59 → ∀ (H : Heap) (locs : List Loc) (ls : Array Slot), lv_has ls 4 [(0, .ref h), (1, .int v1), (2, .int 0)] → St dC dI A s.heap H locs (oW 0 h ksM spM tk L g59 a rw) → W p l e (rmo 3 68) s m args below meth c H locs 0 0 (MQ below (QI dC dI A r0 (oW 0 h ksM spM tk L g0 a0 rw)) args s 0 0 A) (F0 m 55 ls []) := by
          intro g59 hq H locs ls hl hst
          have hm := hLJ57 _ hq
          refine lv_aload_n hx hb d_M_one_55 rfl (lv_at hl 0 rfl) ?_
          refine ro_geti hx hb hown hG hg cM hst 21 (by decide) rfl rfl k_1035 d_M_one_56 ?_
          refine lv_iconst (v := 1) hx hb d_M_one_59 (by decide) ?_
          refine lv_icmp_ne (tgt := 69) hx hb d_M_one_60 (by decide) (fun h61 => ?_) (fun h61 => ?_)
          · have hm := it_f hm h61
            refine lv_aload_n hx hb d_M_one_69 rfl (lv_at hl 0 rfl) ?_
            refine ro_geti hx hb hown hG hg cM hst 21 (by decide) rfl rfl k_1035 d_M_one_70 ?_
            refine lv_iconst (v := 5) hx hb d_M_one_73 (by decide) ?_
            refine lv_icmp_ne (tgt := 104) hx hb d_M_one_74 (by decide) (fun h62 => ?_) (fun h62 => ?_)
            · have hm := it_f hm h62
              refine lv_iload_n hx hb d_M_one_104 rfl (lv_at hl 2 rfl) ?_
              refine lv_if_eq (tgt := 160) hx hb d_M_one_105 (by decide) (fun h63 => ?_) (fun h63 => ?_)
              rotate_left
              · exact absurd h63 (by decide)
              refine lv_aload_n hx hb d_M_one_160 rfl (lv_at hl 0 rfl) ?_
              refine lv_iload_n hx hb d_M_one_161 rfl (lv_at hl 1 rfl) ?_
              obtain ⟨⟨x65, g66, a67⟩, hc68, hm⟩ := bd_u hm
              dsimp only at hm
              refine cl_vi hx hb hml hown hG hg (cM_value l dC dI tk A h L g59 a rw n v1 _ _ _ hc68) (cw_v 1 hG k_1196 k_1198 s_34 k_14 k_1199 (by decide +kernel) ⟨by decide, by decide⟩) hst rfl oW_0 rfl hl.1 rfl (Nat.le_of_ble_eq_true rfl) ⟨Nat.le_refl 0, Nat.le_refl 0⟩ d_M_one_162 (fun H locs hst => ?_)
              obtain ⟨hn69, hm⟩ := gd_u hm
              have he := (hR2 _ (Option.some.inj hm).symm)
              cases he
              exact rt_i hx hb hr hlk (okz_n hn69).1 hst rfl d_M_one_165
            · have hm := it_t hm h62
              refine lv_aload_n hx hb d_M_one_77 rfl (lv_at hl 0 rfl) ?_
              refine lv_dup hx hb d_M_one_78 rfl ?_
              refine ro_geti hx hb hown hG hg cM hst 20 (by decide) rfl rfl k_1034 d_M_one_79 ?_
              refine lv_iconst (v := 1) hx hb d_M_one_82 (by decide) ?_
              refine lv_iadd hx hb d_M_one_83 ?_
              refine ro_puti hx hb hown hG hg cM hst 20 (by decide) rfl rfl rfl rfl rfl k_1034 d_M_one_84 (fun g70 H locs eg70 hst => ?_)
              have hm := lt_u hm g70 eg70
              refine lv_aload_n hx hb d_M_one_87 rfl (lv_at hl 0 rfl) ?_
              refine lv_iconst (v := 0) hx hb d_M_one_88 (by decide) ?_
              refine ro_puti hx hb hown hG hg cM hst 21 (by decide) rfl rfl rfl rfl rfl k_1035 d_M_one_89 (fun g71 H locs eg71 hst => ?_)
              have hm := lt_u hm g71 eg71
              refine lv_iload_n hx hb d_M_one_92 rfl (lv_at hl 1 rfl) ?_
              refine lv_bipush (v := 58) hx hb d_M_one_93 (by decide) ?_
              refine lv_icmp_ne (tgt := 102) hx hb d_M_one_95 (by decide) (fun h72 => ?_) (fun h72 => ?_)
              · have hm := it_f hm h72
                refine lv_iconst (v := 0) hx hb d_M_one_102 (by decide) ?_
                have he := (hR2 _ (Option.some.inj hm).symm)
                cases he
                exact rt_i hx hb hr hlk (by decide) hst rfl d_M_one_103
              · have hm := it_t hm h72
                refine lv_iconst (v := 1) hx hb d_M_one_98 (by decide) ?_
                refine lv_goto (tgt := 103) hx hb d_M_one_99 (by decide) ?_
                have he := (hR2 _ (Option.some.inj hm).symm)
                cases he
                exact rt_i hx hb hr hlk (by decide) hst rfl d_M_one_103
          · have hm := it_t hm h61
            refine lv_aload_n hx hb d_M_one_63 rfl (lv_at hl 0 rfl) ?_
            refine lv_iload_n hx hb d_M_one_64 rfl (lv_at hl 1 rfl) ?_
            obtain ⟨⟨x74, g75⟩, hc76, hm⟩ := bd_u hm
            dsimp only at hm
            refine cl_vi hx hb hml hown hG hg (cM_behind l dC dI tk A h L g59 a rw n v1 _ _ hc76) (cw_v 1 hG k_1188 k_1190 s_32 k_14 k_1191 (by decide +kernel) ⟨by decide, by decide⟩) hst rfl oW_0 rfl hl.1 rfl (Nat.le_of_ble_eq_true rfl) ⟨Nat.le_refl 0, Nat.le_refl 0⟩ d_M_one_65 (fun H locs hst => ?_)
            obtain ⟨hn77, hm⟩ := gd_u hm
            have he := (hR2 _ (Option.some.inj hm).symm)
            cases he
            exact rt_i hx hb hr hlk (okz_n hn77).1 hst rfl d_M_one_68
        refine lv_icmp_ne (tgt := 55) hx hb d_M_one_39 (by decide) (fun h78 => ?_) (fun h78 => ?_)
        · have hm := it_f hm h78
          exact hJ57 g55 (Option.some.inj hm).symm _ _ _ (lv_sub hl [0, 1, 2] rfl) hst
        · have hm := it_t hm h78
          refine lv_aload_n hx hb d_M_one_42 rfl (lv_at hl 0 rfl) ?_
          refine ro_geti hx hb hown hG hg cM hst 21 (by decide) rfl rfl k_1035 d_M_one_43 ?_
          refine lv_iconst (v := 4) hx hb d_M_one_46 (by decide) ?_
          refine lv_icmp_ne (tgt := 55) hx hb d_M_one_47 (by decide) (fun h79 => ?_) (fun h79 => ?_)
          · have hm := it_f hm h79
            exact hJ57 g55 (Option.some.inj hm).symm _ _ _ (lv_sub hl [0, 1, 2] rfl) hst
          · have hm := it_t hm h79
            refine lv_aload_n hx hb d_M_one_50 rfl (lv_at hl 0 rfl) ?_
            obtain ⟨⟨x81, g82⟩, hc83, hm⟩ := bd_u hm
            dsimp only at hm
            refine cl_vi hx hb hml hown hG hg (cM_shut l dC dI tk A h L g55 a rw n _ _ hc83) (cw_v 0 hG k_1184 k_1186 s_31 k_14 k_1187 (by decide +kernel) ⟨by decide, by decide⟩) hst rfl oW_0 rfl hl.1 rfl (Nat.le_of_ble_eq_true rfl) ⟨Nat.le_refl 0, Nat.le_refl 0⟩ d_M_one_51 (fun H locs hst => ?_)
            obtain ⟨hn84, hm⟩ := gd_u hm
            have he := (hR2 _ (hR58 _ (Option.some.inj hm).symm).symm)
            cases he
            exact rt_i hx hb hr hlk (okz_n hn84).1 hst rfl d_M_one_54
      refine lv_icmp_ne (tgt := 36) hx hb d_M_one_25 (by decide) (fun h85 => ?_) (fun h85 => ?_)
      · have hm := it_f hm h85
        exact hJ53 g (Option.some.inj hm).symm _ _ _ (lv_sub hl [1, 2, 0] rfl) hst
      · have hm := it_t hm h85
        refine lv_aload_n hx hb d_M_one_28 rfl (lv_at hl 1 rfl) ?_
        refine ro_geti hx hb hown hG hg cM hst 21 (by decide) rfl rfl k_1035 d_M_one_29 ?_
        refine lv_iconst (v := 2) hx hb d_M_one_32 (by decide) ?_
        refine lv_icmp_eq (tgt := 50) hx hb d_M_one_33 (by decide) (fun h86 => ?_) (fun h86 => ?_)
        · have hm := it_t hm h86
          refine lv_aload_n hx hb d_M_one_50 rfl (lv_at hl 1 rfl) ?_
          obtain ⟨⟨x88, g89⟩, hc90, hm⟩ := bd_u hm
          dsimp only at hm
          refine cl_vi hx hb hml hown hG hg (cM_shut l dC dI tk A h L g a rw n _ _ hc90) (cw_v 0 hG k_1184 k_1186 s_31 k_14 k_1187 (by decide +kernel) ⟨by decide, by decide⟩) hst rfl oW_0 rfl hl.1 rfl (Nat.le_of_ble_eq_true rfl) ⟨Nat.le_refl 0, Nat.le_refl 0⟩ d_M_one_51 (fun H locs hst => ?_)
          obtain ⟨hn91, hm⟩ := gd_u hm
          have he := (hR2 _ (hR54 _ (Option.some.inj hm).symm).symm)
          cases he
          exact rt_i hx hb hr hlk (okz_n hn91).1 hst rfl d_M_one_54
        · have hm := it_f hm h86
          exact hJ53 g (Option.some.inj hm).symm _ _ _ (lv_sub hl [1, 2, 0] rfl) hst
    · have hm := it_t hm h52
      exact hJ1 g a (Option.some.inj hm).symm _ _ _ (lv_sub hl [0, 1] rfl) hst
def mM_read (n : Nat) (g : aG) (a : aA) : Option (Int32 × aG × aA) := lt (va_up g 8 0) (fun g1 => lt (va_up g1 17 0) (fun g2 => lt (va_up g2 19 0) (fun g3 => lt (va_up g3 20 0) (fun g4 => lt (va_up g4 21 0) (fun g5 => jn (α := aG × aA) (lp (ε := Int32 × Int32 × aG × aA) (fun q17 => if 400 < q17.2.1 then (some (.inr (.inr ((0, q17.2.2.1, q17.2.2.2))))) else (if q17.1 = 0 then (some (.inr (.inr ((0, q17.2.2.1, q17.2.2.2))))) else (jn (α := aG) (lp (ε := aG) (fun g36 => if (g36 6) ≤ (g36 20) then (some (.inr (.inl g36))) else (gd (inb (g36 20) 200) (lt (q17.2.2.2 0 (g36 20).toNatClampNeg) (fun x43 => bd (mM_isBlank n x43) (fun x45 => if x45 = 0 then (some (.inr (.inl g36))) else (lt (va_up g36 20 ((g36 20) + 1)) (fun g48 => some (.inl g48)))))))) n q17.2.2.1) (fun g25 => if (g25 20) < (g25 6) then (bd (mM_peek n g25 q17.2.2.2) (fun x29 => bd (mM_one n x29 g25 q17.2.2.2) (fun q31 => some (.inl (q31.1, (q17.2.1 + 1), q31.2.1, q31.2.2))))) else (some (.inr (.inl (g25, q17.2.2.2)))))))) n (1, 0, g5, a)) (fun q10 => if (q10.1 21) = 1 then (if (q10.1 19) = 0 then (some ((1, q10.1, q10.2))) else (some ((0, q10.1, q10.2)))) else (some ((0, q10.1, q10.2)))))))))
theorem d_M_read_0 : decode prog_11_method_8_code 0 = .ok (.aload_n 0, 1) := by decide +kernel
theorem d_M_read_1 : decode prog_11_method_8_code 1 = .ok (.iconst 0, 1) := by decide +kernel
theorem d_M_read_2 : decode prog_11_method_8_code 2 = .ok (.putfield 124, 3) := by decide +kernel
theorem d_M_read_5 : decode prog_11_method_8_code 5 = .ok (.aload_n 0, 1) := by decide +kernel
theorem d_M_read_6 : decode prog_11_method_8_code 6 = .ok (.iconst 0, 1) := by decide +kernel
theorem d_M_read_7 : decode prog_11_method_8_code 7 = .ok (.putfield 127, 3) := by decide +kernel
theorem d_M_read_10 : decode prog_11_method_8_code 10 = .ok (.aload_n 0, 1) := by decide +kernel
theorem d_M_read_11 : decode prog_11_method_8_code 11 = .ok (.iconst 0, 1) := by decide +kernel
theorem d_M_read_12 : decode prog_11_method_8_code 12 = .ok (.putfield 130, 3) := by decide +kernel
theorem d_M_read_15 : decode prog_11_method_8_code 15 = .ok (.aload_n 0, 1) := by decide +kernel
theorem d_M_read_16 : decode prog_11_method_8_code 16 = .ok (.iconst 0, 1) := by decide +kernel
theorem d_M_read_17 : decode prog_11_method_8_code 17 = .ok (.putfield 121, 3) := by decide +kernel
theorem d_M_read_20 : decode prog_11_method_8_code 20 = .ok (.aload_n 0, 1) := by decide +kernel
theorem d_M_read_21 : decode prog_11_method_8_code 21 = .ok (.iconst 0, 1) := by decide +kernel
theorem d_M_read_22 : decode prog_11_method_8_code 22 = .ok (.putfield 133, 3) := by decide +kernel
theorem d_M_read_25 : decode prog_11_method_8_code 25 = .ok (.iconst 1, 1) := by decide +kernel
theorem d_M_read_26 : decode prog_11_method_8_code 26 = .ok (.istore_n 1, 1) := by decide +kernel
theorem d_M_read_27 : decode prog_11_method_8_code 27 = .ok (.iconst 0, 1) := by decide +kernel
theorem d_M_read_28 : decode prog_11_method_8_code 28 = .ok (.istore_n 2, 1) := by decide +kernel
theorem d_M_read_29 : decode prog_11_method_8_code 29 = .ok (.iload_n 2, 1) := by decide +kernel
theorem d_M_read_30 : decode prog_11_method_8_code 30 = .ok (.sipush 400, 3) := by decide +kernel
theorem d_M_read_33 : decode prog_11_method_8_code 33 = .ok (.if_icmp .gt 93, 3) := by decide +kernel
theorem d_M_read_36 : decode prog_11_method_8_code 36 = .ok (.iload_n 1, 1) := by decide +kernel
theorem d_M_read_37 : decode prog_11_method_8_code 37 = .ok (.ifCond .eq 89, 3) := by decide +kernel
theorem d_M_read_40 : decode prog_11_method_8_code 40 = .ok (.aload_n 0, 1) := by decide +kernel
theorem d_M_read_41 : decode prog_11_method_8_code 41 = .ok (.getfield 121, 3) := by decide +kernel
theorem d_M_read_44 : decode prog_11_method_8_code 44 = .ok (.aload_n 0, 1) := by decide +kernel
theorem d_M_read_45 : decode prog_11_method_8_code 45 = .ok (.getfield 109, 3) := by decide +kernel
theorem d_M_read_48 : decode prog_11_method_8_code 48 = .ok (.if_icmp .ge 31, 3) := by decide +kernel
theorem d_M_read_51 : decode prog_11_method_8_code 51 = .ok (.aload_n 0, 1) := by decide +kernel
theorem d_M_read_52 : decode prog_11_method_8_code 52 = .ok (.getfield 7, 3) := by decide +kernel
theorem d_M_read_55 : decode prog_11_method_8_code 55 = .ok (.aload_n 0, 1) := by decide +kernel
theorem d_M_read_56 : decode prog_11_method_8_code 56 = .ok (.getfield 121, 3) := by decide +kernel
theorem d_M_read_59 : decode prog_11_method_8_code 59 = .ok (.iaload, 1) := by decide +kernel
theorem d_M_read_60 : decode prog_11_method_8_code 60 = .ok (.invokestatic 136, 3) := by decide +kernel
theorem d_M_read_63 : decode prog_11_method_8_code 63 = .ok (.ifCond .eq 16, 3) := by decide +kernel
theorem d_M_read_66 : decode prog_11_method_8_code 66 = .ok (.aload_n 0, 1) := by decide +kernel
theorem d_M_read_67 : decode prog_11_method_8_code 67 = .ok (.dup, 1) := by decide +kernel
theorem d_M_read_68 : decode prog_11_method_8_code 68 = .ok (.getfield 121, 3) := by decide +kernel
theorem d_M_read_71 : decode prog_11_method_8_code 71 = .ok (.iconst 1, 1) := by decide +kernel
theorem d_M_read_72 : decode prog_11_method_8_code 72 = .ok (.iadd, 1) := by decide +kernel
theorem d_M_read_73 : decode prog_11_method_8_code 73 = .ok (.putfield 121, 3) := by decide +kernel
theorem d_M_read_76 : decode prog_11_method_8_code 76 = .ok (.goto (-36), 3) := by decide +kernel
theorem d_M_read_79 : decode prog_11_method_8_code 79 = .ok (.aload_n 0, 1) := by decide +kernel
theorem d_M_read_80 : decode prog_11_method_8_code 80 = .ok (.getfield 121, 3) := by decide +kernel
theorem d_M_read_83 : decode prog_11_method_8_code 83 = .ok (.aload_n 0, 1) := by decide +kernel
theorem d_M_read_84 : decode prog_11_method_8_code 84 = .ok (.getfield 109, 3) := by decide +kernel
theorem d_M_read_87 : decode prog_11_method_8_code 87 = .ok (.if_icmp .lt 24, 3) := by decide +kernel
theorem d_M_read_90 : decode prog_11_method_8_code 90 = .ok (.aload_n 0, 1) := by decide +kernel
theorem d_M_read_91 : decode prog_11_method_8_code 91 = .ok (.getfield 133, 3) := by decide +kernel
theorem d_M_read_94 : decode prog_11_method_8_code 94 = .ok (.iconst 1, 1) := by decide +kernel
theorem d_M_read_95 : decode prog_11_method_8_code 95 = .ok (.if_icmp .ne 14, 3) := by decide +kernel
theorem d_M_read_98 : decode prog_11_method_8_code 98 = .ok (.aload_n 0, 1) := by decide +kernel
theorem d_M_read_99 : decode prog_11_method_8_code 99 = .ok (.getfield 130, 3) := by decide +kernel
theorem d_M_read_102 : decode prog_11_method_8_code 102 = .ok (.ifCond .ne 7, 3) := by decide +kernel
theorem d_M_read_105 : decode prog_11_method_8_code 105 = .ok (.iconst 1, 1) := by decide +kernel
theorem d_M_read_106 : decode prog_11_method_8_code 106 = .ok (.goto 4, 3) := by decide +kernel
theorem d_M_read_109 : decode prog_11_method_8_code 109 = .ok (.iconst 0, 1) := by decide +kernel
theorem d_M_read_110 : decode prog_11_method_8_code 110 = .ok (.ireturn, 1) := by decide +kernel
theorem d_M_read_111 : decode prog_11_method_8_code 111 = .ok (.aload_n 0, 1) := by decide +kernel
theorem d_M_read_112 : decode prog_11_method_8_code 112 = .ok (.aload_n 0, 1) := by decide +kernel
theorem d_M_read_113 : decode prog_11_method_8_code 113 = .ok (.invokevirtual 140, 3) := by decide +kernel
theorem d_M_read_116 : decode prog_11_method_8_code 116 = .ok (.invokevirtual 144, 3) := by decide +kernel
theorem d_M_read_119 : decode prog_11_method_8_code 119 = .ok (.istore_n 1, 1) := by decide +kernel
theorem d_M_read_120 : decode prog_11_method_8_code 120 = .ok (.iinc 2 1, 3) := by decide +kernel
theorem d_M_read_123 : decode prog_11_method_8_code 123 = .ok (.goto (-94), 3) := by decide +kernel
theorem d_M_read_126 : decode prog_11_method_8_code 126 = .ok (.iconst 0, 1) := by decide +kernel
theorem d_M_read_127 : decode prog_11_method_8_code 127 = .ok (.ireturn, 1) := by decide +kernel
set_option maxHeartbeats 4000000 in
set_option maxRecDepth 100000 in
theorem cM_read (l : Launch) (dC : Nat → ClassId) (dI : Nat → Nat → Nat) (tk : Nat → ClassId) (A : Nat → Prop) (h : Nat) (L : Nat → Nat) (g : aG) (a : aA) (rw : va_W) (n : Nat) (r0 : Int32) (g0 : aG) (a0 : aA) (hm : mM_read n g a = some (r0, g0, a0)) : CtI l dC dI tk A ⟨"EditorServerModel", "read", "()Z"⟩ prog_11_method_8_code 3 (some .boolean) 4 91 [.ref h] (oW 0 h ksM spM tk L g a rw) r0 (oW 0 h ksM spM tk L g0 a0 rw) := by
  refine ent (by decide) (Nat.le_of_ble_eq_true rfl) ?_
  intro p e s m args below meth c hx hb hr hml hown hlk hG hg hst ls hl
  unfold mM_read at hm
  have hl : lv_has ls 3 [(0, .ref h)] := hl
  refine lv_aload_n hx hb d_M_read_0 rfl (lv_at hl 0 rfl) ?_
  refine lv_iconst (v := 0) hx hb d_M_read_1 (by decide) ?_
  refine ro_puti hx hb hown hG hg cM hst 8 (by decide) rfl rfl rfl rfl rfl k_1022 d_M_read_2 (fun g1 H locs eg1 hst => ?_)
  have hm := lt_u hm g1 eg1
  refine lv_aload_n hx hb d_M_read_5 rfl (lv_at hl 0 rfl) ?_
  refine lv_iconst (v := 0) hx hb d_M_read_6 (by decide) ?_
  refine ro_puti hx hb hown hG hg cM hst 17 (by decide) rfl rfl rfl rfl rfl k_1031 d_M_read_7 (fun g2 H locs eg2 hst => ?_)
  have hm := lt_u hm g2 eg2
  refine lv_aload_n hx hb d_M_read_10 rfl (lv_at hl 0 rfl) ?_
  refine lv_iconst (v := 0) hx hb d_M_read_11 (by decide) ?_
  refine ro_puti hx hb hown hG hg cM hst 19 (by decide) rfl rfl rfl rfl rfl k_1033 d_M_read_12 (fun g3 H locs eg3 hst => ?_)
  have hm := lt_u hm g3 eg3
  refine lv_aload_n hx hb d_M_read_15 rfl (lv_at hl 0 rfl) ?_
  refine lv_iconst (v := 0) hx hb d_M_read_16 (by decide) ?_
  refine ro_puti hx hb hown hG hg cM hst 20 (by decide) rfl rfl rfl rfl rfl k_1034 d_M_read_17 (fun g4 H locs eg4 hst => ?_)
  have hm := lt_u hm g4 eg4
  refine lv_aload_n hx hb d_M_read_20 rfl (lv_at hl 0 rfl) ?_
  refine lv_iconst (v := 0) hx hb d_M_read_21 (by decide) ?_
  refine ro_puti hx hb hown hG hg cM hst 21 (by decide) rfl rfl rfl rfl rfl k_1035 d_M_read_22 (fun g5 H locs eg5 hst => ?_)
  have hm := lt_u hm g5 eg5
  refine lv_iconst (v := 1) hx hb d_M_read_25 (by decide) ?_
  refine lv_istore_n (lv' := [(1, .int 1), (0, .ref h)]) hx hb d_M_read_26 rfl hl (by decide) rfl (fun ls hl => ?_)
  refine lv_iconst (v := 0) hx hb d_M_read_27 (by decide) ?_
  refine lv_istore_n (lv' := [(2, .int 0), (1, .int 1), (0, .ref h)]) hx hb d_M_read_28 rfl hl (by decide) rfl (fun ls hl => ?_)
  obtain ⟨qJ6, hm, hLJ6, hR7⟩ := jn_u hm
  have hJ6 : ∀ (g8 : aG) (a9 : aA), qJ6 = .inl (g8, a9) → ∀ (H : Heap) (locs : List Loc) (ls : Array Slot), lv_has ls 3 [(0, .ref h)] → St dC dI A s.heap H locs (oW 0 h ksM spM tk L g8 a9 rw) → W p l e (rmo 4 91) s m args below meth c H locs 0 0 (MQ below (QI dC dI A r0 (oW 0 h ksM spM tk L g0 a0 rw)) args s 0 0 A) (F0 m 90 ls []) := by
    intro g8 a9 hq H locs ls hl hst
    have hm := hLJ6 _ hq
    dsimp only at hm
    refine lv_aload_n hx hb d_M_read_90 rfl (lv_at hl 0 rfl) ?_
    refine ro_geti hx hb hown hG hg cM hst 21 (by decide) rfl rfl k_1035 d_M_read_91 ?_
    refine lv_iconst (v := 1) hx hb d_M_read_94 (by decide) ?_
    refine lv_icmp_ne (tgt := 109) hx hb d_M_read_95 (by decide) (fun h11 => ?_) (fun h11 => ?_)
    · have hm := it_f hm h11
      refine lv_iconst (v := 0) hx hb d_M_read_109 (by decide) ?_
      have he := (Option.some.inj hm)
      cases he
      exact rt_i hx hb hr hlk (by decide) hst rfl d_M_read_110
    · have hm := it_t hm h11
      refine lv_aload_n hx hb d_M_read_98 rfl (lv_at hl 0 rfl) ?_
      refine ro_geti hx hb hown hG hg cM hst 19 (by decide) rfl rfl k_1033 d_M_read_99 ?_
      refine lv_if_ne (tgt := 109) hx hb d_M_read_102 (by decide) (fun h12 => ?_) (fun h12 => ?_)
      · have hm := it_f hm h12
        refine lv_iconst (v := 0) hx hb d_M_read_109 (by decide) ?_
        have he := (Option.some.inj hm)
        cases he
        exact rt_i hx hb hr hlk (by decide) hst rfl d_M_read_110
      · have hm := it_t hm h12
        refine lv_iconst (v := 1) hx hb d_M_read_105 (by decide) ?_
        refine lv_goto (tgt := 110) hx hb d_M_read_106 (by decide) ?_
        have he := (Option.some.inj hm)
        cases he
        exact rt_i hx hb hr hlk (by decide) hst rfl d_M_read_110
  refine lp_u (fun q17 : Int32 × Int32 × aG × aA => ∀ (H : Heap) (locs : List Loc) (ls : Array Slot), lv_has ls 3 [(0, .ref h), (1, .int q17.1), (2, .int q17.2.1)] → St dC dI A s.heap H locs (oW 0 h ksM spM tk L q17.2.2.1 q17.2.2.2 rw) → W p l e (rmo 4 91) s m args below meth c H locs 0 0 (MQ below (QI dC dI A r0 (oW 0 h ksM spM tk L g0 a0 rw)) args s 0 0 A) (F0 m 29 ls [])) ?_ n (1, 0, g5, a) hm _ _ _ (lv_sub hl [2, 1, 0] rfl) hst
  rintro ⟨x13, x14, g15, a16⟩ r20 hm hJ180 hR19 H locs ls hl hst
  dsimp only at hm hl hst ⊢
  have hJ18 := fun y0 y1 y2 y3 (e : r20 = .inl (y0, y1, y2, y3)) => hJ180 (y0, y1, y2, y3) e
  dsimp only at hJ18
  refine lv_iload_n hx hb d_M_read_29 rfl (lv_at hl 2 rfl) ?_
  refine lv_sipush (v := 400) hx hb d_M_read_30 (by decide) ?_
  refine lv_icmp_gt (tgt := 126) hx hb d_M_read_33 (by decide) (fun h21 => ?_) (fun h21 => ?_)
  · have hm := it_t hm h21
    refine lv_iconst (v := 0) hx hb d_M_read_126 (by decide) ?_
    have he := (hR7 _ (hR19 _ (Option.some.inj hm).symm).symm)
    cases he
    exact rt_i hx hb hr hlk (by decide) hst rfl d_M_read_127
  · have hm := it_f hm h21
    refine lv_iload_n hx hb d_M_read_36 rfl (lv_at hl 1 rfl) ?_
    refine lv_if_eq (tgt := 126) hx hb d_M_read_37 (by decide) (fun h22 => ?_) (fun h22 => ?_)
    · have hm := it_t hm h22
      refine lv_iconst (v := 0) hx hb d_M_read_126 (by decide) ?_
      have he := (hR7 _ (hR19 _ (Option.some.inj hm).symm).symm)
      cases he
      exact rt_i hx hb hr hlk (by decide) hst rfl d_M_read_127
    · have hm := it_f hm h22
      obtain ⟨qJ23, hm, hLJ23, hR24⟩ := jn_u hm
      have hJ23 : ∀ (g25 : aG), qJ23 = .inl g25 → ∀ (H : Heap) (locs : List Loc) (ls : Array Slot), lv_has ls 3 [(0, .ref h), (1, .int x13), (2, .int x14)] → St dC dI A s.heap H locs (oW 0 h ksM spM tk L g25 a16 rw) → W p l e (rmo 4 91) s m args below meth c H locs 0 0 (MQ below (QI dC dI A r0 (oW 0 h ksM spM tk L g0 a0 rw)) args s 0 0 A) (F0 m 79 ls []) := by
        intro g25 hq H locs ls hl hst
        have hm := hLJ23 _ hq
        refine lv_aload_n hx hb d_M_read_79 rfl (lv_at hl 0 rfl) ?_
        refine ro_geti hx hb hown hG hg cM hst 20 (by decide) rfl rfl k_1034 d_M_read_80 ?_
        refine lv_aload_n hx hb d_M_read_83 rfl (lv_at hl 0 rfl) ?_
        refine ro_geti hx hb hown hG hg cM hst 6 (by decide) rfl rfl k_1020 d_M_read_84 ?_
        refine lv_icmp_lt (tgt := 111) hx hb d_M_read_87 (by decide) (fun h27 => ?_) (fun h27 => ?_)
        · have hm := it_t hm h27
          refine lv_aload_n hx hb d_M_read_111 rfl (lv_at hl 0 rfl) ?_
          refine lv_aload_n hx hb d_M_read_112 rfl (lv_at hl 0 rfl) ?_
          obtain ⟨x29, hc30, hm⟩ := bd_u hm
          refine cl_vi hx hb hml hown hG hg (cM_peek l dC dI tk A h L g25 a16 rw n _ hc30) (cw_v 0 hG k_1176 k_1178 s_29 k_14 k_1179 (by decide +kernel) ⟨by decide, by decide⟩) hst rfl oW_0 rfl hl.1 rfl (Nat.le_of_ble_eq_true rfl) ⟨Nat.le_refl 0, Nat.le_refl 0⟩ d_M_read_113 (fun H locs hst => ?_)
          obtain ⟨⟨x32, g33, a34⟩, hc35, hm⟩ := bd_u hm
          dsimp only at hm
          refine cl_vi hx hb hml hown hG hg (cM_one l dC dI tk A h L g25 a16 rw n x29 _ _ _ hc35) (cw_v 1 hG k_1180 k_1182 s_30 k_14 k_1183 (by decide +kernel) ⟨by decide, by decide⟩) hst rfl oW_0 rfl hl.1 rfl (Nat.le_of_ble_eq_true rfl) ⟨Nat.le_refl 0, Nat.le_refl 0⟩ d_M_read_116 (fun H locs hst => ?_)
          refine lv_istore_n (lv' := [(1, .int x32), (0, .ref h), (2, .int x14)]) hx hb d_M_read_119 rfl hl (by decide) rfl (fun ls hl => ?_)
          refine lv_iinc (k := 2) (v := (x14 + 1)) (lv' := [(2, .int (x14 + 1)), (1, .int x32), (0, .ref h)]) hx hb d_M_read_120 hl rfl (by rfl) (by decide) rfl (fun ls hl => ?_)
          refine lv_goto (tgt := 29) hx hb d_M_read_123 (by decide) ?_
          exact hJ18 x32 (x14 + 1) g33 a34 (Option.some.inj hm).symm _ _ _ (lv_sub hl [2, 1, 0] rfl) hst
        · have hm := it_f hm h27
          exact hJ6 g25 a16 (hR19 _ (Option.some.inj hm).symm).symm _ _ _ (lv_sub hl [0] rfl) hst
      refine lp_u (fun g36 : aG => ∀ (H : Heap) (locs : List Loc) (ls : Array Slot), lv_has ls 3 [(0, .ref h), (1, .int x13), (2, .int x14)] → St dC dI A s.heap H locs (oW 0 h ksM spM tk L g36 a16 rw) → W p l e (rmo 4 91) s m args below meth c H locs 0 0 (MQ below (QI dC dI A r0 (oW 0 h ksM spM tk L g0 a0 rw)) args s 0 0 A) (F0 m 40 ls [])) ?_ n g15 hm _ _ _ (lv_sub hl [0, 1, 2] rfl) hst
      rintro g36 r40 hm hJ380 hR39 H locs ls hl hst
      have hJ38 := fun y0 (e : r40 = .inl y0) => hJ380 y0 e
      refine lv_aload_n hx hb d_M_read_40 rfl (lv_at hl 0 rfl) ?_
      refine ro_geti hx hb hown hG hg cM hst 20 (by decide) rfl rfl k_1034 d_M_read_41 ?_
      refine lv_aload_n hx hb d_M_read_44 rfl (lv_at hl 0 rfl) ?_
      refine ro_geti hx hb hown hG hg cM hst 6 (by decide) rfl rfl k_1020 d_M_read_45 ?_
      refine lv_icmp_ge (tgt := 79) hx hb d_M_read_48 (by decide) (fun h41 => ?_) (fun h41 => ?_)
      · have hm := it_t hm h41
        exact hJ23 g36 (hR39 _ (Option.some.inj hm).symm).symm _ _ _ (lv_sub hl [0, 1, 2] rfl) hst
      · have hm := it_f hm h41
        refine lv_aload_n hx hb d_M_read_51 rfl (lv_at hl 0 rfl) ?_
        refine ro_geta hx hb hown hG hg cM hst 7 0 (by decide) rfl rfl k_1021 d_M_read_52 ?_
        refine lv_aload_n hx hb d_M_read_55 rfl (lv_at hl 0 rfl) ?_
        refine ro_geti hx hb hown hG hg cM hst 20 (by decide) rfl rfl k_1034 d_M_read_56 ?_
        obtain ⟨hn42, hm⟩ := gd_u hm
        refine ro_iald hx hb hg hst 0 rfl hn42 d_M_read_59 ?_
        refine lv_topi (fun x43 ex43 => ?_)
        have hm := lt_u hm x43 ex43
        obtain ⟨x45, hc46, hm⟩ := bd_u hm
        refine cl_si hx hb hml hown hG hg (cM_isBlank l dC dI tk A (oW 0 h ksM spM tk L g36 a16 rw) n x43 _ hc46) (cw_s 1 hG k_1173 k_1174 k_14 k_1175 (by decide +kernel) ⟨by decide, by decide⟩) hst rfl hl.1 rfl (Nat.le_of_ble_eq_true rfl) ⟨Nat.le_refl 0, Nat.le_refl 0⟩ d_M_read_60 (fun H locs hst => ?_)
        refine lv_if_eq (tgt := 79) hx hb d_M_read_63 (by decide) (fun h47 => ?_) (fun h47 => ?_)
        · have hm := it_t hm h47
          exact hJ23 g36 (hR39 _ (Option.some.inj hm).symm).symm _ _ _ (lv_sub hl [0, 1, 2] rfl) hst
        · have hm := it_f hm h47
          refine lv_aload_n hx hb d_M_read_66 rfl (lv_at hl 0 rfl) ?_
          refine lv_dup hx hb d_M_read_67 rfl ?_
          refine ro_geti hx hb hown hG hg cM hst 20 (by decide) rfl rfl k_1034 d_M_read_68 ?_
          refine lv_iconst (v := 1) hx hb d_M_read_71 (by decide) ?_
          refine lv_iadd hx hb d_M_read_72 ?_
          refine ro_puti hx hb hown hG hg cM hst 20 (by decide) rfl rfl rfl rfl rfl k_1034 d_M_read_73 (fun g48 H locs eg48 hst => ?_)
          have hm := lt_u hm g48 eg48
          refine lv_goto (tgt := 40) hx hb d_M_read_76 (by decide) ?_
          exact hJ38 g48 (Option.some.inj hm).symm _ _ _ (lv_sub hl [0, 1, 2] rfl) hst
def mM_handle (n : Nat) (g : aG) (a : aA) : Option (aG × aA) := bd (mM_read n g a) (fun q1 => if q1.1 = 0 then (bd (mM_respond n 0 0 0 (-32700) q1.2.1 q1.2.2) (fun q69 => some ((q69.1, q69.2)))) else (gd (inb 0 41) (lt (q1.2.2 1 (0 : Int32).toNatClampNeg) (fun x8 => jn (α := Int32) (if x8 = 4 then (bd (mM_member n 109 101 116 104 111 100 q1.2.1 q1.2.2) (fun x67 => some (.inl x67))) else (some (.inl (-1)))) (fun x11 => gd (inb 0 41) (lt (q1.2.2 1 (0 : Int32).toNatClampNeg) (fun x14 => jn (α := Int32) (if x14 = 4 then (bd (mM_member n 105 100 0 0 0 0 q1.2.1 q1.2.2) (fun x63 => some (.inl x63))) else (some (.inl (-1)))) (fun x17 => bd (mM_isSort n x17 1 q1.2.1 q1.2.2) (fun x20 => bd (mM_isSort n x11 2 q1.2.1 q1.2.2) (fun x23 => jn (α := aG × aA) (if x23 = 0 then (some (.inl (q1.2.1, q1.2.2))) else (jn (α := Unit) (if x17 < 0 then (some (.inl ())) else (if x20 = 0 then (some (.inr (.inl (q1.2.1, q1.2.2)))) else (some (.inl ())))) (fun _ => bd (mM_member n 112 97 114 97 109 115 q1.2.1 q1.2.2) (fun x46 => if x20 = 0 then (bd (mM_notice n x11 x46 q1.2.1 q1.2.2) (fun q49 => some (.inr ((q49.1, q49.2))))) else (gd (inb x17 41) (lt (q1.2.2 2 x17.toNatClampNeg) (fun x54 => bd (mM_ask n x54 x11 x46 q1.2.1 q1.2.2) (fun q55 => some (.inr ((q55.1, q55.2))))))))))) (fun q29 => jn (α := Int32) (if x20 = 0 then (some (.inl 0)) else (gd (inb x17 41) (lt (q29.2 2 x17.toNatClampNeg) (fun x40 => some (.inl x40))))) (fun x32 => bd (mM_respond n x20 x32 0 (-32600) q29.1 q29.2) (fun q34 => some ((q34.1, q34.2)))))))))))))))
theorem d_M_handle_0 : decode prog_11_method_26_code 0 = .ok (.aload_n 0, 1) := by decide +kernel
theorem d_M_handle_1 : decode prog_11_method_26_code 1 = .ok (.invokevirtual 177, 3) := by decide +kernel
theorem d_M_handle_4 : decode prog_11_method_26_code 4 = .ok (.ifCond .ne 14, 3) := by decide +kernel
theorem d_M_handle_7 : decode prog_11_method_26_code 7 = .ok (.aload_n 0, 1) := by decide +kernel
theorem d_M_handle_8 : decode prog_11_method_26_code 8 = .ok (.iconst 0, 1) := by decide +kernel
theorem d_M_handle_9 : decode prog_11_method_26_code 9 = .ok (.iconst 0, 1) := by decide +kernel
theorem d_M_handle_10 : decode prog_11_method_26_code 10 = .ok (.iconst 0, 1) := by decide +kernel
theorem d_M_handle_11 : decode prog_11_method_26_code 11 = .ok (.sipush (-32700), 3) := by decide +kernel
theorem d_M_handle_14 : decode prog_11_method_26_code 14 = .ok (.invokevirtual 180, 3) := by decide +kernel
theorem d_M_handle_17 : decode prog_11_method_26_code 17 = .ok (.return_, 1) := by decide +kernel
theorem d_M_handle_18 : decode prog_11_method_26_code 18 = .ok (.aload_n 0, 1) := by decide +kernel
theorem d_M_handle_19 : decode prog_11_method_26_code 19 = .ok (.getfield 13, 3) := by decide +kernel
theorem d_M_handle_22 : decode prog_11_method_26_code 22 = .ok (.iconst 0, 1) := by decide +kernel
theorem d_M_handle_23 : decode prog_11_method_26_code 23 = .ok (.iaload, 1) := by decide +kernel
theorem d_M_handle_24 : decode prog_11_method_26_code 24 = .ok (.iconst 4, 1) := by decide +kernel
theorem d_M_handle_25 : decode prog_11_method_26_code 25 = .ok (.if_icmp .ne 22, 3) := by decide +kernel
theorem d_M_handle_28 : decode prog_11_method_26_code 28 = .ok (.aload_n 0, 1) := by decide +kernel
theorem d_M_handle_29 : decode prog_11_method_26_code 29 = .ok (.bipush 109, 2) := by decide +kernel
theorem d_M_handle_31 : decode prog_11_method_26_code 31 = .ok (.bipush 101, 2) := by decide +kernel
theorem d_M_handle_33 : decode prog_11_method_26_code 33 = .ok (.bipush 116, 2) := by decide +kernel
theorem d_M_handle_35 : decode prog_11_method_26_code 35 = .ok (.bipush 104, 2) := by decide +kernel
theorem d_M_handle_37 : decode prog_11_method_26_code 37 = .ok (.bipush 111, 2) := by decide +kernel
theorem d_M_handle_39 : decode prog_11_method_26_code 39 = .ok (.bipush 100, 2) := by decide +kernel
theorem d_M_handle_41 : decode prog_11_method_26_code 41 = .ok (.invokevirtual 184, 3) := by decide +kernel
theorem d_M_handle_44 : decode prog_11_method_26_code 44 = .ok (.goto 4, 3) := by decide +kernel
theorem d_M_handle_47 : decode prog_11_method_26_code 47 = .ok (.iconst (-1), 1) := by decide +kernel
theorem d_M_handle_48 : decode prog_11_method_26_code 48 = .ok (.istore_n 1, 1) := by decide +kernel
theorem d_M_handle_49 : decode prog_11_method_26_code 49 = .ok (.aload_n 0, 1) := by decide +kernel
theorem d_M_handle_50 : decode prog_11_method_26_code 50 = .ok (.getfield 13, 3) := by decide +kernel
theorem d_M_handle_53 : decode prog_11_method_26_code 53 = .ok (.iconst 0, 1) := by decide +kernel
theorem d_M_handle_54 : decode prog_11_method_26_code 54 = .ok (.iaload, 1) := by decide +kernel
theorem d_M_handle_55 : decode prog_11_method_26_code 55 = .ok (.iconst 4, 1) := by decide +kernel
theorem d_M_handle_56 : decode prog_11_method_26_code 56 = .ok (.if_icmp .ne 18, 3) := by decide +kernel
theorem d_M_handle_59 : decode prog_11_method_26_code 59 = .ok (.aload_n 0, 1) := by decide +kernel
theorem d_M_handle_60 : decode prog_11_method_26_code 60 = .ok (.bipush 105, 2) := by decide +kernel
theorem d_M_handle_62 : decode prog_11_method_26_code 62 = .ok (.bipush 100, 2) := by decide +kernel
theorem d_M_handle_64 : decode prog_11_method_26_code 64 = .ok (.iconst 0, 1) := by decide +kernel
theorem d_M_handle_65 : decode prog_11_method_26_code 65 = .ok (.iconst 0, 1) := by decide +kernel
theorem d_M_handle_66 : decode prog_11_method_26_code 66 = .ok (.iconst 0, 1) := by decide +kernel
theorem d_M_handle_67 : decode prog_11_method_26_code 67 = .ok (.iconst 0, 1) := by decide +kernel
theorem d_M_handle_68 : decode prog_11_method_26_code 68 = .ok (.invokevirtual 184, 3) := by decide +kernel
theorem d_M_handle_71 : decode prog_11_method_26_code 71 = .ok (.goto 4, 3) := by decide +kernel
theorem d_M_handle_74 : decode prog_11_method_26_code 74 = .ok (.iconst (-1), 1) := by decide +kernel
theorem d_M_handle_75 : decode prog_11_method_26_code 75 = .ok (.istore_n 2, 1) := by decide +kernel
theorem d_M_handle_76 : decode prog_11_method_26_code 76 = .ok (.aload_n 0, 1) := by decide +kernel
theorem d_M_handle_77 : decode prog_11_method_26_code 77 = .ok (.iload_n 2, 1) := by decide +kernel
theorem d_M_handle_78 : decode prog_11_method_26_code 78 = .ok (.iconst 1, 1) := by decide +kernel
theorem d_M_handle_79 : decode prog_11_method_26_code 79 = .ok (.invokevirtual 188, 3) := by decide +kernel
theorem d_M_handle_82 : decode prog_11_method_26_code 82 = .ok (.istore_n 3, 1) := by decide +kernel
theorem d_M_handle_83 : decode prog_11_method_26_code 83 = .ok (.aload_n 0, 1) := by decide +kernel
theorem d_M_handle_84 : decode prog_11_method_26_code 84 = .ok (.iload_n 1, 1) := by decide +kernel
theorem d_M_handle_85 : decode prog_11_method_26_code 85 = .ok (.iconst 2, 1) := by decide +kernel
theorem d_M_handle_86 : decode prog_11_method_26_code 86 = .ok (.invokevirtual 188, 3) := by decide +kernel
theorem d_M_handle_89 : decode prog_11_method_26_code 89 = .ok (.ifCond .eq 11, 3) := by decide +kernel
theorem d_M_handle_92 : decode prog_11_method_26_code 92 = .ok (.iload_n 2, 1) := by decide +kernel
theorem d_M_handle_93 : decode prog_11_method_26_code 93 = .ok (.ifCond .lt 31, 3) := by decide +kernel
theorem d_M_handle_96 : decode prog_11_method_26_code 96 = .ok (.iload_n 3, 1) := by decide +kernel
theorem d_M_handle_97 : decode prog_11_method_26_code 97 = .ok (.ifCond .ne 27, 3) := by decide +kernel
theorem d_M_handle_100 : decode prog_11_method_26_code 100 = .ok (.aload_n 0, 1) := by decide +kernel
theorem d_M_handle_101 : decode prog_11_method_26_code 101 = .ok (.iload_n 3, 1) := by decide +kernel
theorem d_M_handle_102 : decode prog_11_method_26_code 102 = .ok (.iload_n 3, 1) := by decide +kernel
theorem d_M_handle_103 : decode prog_11_method_26_code 103 = .ok (.ifCond .eq 12, 3) := by decide +kernel
theorem d_M_handle_106 : decode prog_11_method_26_code 106 = .ok (.aload_n 0, 1) := by decide +kernel
theorem d_M_handle_107 : decode prog_11_method_26_code 107 = .ok (.getfield 16, 3) := by decide +kernel
theorem d_M_handle_110 : decode prog_11_method_26_code 110 = .ok (.iload_n 2, 1) := by decide +kernel
theorem d_M_handle_111 : decode prog_11_method_26_code 111 = .ok (.iaload, 1) := by decide +kernel
theorem d_M_handle_112 : decode prog_11_method_26_code 112 = .ok (.goto 4, 3) := by decide +kernel
theorem d_M_handle_115 : decode prog_11_method_26_code 115 = .ok (.iconst 0, 1) := by decide +kernel
theorem d_M_handle_116 : decode prog_11_method_26_code 116 = .ok (.iconst 0, 1) := by decide +kernel
theorem d_M_handle_117 : decode prog_11_method_26_code 117 = .ok (.sipush (-32600), 3) := by decide +kernel
theorem d_M_handle_120 : decode prog_11_method_26_code 120 = .ok (.invokevirtual 180, 3) := by decide +kernel
theorem d_M_handle_123 : decode prog_11_method_26_code 123 = .ok (.return_, 1) := by decide +kernel
theorem d_M_handle_124 : decode prog_11_method_26_code 124 = .ok (.aload_n 0, 1) := by decide +kernel
theorem d_M_handle_125 : decode prog_11_method_26_code 125 = .ok (.bipush 112, 2) := by decide +kernel
theorem d_M_handle_127 : decode prog_11_method_26_code 127 = .ok (.bipush 97, 2) := by decide +kernel
theorem d_M_handle_129 : decode prog_11_method_26_code 129 = .ok (.bipush 114, 2) := by decide +kernel
theorem d_M_handle_131 : decode prog_11_method_26_code 131 = .ok (.bipush 97, 2) := by decide +kernel
theorem d_M_handle_133 : decode prog_11_method_26_code 133 = .ok (.bipush 109, 2) := by decide +kernel
theorem d_M_handle_135 : decode prog_11_method_26_code 135 = .ok (.bipush 115, 2) := by decide +kernel
theorem d_M_handle_137 : decode prog_11_method_26_code 137 = .ok (.invokevirtual 184, 3) := by decide +kernel
theorem d_M_handle_140 : decode prog_11_method_26_code 140 = .ok (.istore 4, 2) := by decide +kernel
theorem d_M_handle_142 : decode prog_11_method_26_code 142 = .ok (.iload_n 3, 1) := by decide +kernel
theorem d_M_handle_143 : decode prog_11_method_26_code 143 = .ok (.ifCond .eq 19, 3) := by decide +kernel
theorem d_M_handle_146 : decode prog_11_method_26_code 146 = .ok (.aload_n 0, 1) := by decide +kernel
theorem d_M_handle_147 : decode prog_11_method_26_code 147 = .ok (.aload_n 0, 1) := by decide +kernel
theorem d_M_handle_148 : decode prog_11_method_26_code 148 = .ok (.getfield 16, 3) := by decide +kernel
theorem d_M_handle_151 : decode prog_11_method_26_code 151 = .ok (.iload_n 2, 1) := by decide +kernel
theorem d_M_handle_152 : decode prog_11_method_26_code 152 = .ok (.iaload, 1) := by decide +kernel
theorem d_M_handle_153 : decode prog_11_method_26_code 153 = .ok (.iload_n 1, 1) := by decide +kernel
theorem d_M_handle_154 : decode prog_11_method_26_code 154 = .ok (.iload 4, 2) := by decide +kernel
theorem d_M_handle_156 : decode prog_11_method_26_code 156 = .ok (.invokevirtual 192, 3) := by decide +kernel
theorem d_M_handle_159 : decode prog_11_method_26_code 159 = .ok (.goto 10, 3) := by decide +kernel
theorem d_M_handle_162 : decode prog_11_method_26_code 162 = .ok (.aload_n 0, 1) := by decide +kernel
theorem d_M_handle_163 : decode prog_11_method_26_code 163 = .ok (.iload_n 1, 1) := by decide +kernel
theorem d_M_handle_164 : decode prog_11_method_26_code 164 = .ok (.iload 4, 2) := by decide +kernel
theorem d_M_handle_166 : decode prog_11_method_26_code 166 = .ok (.invokevirtual 196, 3) := by decide +kernel
theorem d_M_handle_169 : decode prog_11_method_26_code 169 = .ok (.return_, 1) := by decide +kernel
set_option maxHeartbeats 4000000 in
set_option maxRecDepth 100000 in
theorem cM_handle (l : Launch) (dC : Nat → ClassId) (dI : Nat → Nat → Nat) (tk : Nat → ClassId) (A : Nat → Prop) (h : Nat) (L : Nat → Nat) (g : aG) (a : aA) (rw : va_W) (n : Nat) (g0 : aG) (a0 : aA) (hm : mM_handle n g a = some (g0, a0)) : CtV l dC dI tk A ⟨"EditorServerModel", "handle", "()V"⟩ prog_11_method_26_code 5 5 124 [.ref h] (oW 0 h ksM spM tk L g a rw) (oW 0 h ksM spM tk L g0 a0 rw) := by
  refine ent (by decide) (Nat.le_of_ble_eq_true rfl) ?_
  intro p e s m args below meth c hx hb hr hml hown hlk hG hg hst ls hl
  unfold mM_handle at hm
  have hl : lv_has ls 5 [(0, .ref h)] := hl
  refine lv_aload_n hx hb d_M_handle_0 rfl (lv_at hl 0 rfl) ?_
  obtain ⟨⟨x2, g3, a4⟩, hc5, hm⟩ := bd_u hm
  dsimp only at hm
  refine cl_vi hx hb hml hown hG hg (cM_read l dC dI tk A h L g a rw n _ _ _ hc5) (cw_v 0 hG k_1169 k_1171 s_28 k_14 k_1172 (by decide +kernel) ⟨by decide, by decide⟩) hst rfl oW_0 rfl hl.1 rfl (Nat.le_of_ble_eq_true rfl) ⟨Nat.le_refl 0, Nat.le_refl 0⟩ d_M_handle_1 (fun H locs hst => ?_)
  refine lv_if_ne (tgt := 18) hx hb d_M_handle_4 (by decide) (fun h6 => ?_) (fun h6 => ?_)
  · have hm := it_f hm h6
    refine lv_aload_n hx hb d_M_handle_18 rfl (lv_at hl 0 rfl) ?_
    refine ro_geta hx hb hown hG hg cM hst 9 1 (by decide) rfl rfl k_1023 d_M_handle_19 ?_
    refine lv_iconst (v := 0) hx hb d_M_handle_22 (by decide) ?_
    obtain ⟨hn7, hm⟩ := gd_u hm
    refine ro_iald hx hb hg hst 1 rfl hn7 d_M_handle_23 ?_
    refine lv_topi (fun x8 ex8 => ?_)
    have hm := lt_u hm x8 ex8
    refine lv_iconst (v := 4) hx hb d_M_handle_24 (by decide) ?_
    obtain ⟨qJ9, hm, hLJ9, hR10⟩ := jn_u hm
    have hJ9 : ∀ (x11 : Int32), qJ9 = .inl x11 → ∀ (H : Heap) (locs : List Loc) (ls : Array Slot), lv_has ls 5 [(0, .ref h)] → St dC dI A s.heap H locs (oW 0 h ksM spM tk L g3 a4 rw) → W p l e (rmo 5 124) s m args below meth c H locs 0 0 (MQ below (QV dC dI A (oW 0 h ksM spM tk L g0 a0 rw)) args s 0 0 A) (F0 m 48 ls [.int x11]) := by
      intro x11 hq H locs ls hl hst
      have hm := hLJ9 _ hq
      refine lv_istore_n (lv' := [(1, .int x11), (0, .ref h)]) hx hb d_M_handle_48 rfl hl (by decide) rfl (fun ls hl => ?_)
      refine lv_aload_n hx hb d_M_handle_49 rfl (lv_at hl 1 rfl) ?_
      refine ro_geta hx hb hown hG hg cM hst 9 1 (by decide) rfl rfl k_1023 d_M_handle_50 ?_
      refine lv_iconst (v := 0) hx hb d_M_handle_53 (by decide) ?_
      obtain ⟨hn13, hm⟩ := gd_u hm
      refine ro_iald hx hb hg hst 1 rfl hn13 d_M_handle_54 ?_
      refine lv_topi (fun x14 ex14 => ?_)
      have hm := lt_u hm x14 ex14
      refine lv_iconst (v := 4) hx hb d_M_handle_55 (by decide) ?_
      obtain ⟨qJ15, hm, hLJ15, hR16⟩ := jn_u hm
      have hJ15 : ∀ (x17 : Int32), qJ15 = .inl x17 → ∀ (H : Heap) (locs : List Loc) (ls : Array Slot), lv_has ls 5 [(0, .ref h), (1, .int x11)] → St dC dI A s.heap H locs (oW 0 h ksM spM tk L g3 a4 rw) → W p l e (rmo 5 124) s m args below meth c H locs 0 0 (MQ below (QV dC dI A (oW 0 h ksM spM tk L g0 a0 rw)) args s 0 0 A) (F0 m 75 ls [.int x17]) := by
        intro x17 hq H locs ls hl hst
        have hm := hLJ15 _ hq
        refine lv_istore_n (lv' := [(2, .int x17), (0, .ref h), (1, .int x11)]) hx hb d_M_handle_75 rfl hl (by decide) rfl (fun ls hl => ?_)
        refine lv_aload_n hx hb d_M_handle_76 rfl (lv_at hl 1 rfl) ?_
        refine lv_iload_n hx hb d_M_handle_77 rfl (lv_at hl 0 rfl) ?_
        refine lv_iconst (v := 1) hx hb d_M_handle_78 (by decide) ?_
        obtain ⟨x20, hc21, hm⟩ := bd_u hm
        refine cl_vi hx hb hml hown hG hg (cM_isSort l dC dI tk A h L g3 a4 rw n x17 1 _ hc21) (cw_v 2 hG k_1223 k_1225 s_40 k_14 k_1226 (by decide +kernel) ⟨by decide, by decide⟩) hst rfl oW_0 rfl hl.1 rfl (Nat.le_of_ble_eq_true rfl) ⟨Nat.le_refl 0, Nat.le_refl 0⟩ d_M_handle_79 (fun H locs hst => ?_)
        refine lv_istore_n (lv' := [(3, .int x20), (2, .int x17), (0, .ref h), (1, .int x11)]) hx hb d_M_handle_82 rfl hl (by decide) rfl (fun ls hl => ?_)
        refine lv_aload_n hx hb d_M_handle_83 rfl (lv_at hl 2 rfl) ?_
        refine lv_iload_n hx hb d_M_handle_84 rfl (lv_at hl 3 rfl) ?_
        refine lv_iconst (v := 2) hx hb d_M_handle_85 (by decide) ?_
        obtain ⟨x23, hc24, hm⟩ := bd_u hm
        refine cl_vi hx hb hml hown hG hg (cM_isSort l dC dI tk A h L g3 a4 rw n x11 2 _ hc24) (cw_v 2 hG k_1223 k_1225 s_40 k_14 k_1226 (by decide +kernel) ⟨by decide, by decide⟩) hst rfl oW_0 rfl hl.1 rfl (Nat.le_of_ble_eq_true rfl) ⟨Nat.le_refl 0, Nat.le_refl 0⟩ d_M_handle_86 (fun H locs hst => ?_)
        obtain ⟨qJ25, hm, hLJ25, hR26⟩ := jn_u hm
        have hJ25 : ∀ (g27 : aG) (a28 : aA), qJ25 = .inl (g27, a28) → ∀ (H : Heap) (locs : List Loc) (ls : Array Slot), lv_has ls 5 [(0, .ref h), (1, .int x11), (2, .int x17), (3, .int x20)] → St dC dI A s.heap H locs (oW 0 h ksM spM tk L g27 a28 rw) → W p l e (rmo 5 124) s m args below meth c H locs 0 0 (MQ below (QV dC dI A (oW 0 h ksM spM tk L g0 a0 rw)) args s 0 0 A) (F0 m 100 ls []) := by
          intro g27 a28 hq H locs ls hl hst
          have hm := hLJ25 _ hq
          dsimp only at hm
          refine lv_aload_n hx hb d_M_handle_100 rfl (lv_at hl 0 rfl) ?_
          refine lv_iload_n hx hb d_M_handle_101 rfl (lv_at hl 3 rfl) ?_
          refine lv_iload_n hx hb d_M_handle_102 rfl (lv_at hl 3 rfl) ?_
          obtain ⟨qJ30, hm, hLJ30, hR31⟩ := jn_u hm
          have hJ30 : ∀ (x32 : Int32), qJ30 = .inl x32 → ∀ (H : Heap) (locs : List Loc) (ls : Array Slot), lv_has ls 5 [(0, .ref h), (1, .int x11), (2, .int x17), (3, .int x20)] → St dC dI A s.heap H locs (oW 0 h ksM spM tk L g27 a28 rw) → W p l e (rmo 5 124) s m args below meth c H locs 0 0 (MQ below (QV dC dI A (oW 0 h ksM spM tk L g0 a0 rw)) args s 0 0 A) (F0 m 116 ls [.int x32, .int x20, .ref h]) := by
            intro x32 hq H locs ls hl hst
            have hm := hLJ30 _ hq
            refine lv_iconst (v := 0) hx hb d_M_handle_116 (by decide) ?_
            refine lv_sipush (v := (-32600)) hx hb d_M_handle_117 (by decide) ?_
            obtain ⟨⟨g35, a36⟩, hc37, hm⟩ := bd_u hm
            dsimp only at hm
            refine cl_vv hx hb hml hown hG hg (cM_respond l dC dI tk A h L g27 a28 rw n x20 x32 0 (-32600) _ _ hc37) (cw_v 4 hG k_1211 k_1213 s_37 k_14 k_1214 (by decide +kernel) ⟨by decide, by decide⟩) hst rfl oW_0 rfl hl.1 rfl (Nat.le_of_ble_eq_true rfl) ⟨Nat.le_refl 0, Nat.le_refl 0⟩ d_M_handle_120 (fun H locs hst => ?_)
            have he := (Option.some.inj hm)
            cases he
            exact rt_v hx hb hr hlk hst d_M_handle_123
          refine lv_if_eq (tgt := 115) hx hb d_M_handle_103 (by decide) (fun h38 => ?_) (fun h38 => ?_)
          · have hm := it_t hm h38
            refine lv_iconst (v := 0) hx hb d_M_handle_115 (by decide) ?_
            exact hJ30 0 (Option.some.inj hm).symm _ _ _ (lv_sub hl [0, 1, 2, 3] rfl) hst
          · have hm := it_f hm h38
            refine lv_aload_n hx hb d_M_handle_106 rfl (lv_at hl 0 rfl) ?_
            refine ro_geta hx hb hown hG hg cM hst 10 2 (by decide) rfl rfl k_1024 d_M_handle_107 ?_
            refine lv_iload_n hx hb d_M_handle_110 rfl (lv_at hl 2 rfl) ?_
            obtain ⟨hn39, hm⟩ := gd_u hm
            refine ro_iald hx hb hg hst 2 rfl hn39 d_M_handle_111 ?_
            refine lv_topi (fun x40 ex40 => ?_)
            have hm := lt_u hm x40 ex40
            refine lv_goto (tgt := 116) hx hb d_M_handle_112 (by decide) ?_
            exact hJ30 x40 (Option.some.inj hm).symm _ _ _ (lv_sub hl [0, 1, 2, 3] rfl) hst
        refine lv_if_eq (tgt := 100) hx hb d_M_handle_89 (by decide) (fun h41 => ?_) (fun h41 => ?_)
        · have hm := it_t hm h41
          exact hJ25 g3 a4 (Option.some.inj hm).symm _ _ _ (lv_sub hl [2, 3, 1, 0] rfl) hst
        · have hm := it_f hm h41
          refine lv_iload_n hx hb d_M_handle_92 rfl (lv_at hl 1 rfl) ?_
          obtain ⟨qJ42, hm, hLJ42, hR43⟩ := jn_u hm
          have hJ42 : qJ42 = .inl () → ∀ (H : Heap) (locs : List Loc) (ls : Array Slot), lv_has ls 5 [(0, .ref h), (1, .int x11), (2, .int x17), (3, .int x20)] → St dC dI A s.heap H locs (oW 0 h ksM spM tk L g3 a4 rw) → W p l e (rmo 5 124) s m args below meth c H locs 0 0 (MQ below (QV dC dI A (oW 0 h ksM spM tk L g0 a0 rw)) args s 0 0 A) (F0 m 124 ls []) := by
            intro hq H locs ls hl hst
            have hm := hLJ42 _ hq
            refine lv_aload_n hx hb d_M_handle_124 rfl (lv_at hl 0 rfl) ?_
            refine lv_bipush (v := 112) hx hb d_M_handle_125 (by decide) ?_
            refine lv_bipush (v := 97) hx hb d_M_handle_127 (by decide) ?_
            refine lv_bipush (v := 114) hx hb d_M_handle_129 (by decide) ?_
            refine lv_bipush (v := 97) hx hb d_M_handle_131 (by decide) ?_
            refine lv_bipush (v := 109) hx hb d_M_handle_133 (by decide) ?_
            refine lv_bipush (v := 115) hx hb d_M_handle_135 (by decide) ?_
            obtain ⟨x46, hc47, hm⟩ := bd_u hm
            refine cl_vi hx hb hml hown hG hg (cM_member l dC dI tk A h L g3 a4 rw n 112 97 114 97 109 115 _ hc47) (cw_v 6 hG k_1215 k_1217 s_38 k_14 k_1218 (by decide +kernel) ⟨by decide, by decide⟩) hst rfl oW_0 rfl hl.1 rfl (Nat.le_of_ble_eq_true rfl) ⟨Nat.le_refl 0, Nat.le_refl 0⟩ d_M_handle_137 (fun H locs hst => ?_)
            refine lv_istore (lv' := [(4, .int x46), (0, .ref h), (1, .int x11), (2, .int x17), (3, .int x20)]) hx hb d_M_handle_140 hl (by decide) rfl (fun ls hl => ?_)
            refine lv_iload_n hx hb d_M_handle_142 rfl (lv_at hl 4 rfl) ?_
            refine lv_if_eq (tgt := 162) hx hb d_M_handle_143 (by decide) (fun h48 => ?_) (fun h48 => ?_)
            · have hm := it_t hm h48
              refine lv_aload_n hx hb d_M_handle_162 rfl (lv_at hl 1 rfl) ?_
              refine lv_iload_n hx hb d_M_handle_163 rfl (lv_at hl 2 rfl) ?_
              refine lv_iload hx hb d_M_handle_164 (lv_at hl 0 rfl) ?_
              obtain ⟨⟨g50, a51⟩, hc52, hm⟩ := bd_u hm
              dsimp only at hm
              refine cl_vv hx hb hml hown hG hg (cM_notice l dC dI tk A h L g3 a4 rw n x11 x46 _ _ hc52) (cw_v 2 hG k_1260 k_1262 s_49 k_14 k_1263 (by decide +kernel) ⟨by decide, by decide⟩) hst rfl oW_0 rfl hl.1 rfl (Nat.le_of_ble_eq_true rfl) ⟨Nat.le_refl 0, Nat.le_refl 0⟩ d_M_handle_166 (fun H locs hst => ?_)
              have he := (hR26 _ (Option.some.inj hm).symm)
              cases he
              exact rt_v hx hb hr hlk hst d_M_handle_169
            · have hm := it_f hm h48
              refine lv_aload_n hx hb d_M_handle_146 rfl (lv_at hl 1 rfl) ?_
              refine lv_aload_n hx hb d_M_handle_147 rfl (lv_at hl 1 rfl) ?_
              refine ro_geta hx hb hown hG hg cM hst 10 2 (by decide) rfl rfl k_1024 d_M_handle_148 ?_
              refine lv_iload_n hx hb d_M_handle_151 rfl (lv_at hl 3 rfl) ?_
              obtain ⟨hn53, hm⟩ := gd_u hm
              refine ro_iald hx hb hg hst 2 rfl hn53 d_M_handle_152 ?_
              refine lv_topi (fun x54 ex54 => ?_)
              have hm := lt_u hm x54 ex54
              refine lv_iload_n hx hb d_M_handle_153 rfl (lv_at hl 2 rfl) ?_
              refine lv_iload hx hb d_M_handle_154 (lv_at hl 0 rfl) ?_
              obtain ⟨⟨g56, a57⟩, hc58, hm⟩ := bd_u hm
              dsimp only at hm
              refine cl_vv hx hb hml hown hG hg (cM_ask l dC dI tk A h L g3 a4 rw n x54 x11 x46 _ _ hc58) (cw_v 3 hG k_1227 k_1229 s_41 k_14 k_1230 (by decide +kernel) ⟨by decide, by decide⟩) hst rfl oW_0 rfl hl.1 rfl (Nat.le_of_ble_eq_true rfl) ⟨Nat.le_refl 0, Nat.le_refl 0⟩ d_M_handle_156 (fun H locs hst => ?_)
              refine lv_goto (tgt := 169) hx hb d_M_handle_159 (by decide) ?_
              have he := (hR26 _ (Option.some.inj hm).symm)
              cases he
              exact rt_v hx hb hr hlk hst d_M_handle_169
          refine lv_if_lt (tgt := 124) hx hb d_M_handle_93 (by decide) (fun h59 => ?_) (fun h59 => ?_)
          · have hm := it_t hm h59
            exact hJ42  (Option.some.inj hm).symm _ _ _ (lv_sub hl [2, 3, 1, 0] rfl) hst
          · have hm := it_f hm h59
            refine lv_iload_n hx hb d_M_handle_96 rfl (lv_at hl 0 rfl) ?_
            refine lv_if_ne (tgt := 124) hx hb d_M_handle_97 (by decide) (fun h60 => ?_) (fun h60 => ?_)
            · have hm := it_f hm h60
              exact hJ42  (Option.some.inj hm).symm _ _ _ (lv_sub hl [2, 3, 1, 0] rfl) hst
            · have hm := it_t hm h60
              exact hJ25 g3 a4 (hR43 _ (Option.some.inj hm).symm).symm _ _ _ (lv_sub hl [2, 3, 1, 0] rfl) hst
      refine lv_icmp_ne (tgt := 74) hx hb d_M_handle_56 (by decide) (fun h61 => ?_) (fun h61 => ?_)
      · have hm := it_f hm h61
        refine lv_iconst (v := (-1)) hx hb d_M_handle_74 (by decide) ?_
        exact hJ15 (-1) (Option.some.inj hm).symm _ _ _ (lv_sub hl [1, 0] rfl) hst
      · have hm := it_t hm h61
        refine lv_aload_n hx hb d_M_handle_59 rfl (lv_at hl 1 rfl) ?_
        refine lv_bipush (v := 105) hx hb d_M_handle_60 (by decide) ?_
        refine lv_bipush (v := 100) hx hb d_M_handle_62 (by decide) ?_
        refine lv_iconst (v := 0) hx hb d_M_handle_64 (by decide) ?_
        refine lv_iconst (v := 0) hx hb d_M_handle_65 (by decide) ?_
        refine lv_iconst (v := 0) hx hb d_M_handle_66 (by decide) ?_
        refine lv_iconst (v := 0) hx hb d_M_handle_67 (by decide) ?_
        obtain ⟨x63, hc64, hm⟩ := bd_u hm
        refine cl_vi hx hb hml hown hG hg (cM_member l dC dI tk A h L g3 a4 rw n 105 100 0 0 0 0 _ hc64) (cw_v 6 hG k_1215 k_1217 s_38 k_14 k_1218 (by decide +kernel) ⟨by decide, by decide⟩) hst rfl oW_0 rfl hl.1 rfl (Nat.le_of_ble_eq_true rfl) ⟨Nat.le_refl 0, Nat.le_refl 0⟩ d_M_handle_68 (fun H locs hst => ?_)
        refine lv_goto (tgt := 75) hx hb d_M_handle_71 (by decide) ?_
        exact hJ15 x63 (Option.some.inj hm).symm _ _ _ (lv_sub hl [1, 0] rfl) hst
    refine lv_icmp_ne (tgt := 47) hx hb d_M_handle_25 (by decide) (fun h65 => ?_) (fun h65 => ?_)
    · have hm := it_f hm h65
      refine lv_iconst (v := (-1)) hx hb d_M_handle_47 (by decide) ?_
      exact hJ9 (-1) (Option.some.inj hm).symm _ _ _ (lv_sub hl [0] rfl) hst
    · have hm := it_t hm h65
      refine lv_aload_n hx hb d_M_handle_28 rfl (lv_at hl 0 rfl) ?_
      refine lv_bipush (v := 109) hx hb d_M_handle_29 (by decide) ?_
      refine lv_bipush (v := 101) hx hb d_M_handle_31 (by decide) ?_
      refine lv_bipush (v := 116) hx hb d_M_handle_33 (by decide) ?_
      refine lv_bipush (v := 104) hx hb d_M_handle_35 (by decide) ?_
      refine lv_bipush (v := 111) hx hb d_M_handle_37 (by decide) ?_
      refine lv_bipush (v := 100) hx hb d_M_handle_39 (by decide) ?_
      obtain ⟨x67, hc68, hm⟩ := bd_u hm
      refine cl_vi hx hb hml hown hG hg (cM_member l dC dI tk A h L g3 a4 rw n 109 101 116 104 111 100 _ hc68) (cw_v 6 hG k_1215 k_1217 s_38 k_14 k_1218 (by decide +kernel) ⟨by decide, by decide⟩) hst rfl oW_0 rfl hl.1 rfl (Nat.le_of_ble_eq_true rfl) ⟨Nat.le_refl 0, Nat.le_refl 0⟩ d_M_handle_41 (fun H locs hst => ?_)
      refine lv_goto (tgt := 48) hx hb d_M_handle_44 (by decide) ?_
      exact hJ9 x67 (Option.some.inj hm).symm _ _ _ (lv_sub hl [0] rfl) hst
  · have hm := it_t hm h6
    refine lv_aload_n hx hb d_M_handle_7 rfl (lv_at hl 0 rfl) ?_
    refine lv_iconst (v := 0) hx hb d_M_handle_8 (by decide) ?_
    refine lv_iconst (v := 0) hx hb d_M_handle_9 (by decide) ?_
    refine lv_iconst (v := 0) hx hb d_M_handle_10 (by decide) ?_
    refine lv_sipush (v := (-32700)) hx hb d_M_handle_11 (by decide) ?_
    obtain ⟨⟨g70, a71⟩, hc72, hm⟩ := bd_u hm
    dsimp only at hm
    refine cl_vv hx hb hml hown hG hg (cM_respond l dC dI tk A h L g3 a4 rw n 0 0 0 (-32700) _ _ hc72) (cw_v 4 hG k_1211 k_1213 s_37 k_14 k_1214 (by decide +kernel) ⟨by decide, by decide⟩) hst rfl oW_0 rfl hl.1 rfl (Nat.le_of_ble_eq_true rfl) ⟨Nat.le_refl 0, Nat.le_refl 0⟩ d_M_handle_14 (fun H locs hst => ?_)
    have he := (Option.some.inj hm)
    cases he
    exact rt_v hx hb hr hlk hst d_M_handle_17
