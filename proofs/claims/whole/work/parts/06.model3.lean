def mM_close (n : Nat) (v1 : Int32) (g : aG) (a : aA) : Option (Int32 × aG × aA) := bd (mM_items n v1 g a) (fun x2 => jn (α := Int32) (if x2 = 1 then (bd (mM_item n v1 0 g a) (fun x61 => bd (mM_documentOf n x61 g a) (fun x64 => some (.inl x64)))) else (some (.inl (-1)))) (fun x6 => if 0 ≤ x6 then (jn (α := aA) (lp (ε := Int32 × aA) (fun q16 => if (g 22) ≤ (q16.1 + 1) then (some (.inr (.inl q16.2))) else (gd (inb (q16.1 + 1) 3) (lt (q16.2 10 (q16.1 + 1).toNatClampNeg) (fun x22 => gd (inb q16.1 3) (lt (va_up q16.2 10 (upd (q16.2 10) q16.1.toNatClampNeg x22)) (fun a24 => jn (α := aA) (lp (ε := Int32 × aA) (fun q50 => if 4 ≤ q50.1 then (some (.inr (.inl q50.2))) else (gd (inb (((4 * q16.1) + 4) + q50.1) 12) (lt (q50.2 11 (((4 * q16.1) + 4) + q50.1).toNatClampNeg) (fun x56 => gd (inb ((4 * q16.1) + q50.1) 12) (lt (va_up q50.2 11 (upd (q50.2 11) ((4 * q16.1) + q50.1).toNatClampNeg x56)) (fun a58 => some (.inl ((q50.1 + 1), a58)))))))) n (0, a24)) (fun a27 => gd (inb (q16.1 + 1) 3) (lt (a27 12 (q16.1 + 1).toNatClampNeg) (fun x30 => gd (inb q16.1 3) (lt (va_up a27 12 (upd (a27 12) q16.1.toNatClampNeg x30)) (fun a32 => gd (inb (q16.1 + 1) 3) (lt (a32 13 (q16.1 + 1).toNatClampNeg) (fun x34 => gd (inb q16.1 3) (lt (va_up a32 13 (upd (a32 13) q16.1.toNatClampNeg x34)) (fun a36 => lp (ε := Int32 × aA) (fun q39 => if 60 ≤ q39.1 then (some (.inr (.inl ((q16.1 + 1), q39.2)))) else (gd (inb (((60 * q16.1) + 60) + q39.1) 180) (lt (q39.2 14 (((60 * q16.1) + 60) + q39.1).toNatClampNeg) (fun x45 => gd (inb ((60 * q16.1) + q39.1) 180) (lt (va_up q39.2 14 (upd (q39.2 14) ((60 * q16.1) + q39.1).toNatClampNeg x45)) (fun a47 => some (.inl ((q39.1 + 1), a47)))))))) n (0, a36)))))))))))))))) n (x6, a)) (fun a11 => lt (va_up g 22 ((g 22) - 1)) (fun g13 => some ((1, g13, a11))))) else (some ((0, g, a)))))
theorem d_M_close_0 : decode prog_11_method_32_code 0 = .ok (.aload_n 0, 1) := by decide +kernel
theorem d_M_close_1 : decode prog_11_method_32_code 1 = .ok (.iload_n 1, 1) := by decide +kernel
theorem d_M_close_2 : decode prog_11_method_32_code 2 = .ok (.invokevirtual 225, 3) := by decide +kernel
theorem d_M_close_5 : decode prog_11_method_32_code 5 = .ok (.iconst 1, 1) := by decide +kernel
theorem d_M_close_6 : decode prog_11_method_32_code 6 = .ok (.if_icmp .ne 16, 3) := by decide +kernel
theorem d_M_close_9 : decode prog_11_method_32_code 9 = .ok (.aload_n 0, 1) := by decide +kernel
theorem d_M_close_10 : decode prog_11_method_32_code 10 = .ok (.aload_n 0, 1) := by decide +kernel
theorem d_M_close_11 : decode prog_11_method_32_code 11 = .ok (.iload_n 1, 1) := by decide +kernel
theorem d_M_close_12 : decode prog_11_method_32_code 12 = .ok (.iconst 0, 1) := by decide +kernel
theorem d_M_close_13 : decode prog_11_method_32_code 13 = .ok (.invokevirtual 217, 3) := by decide +kernel
theorem d_M_close_16 : decode prog_11_method_32_code 16 = .ok (.invokevirtual 221, 3) := by decide +kernel
theorem d_M_close_19 : decode prog_11_method_32_code 19 = .ok (.goto 4, 3) := by decide +kernel
theorem d_M_close_22 : decode prog_11_method_32_code 22 = .ok (.iconst (-1), 1) := by decide +kernel
theorem d_M_close_23 : decode prog_11_method_32_code 23 = .ok (.istore_n 2, 1) := by decide +kernel
theorem d_M_close_24 : decode prog_11_method_32_code 24 = .ok (.iload_n 2, 1) := by decide +kernel
theorem d_M_close_25 : decode prog_11_method_32_code 25 = .ok (.ifCond .ge 5, 3) := by decide +kernel
theorem d_M_close_28 : decode prog_11_method_32_code 28 = .ok (.iconst 0, 1) := by decide +kernel
theorem d_M_close_29 : decode prog_11_method_32_code 29 = .ok (.ireturn, 1) := by decide +kernel
theorem d_M_close_30 : decode prog_11_method_32_code 30 = .ok (.iload_n 2, 1) := by decide +kernel
theorem d_M_close_31 : decode prog_11_method_32_code 31 = .ok (.istore_n 3, 1) := by decide +kernel
theorem d_M_close_32 : decode prog_11_method_32_code 32 = .ok (.iload_n 3, 1) := by decide +kernel
theorem d_M_close_33 : decode prog_11_method_32_code 33 = .ok (.iconst 1, 1) := by decide +kernel
theorem d_M_close_34 : decode prog_11_method_32_code 34 = .ok (.iadd, 1) := by decide +kernel
theorem d_M_close_35 : decode prog_11_method_32_code 35 = .ok (.aload_n 0, 1) := by decide +kernel
theorem d_M_close_36 : decode prog_11_method_32_code 36 = .ok (.getfield 228, 3) := by decide +kernel
theorem d_M_close_39 : decode prog_11_method_32_code 39 = .ok (.if_icmp .ge 133, 3) := by decide +kernel
theorem d_M_close_42 : decode prog_11_method_32_code 42 = .ok (.aload_n 0, 1) := by decide +kernel
theorem d_M_close_43 : decode prog_11_method_32_code 43 = .ok (.getfield 40, 3) := by decide +kernel
theorem d_M_close_46 : decode prog_11_method_32_code 46 = .ok (.iload_n 3, 1) := by decide +kernel
theorem d_M_close_47 : decode prog_11_method_32_code 47 = .ok (.aload_n 0, 1) := by decide +kernel
theorem d_M_close_48 : decode prog_11_method_32_code 48 = .ok (.getfield 40, 3) := by decide +kernel
theorem d_M_close_51 : decode prog_11_method_32_code 51 = .ok (.iload_n 3, 1) := by decide +kernel
theorem d_M_close_52 : decode prog_11_method_32_code 52 = .ok (.iconst 1, 1) := by decide +kernel
theorem d_M_close_53 : decode prog_11_method_32_code 53 = .ok (.iadd, 1) := by decide +kernel
theorem d_M_close_54 : decode prog_11_method_32_code 54 = .ok (.iaload, 1) := by decide +kernel
theorem d_M_close_55 : decode prog_11_method_32_code 55 = .ok (.iastore, 1) := by decide +kernel
theorem d_M_close_56 : decode prog_11_method_32_code 56 = .ok (.iconst 0, 1) := by decide +kernel
theorem d_M_close_57 : decode prog_11_method_32_code 57 = .ok (.istore 4, 2) := by decide +kernel
theorem d_M_close_59 : decode prog_11_method_32_code 59 = .ok (.iload 4, 2) := by decide +kernel
theorem d_M_close_61 : decode prog_11_method_32_code 61 = .ok (.iconst 4, 1) := by decide +kernel
theorem d_M_close_62 : decode prog_11_method_32_code 62 = .ok (.if_icmp .ge 33, 3) := by decide +kernel
theorem d_M_close_65 : decode prog_11_method_32_code 65 = .ok (.aload_n 0, 1) := by decide +kernel
theorem d_M_close_66 : decode prog_11_method_32_code 66 = .ok (.getfield 43, 3) := by decide +kernel
theorem d_M_close_69 : decode prog_11_method_32_code 69 = .ok (.iconst 4, 1) := by decide +kernel
theorem d_M_close_70 : decode prog_11_method_32_code 70 = .ok (.iload_n 3, 1) := by decide +kernel
theorem d_M_close_71 : decode prog_11_method_32_code 71 = .ok (.imul, 1) := by decide +kernel
theorem d_M_close_72 : decode prog_11_method_32_code 72 = .ok (.iload 4, 2) := by decide +kernel
theorem d_M_close_74 : decode prog_11_method_32_code 74 = .ok (.iadd, 1) := by decide +kernel
theorem d_M_close_75 : decode prog_11_method_32_code 75 = .ok (.aload_n 0, 1) := by decide +kernel
theorem d_M_close_76 : decode prog_11_method_32_code 76 = .ok (.getfield 43, 3) := by decide +kernel
theorem d_M_close_79 : decode prog_11_method_32_code 79 = .ok (.iconst 4, 1) := by decide +kernel
theorem d_M_close_80 : decode prog_11_method_32_code 80 = .ok (.iload_n 3, 1) := by decide +kernel
theorem d_M_close_81 : decode prog_11_method_32_code 81 = .ok (.imul, 1) := by decide +kernel
theorem d_M_close_82 : decode prog_11_method_32_code 82 = .ok (.iconst 4, 1) := by decide +kernel
theorem d_M_close_83 : decode prog_11_method_32_code 83 = .ok (.iadd, 1) := by decide +kernel
theorem d_M_close_84 : decode prog_11_method_32_code 84 = .ok (.iload 4, 2) := by decide +kernel
theorem d_M_close_86 : decode prog_11_method_32_code 86 = .ok (.iadd, 1) := by decide +kernel
theorem d_M_close_87 : decode prog_11_method_32_code 87 = .ok (.iaload, 1) := by decide +kernel
theorem d_M_close_88 : decode prog_11_method_32_code 88 = .ok (.iastore, 1) := by decide +kernel
theorem d_M_close_89 : decode prog_11_method_32_code 89 = .ok (.iinc 4 1, 3) := by decide +kernel
theorem d_M_close_92 : decode prog_11_method_32_code 92 = .ok (.goto (-33), 3) := by decide +kernel
theorem d_M_close_95 : decode prog_11_method_32_code 95 = .ok (.aload_n 0, 1) := by decide +kernel
theorem d_M_close_96 : decode prog_11_method_32_code 96 = .ok (.getfield 46, 3) := by decide +kernel
theorem d_M_close_99 : decode prog_11_method_32_code 99 = .ok (.iload_n 3, 1) := by decide +kernel
theorem d_M_close_100 : decode prog_11_method_32_code 100 = .ok (.aload_n 0, 1) := by decide +kernel
theorem d_M_close_101 : decode prog_11_method_32_code 101 = .ok (.getfield 46, 3) := by decide +kernel
theorem d_M_close_104 : decode prog_11_method_32_code 104 = .ok (.iload_n 3, 1) := by decide +kernel
theorem d_M_close_105 : decode prog_11_method_32_code 105 = .ok (.iconst 1, 1) := by decide +kernel
theorem d_M_close_106 : decode prog_11_method_32_code 106 = .ok (.iadd, 1) := by decide +kernel
theorem d_M_close_107 : decode prog_11_method_32_code 107 = .ok (.iaload, 1) := by decide +kernel
theorem d_M_close_108 : decode prog_11_method_32_code 108 = .ok (.iastore, 1) := by decide +kernel
theorem d_M_close_109 : decode prog_11_method_32_code 109 = .ok (.aload_n 0, 1) := by decide +kernel
theorem d_M_close_110 : decode prog_11_method_32_code 110 = .ok (.getfield 49, 3) := by decide +kernel
theorem d_M_close_113 : decode prog_11_method_32_code 113 = .ok (.iload_n 3, 1) := by decide +kernel
theorem d_M_close_114 : decode prog_11_method_32_code 114 = .ok (.aload_n 0, 1) := by decide +kernel
theorem d_M_close_115 : decode prog_11_method_32_code 115 = .ok (.getfield 49, 3) := by decide +kernel
theorem d_M_close_118 : decode prog_11_method_32_code 118 = .ok (.iload_n 3, 1) := by decide +kernel
theorem d_M_close_119 : decode prog_11_method_32_code 119 = .ok (.iconst 1, 1) := by decide +kernel
theorem d_M_close_120 : decode prog_11_method_32_code 120 = .ok (.iadd, 1) := by decide +kernel
theorem d_M_close_121 : decode prog_11_method_32_code 121 = .ok (.iaload, 1) := by decide +kernel
theorem d_M_close_122 : decode prog_11_method_32_code 122 = .ok (.iastore, 1) := by decide +kernel
theorem d_M_close_123 : decode prog_11_method_32_code 123 = .ok (.iconst 0, 1) := by decide +kernel
theorem d_M_close_124 : decode prog_11_method_32_code 124 = .ok (.istore 4, 2) := by decide +kernel
theorem d_M_close_126 : decode prog_11_method_32_code 126 = .ok (.iload 4, 2) := by decide +kernel
theorem d_M_close_128 : decode prog_11_method_32_code 128 = .ok (.bipush 60, 2) := by decide +kernel
theorem d_M_close_130 : decode prog_11_method_32_code 130 = .ok (.if_icmp .ge 36, 3) := by decide +kernel
theorem d_M_close_133 : decode prog_11_method_32_code 133 = .ok (.aload_n 0, 1) := by decide +kernel
theorem d_M_close_134 : decode prog_11_method_32_code 134 = .ok (.getfield 52, 3) := by decide +kernel
theorem d_M_close_137 : decode prog_11_method_32_code 137 = .ok (.bipush 60, 2) := by decide +kernel
theorem d_M_close_139 : decode prog_11_method_32_code 139 = .ok (.iload_n 3, 1) := by decide +kernel
theorem d_M_close_140 : decode prog_11_method_32_code 140 = .ok (.imul, 1) := by decide +kernel
theorem d_M_close_141 : decode prog_11_method_32_code 141 = .ok (.iload 4, 2) := by decide +kernel
theorem d_M_close_143 : decode prog_11_method_32_code 143 = .ok (.iadd, 1) := by decide +kernel
theorem d_M_close_144 : decode prog_11_method_32_code 144 = .ok (.aload_n 0, 1) := by decide +kernel
theorem d_M_close_145 : decode prog_11_method_32_code 145 = .ok (.getfield 52, 3) := by decide +kernel
theorem d_M_close_148 : decode prog_11_method_32_code 148 = .ok (.bipush 60, 2) := by decide +kernel
theorem d_M_close_150 : decode prog_11_method_32_code 150 = .ok (.iload_n 3, 1) := by decide +kernel
theorem d_M_close_151 : decode prog_11_method_32_code 151 = .ok (.imul, 1) := by decide +kernel
theorem d_M_close_152 : decode prog_11_method_32_code 152 = .ok (.bipush 60, 2) := by decide +kernel
theorem d_M_close_154 : decode prog_11_method_32_code 154 = .ok (.iadd, 1) := by decide +kernel
theorem d_M_close_155 : decode prog_11_method_32_code 155 = .ok (.iload 4, 2) := by decide +kernel
theorem d_M_close_157 : decode prog_11_method_32_code 157 = .ok (.iadd, 1) := by decide +kernel
theorem d_M_close_158 : decode prog_11_method_32_code 158 = .ok (.iaload, 1) := by decide +kernel
theorem d_M_close_159 : decode prog_11_method_32_code 159 = .ok (.iastore, 1) := by decide +kernel
theorem d_M_close_160 : decode prog_11_method_32_code 160 = .ok (.iinc 4 1, 3) := by decide +kernel
theorem d_M_close_163 : decode prog_11_method_32_code 163 = .ok (.goto (-37), 3) := by decide +kernel
theorem d_M_close_166 : decode prog_11_method_32_code 166 = .ok (.iinc 3 1, 3) := by decide +kernel
theorem d_M_close_169 : decode prog_11_method_32_code 169 = .ok (.goto (-137), 3) := by decide +kernel
theorem d_M_close_172 : decode prog_11_method_32_code 172 = .ok (.aload_n 0, 1) := by decide +kernel
theorem d_M_close_173 : decode prog_11_method_32_code 173 = .ok (.dup, 1) := by decide +kernel
theorem d_M_close_174 : decode prog_11_method_32_code 174 = .ok (.getfield 228, 3) := by decide +kernel
theorem d_M_close_177 : decode prog_11_method_32_code 177 = .ok (.iconst 1, 1) := by decide +kernel
theorem d_M_close_178 : decode prog_11_method_32_code 178 = .ok (.isub, 1) := by decide +kernel
theorem d_M_close_179 : decode prog_11_method_32_code 179 = .ok (.putfield 228, 3) := by decide +kernel
theorem d_M_close_182 : decode prog_11_method_32_code 182 = .ok (.iconst 1, 1) := by decide +kernel
theorem d_M_close_183 : decode prog_11_method_32_code 183 = .ok (.ireturn, 1) := by decide +kernel
set_option maxHeartbeats 4000000 in
set_option maxRecDepth 100000 in
theorem cM_close (l : Launch) (dC : Nat → ClassId) (dI : Nat → Nat → Nat) (tk : Nat → ClassId) (A : Nat → Prop) (h : Nat) (L : Nat → Nat) (g : aG) (a : aA) (rw : va_W) (n : Nat) (v1 : Int32) (r0 : Int32) (g0 : aG) (a0 : aA) (hm : mM_close n v1 g a = some (r0, g0, a0)) : CtI l dC dI tk A ⟨"EditorServerModel", "close", "(I)Z"⟩ prog_11_method_32_code 5 (some .boolean) 2 46 [.ref h, .int v1] (oW 0 h ksM spM tk L g a rw) r0 (oW 0 h ksM spM tk L g0 a0 rw) := by
  refine ent (by decide) (Nat.le_of_ble_eq_true rfl) ?_
  intro p e s m args below meth c hx hb hr hml hown hlk hG hg hst ls hl
  unfold mM_close at hm
  have hl : lv_has ls 5 [(0, .ref h), (1, .int v1)] := hl
  refine lv_aload_n hx hb d_M_close_0 rfl (lv_at hl 0 rfl) ?_
  refine lv_iload_n hx hb d_M_close_1 rfl (lv_at hl 1 rfl) ?_
  obtain ⟨x2, hc3, hm⟩ := bd_u hm
  refine cl_vi hx hb hml hown hG hg (cM_items l dC dI tk A h L g a rw n v1 _ hc3) (cw_v 1 hG k_1247 k_1249 s_46 k_14 k_1250 (by decide +kernel) ⟨by decide, by decide⟩) hst rfl oW_0 rfl hl.1 rfl (Nat.le_of_ble_eq_true rfl) ⟨Nat.le_refl 0, Nat.le_refl 0⟩ d_M_close_2 (fun H locs hst => ?_)
  refine lv_iconst (v := 1) hx hb d_M_close_5 (by decide) ?_
  obtain ⟨qJ4, hm, hLJ4, hR5⟩ := jn_u hm
  have hJ4 : ∀ (x6 : Int32), qJ4 = .inl x6 → ∀ (H : Heap) (locs : List Loc) (ls : Array Slot), lv_has ls 5 [(0, .ref h), (1, .int v1)] → St dC dI A s.heap H locs (oW 0 h ksM spM tk L g a rw) → W p l e (rmo 2 46) s m args below meth c H locs 0 0 (MQ below (QI dC dI A r0 (oW 0 h ksM spM tk L g0 a0 rw)) args s 0 0 A) (F0 m 23 ls [.int x6]) := by
    intro x6 hq H locs ls hl hst
    have hm := hLJ4 _ hq
    refine lv_istore_n (lv' := [(2, .int x6), (0, .ref h), (1, .int v1)]) hx hb d_M_close_23 rfl hl (by decide) rfl (fun ls hl => ?_)
    refine lv_iload_n hx hb d_M_close_24 rfl (lv_at hl 0 rfl) ?_
    refine lv_if_ge (tgt := 30) hx hb d_M_close_25 (by decide) (fun h8 => ?_) (fun h8 => ?_)
    · have hm := it_t hm h8
      refine lv_iload_n hx hb d_M_close_30 rfl (lv_at hl 0 rfl) ?_
      refine lv_istore_n (lv' := [(3, .int x6), (2, .int x6), (0, .ref h), (1, .int v1)]) hx hb d_M_close_31 rfl hl (by decide) rfl (fun ls hl => ?_)
      obtain ⟨qJ9, hm, hLJ9, hR10⟩ := jn_u hm
      have hJ9 : ∀ (a11 : aA), qJ9 = .inl a11 → ∀ (H : Heap) (locs : List Loc) (ls : Array Slot), lv_has ls 5 [(0, .ref h), (1, .int v1), (2, .int x6)] → St dC dI A s.heap H locs (oW 0 h ksM spM tk L g a11 rw) → W p l e (rmo 2 46) s m args below meth c H locs 0 0 (MQ below (QI dC dI A r0 (oW 0 h ksM spM tk L g0 a0 rw)) args s 0 0 A) (F0 m 172 ls []) := by
        intro a11 hq H locs ls hl hst
        have hm := hLJ9 _ hq
        refine lv_aload_n hx hb d_M_close_172 rfl (lv_at hl 0 rfl) ?_
        refine lv_dup hx hb d_M_close_173 rfl ?_
        refine ro_geti hx hb hown hG hg cM hst 22 (by decide) rfl rfl k_1036 d_M_close_174 ?_
        refine lv_iconst (v := 1) hx hb d_M_close_177 (by decide) ?_
        refine lv_isub hx hb d_M_close_178 ?_
        refine ro_puti hx hb hown hG hg cM hst 22 (by decide) rfl rfl rfl rfl rfl k_1036 d_M_close_179 (fun g13 H locs eg13 hst => ?_)
        have hm := lt_u hm g13 eg13
        refine lv_iconst (v := 1) hx hb d_M_close_182 (by decide) ?_
        have he := (Option.some.inj hm)
        cases he
        exact rt_i hx hb hr hlk (by decide) hst rfl d_M_close_183
      refine lp_u (fun q16 : Int32 × aA => ∀ (H : Heap) (locs : List Loc) (ls : Array Slot), lv_has ls 5 [(0, .ref h), (1, .int v1), (2, .int x6), (3, .int q16.1)] → St dC dI A s.heap H locs (oW 0 h ksM spM tk L g q16.2 rw) → W p l e (rmo 2 46) s m args below meth c H locs 0 0 (MQ below (QI dC dI A r0 (oW 0 h ksM spM tk L g0 a0 rw)) args s 0 0 A) (F0 m 32 ls [])) ?_ n (x6, a) hm _ _ _ (lv_sub hl [2, 3, 1, 0] rfl) hst
      rintro ⟨x14, a15⟩ r19 hm hJ170 hR18 H locs ls hl hst
      dsimp only at hm hl hst ⊢
      have hJ17 := fun y0 y1 (e : r19 = .inl (y0, y1)) => hJ170 (y0, y1) e
      dsimp only at hJ17
      refine lv_iload_n hx hb d_M_close_32 rfl (lv_at hl 3 rfl) ?_
      refine lv_iconst (v := 1) hx hb d_M_close_33 (by decide) ?_
      refine lv_iadd hx hb d_M_close_34 ?_
      refine lv_aload_n hx hb d_M_close_35 rfl (lv_at hl 0 rfl) ?_
      refine ro_geti hx hb hown hG hg cM hst 22 (by decide) rfl rfl k_1036 d_M_close_36 ?_
      refine lv_icmp_ge (tgt := 172) hx hb d_M_close_39 (by decide) (fun h20 => ?_) (fun h20 => ?_)
      · have hm := it_t hm h20
        exact hJ9 a15 (hR18 _ (Option.some.inj hm).symm).symm _ _ _ (lv_sub hl [0, 1, 2] rfl) hst
      · have hm := it_f hm h20
        refine lv_aload_n hx hb d_M_close_42 rfl (lv_at hl 0 rfl) ?_
        refine ro_geta hx hb hown hG hg cM hst 23 10 (by decide) rfl rfl k_1037 d_M_close_43 ?_
        refine lv_iload_n hx hb d_M_close_46 rfl (lv_at hl 3 rfl) ?_
        refine lv_aload_n hx hb d_M_close_47 rfl (lv_at hl 0 rfl) ?_
        refine ro_geta hx hb hown hG hg cM hst 23 10 (by decide) rfl rfl k_1037 d_M_close_48 ?_
        refine lv_iload_n hx hb d_M_close_51 rfl (lv_at hl 3 rfl) ?_
        refine lv_iconst (v := 1) hx hb d_M_close_52 (by decide) ?_
        refine lv_iadd hx hb d_M_close_53 ?_
        obtain ⟨hn21, hm⟩ := gd_u hm
        refine ro_iald hx hb hg hst 10 rfl hn21 d_M_close_54 ?_
        refine lv_topi (fun x22 ex22 => ?_)
        have hm := lt_u hm x22 ex22
        obtain ⟨hn23, hm⟩ := gd_u hm
        refine ro_iast hx hb hg hst 10 rfl hn23 d_M_close_55 (fun a24 H locs ea24 hst => ?_)
        have hm := lt_u hm a24 ea24
        refine lv_iconst (v := 0) hx hb d_M_close_56 (by decide) ?_
        refine lv_istore (lv' := [(4, .int 0), (0, .ref h), (1, .int v1), (2, .int x6), (3, .int x14)]) hx hb d_M_close_57 hl (by decide) rfl (fun ls hl => ?_)
        obtain ⟨qJ25, hm, hLJ25, hR26⟩ := jn_u hm
        have hJ25 : ∀ (a27 : aA), qJ25 = .inl a27 → ∀ (H : Heap) (locs : List Loc) (ls : Array Slot), lv_has ls 5 [(0, .ref h), (1, .int v1), (2, .int x6), (3, .int x14)] → St dC dI A s.heap H locs (oW 0 h ksM spM tk L g a27 rw) → W p l e (rmo 2 46) s m args below meth c H locs 0 0 (MQ below (QI dC dI A r0 (oW 0 h ksM spM tk L g0 a0 rw)) args s 0 0 A) (F0 m 95 ls []) := by
          intro a27 hq H locs ls hl hst
          have hm := hLJ25 _ hq
          refine lv_aload_n hx hb d_M_close_95 rfl (lv_at hl 0 rfl) ?_
          refine ro_geta hx hb hown hG hg cM hst 25 12 (by decide) rfl rfl k_1039 d_M_close_96 ?_
          refine lv_iload_n hx hb d_M_close_99 rfl (lv_at hl 3 rfl) ?_
          refine lv_aload_n hx hb d_M_close_100 rfl (lv_at hl 0 rfl) ?_
          refine ro_geta hx hb hown hG hg cM hst 25 12 (by decide) rfl rfl k_1039 d_M_close_101 ?_
          refine lv_iload_n hx hb d_M_close_104 rfl (lv_at hl 3 rfl) ?_
          refine lv_iconst (v := 1) hx hb d_M_close_105 (by decide) ?_
          refine lv_iadd hx hb d_M_close_106 ?_
          obtain ⟨hn29, hm⟩ := gd_u hm
          refine ro_iald hx hb hg hst 12 rfl hn29 d_M_close_107 ?_
          refine lv_topi (fun x30 ex30 => ?_)
          have hm := lt_u hm x30 ex30
          obtain ⟨hn31, hm⟩ := gd_u hm
          refine ro_iast hx hb hg hst 12 rfl hn31 d_M_close_108 (fun a32 H locs ea32 hst => ?_)
          have hm := lt_u hm a32 ea32
          refine lv_aload_n hx hb d_M_close_109 rfl (lv_at hl 0 rfl) ?_
          refine ro_geta hx hb hown hG hg cM hst 26 13 (by decide) rfl rfl k_1040 d_M_close_110 ?_
          refine lv_iload_n hx hb d_M_close_113 rfl (lv_at hl 3 rfl) ?_
          refine lv_aload_n hx hb d_M_close_114 rfl (lv_at hl 0 rfl) ?_
          refine ro_geta hx hb hown hG hg cM hst 26 13 (by decide) rfl rfl k_1040 d_M_close_115 ?_
          refine lv_iload_n hx hb d_M_close_118 rfl (lv_at hl 3 rfl) ?_
          refine lv_iconst (v := 1) hx hb d_M_close_119 (by decide) ?_
          refine lv_iadd hx hb d_M_close_120 ?_
          obtain ⟨hn33, hm⟩ := gd_u hm
          refine ro_iald hx hb hg hst 13 rfl hn33 d_M_close_121 ?_
          refine lv_topi (fun x34 ex34 => ?_)
          have hm := lt_u hm x34 ex34
          obtain ⟨hn35, hm⟩ := gd_u hm
          refine ro_iast hx hb hg hst 13 rfl hn35 d_M_close_122 (fun a36 H locs ea36 hst => ?_)
          have hm := lt_u hm a36 ea36
          refine lv_iconst (v := 0) hx hb d_M_close_123 (by decide) ?_
          refine lv_istore (lv' := [(4, .int 0), (0, .ref h), (1, .int v1), (2, .int x6), (3, .int x14)]) hx hb d_M_close_124 hl (by decide) rfl (fun ls hl => ?_)
          refine lp_u (fun q39 : Int32 × aA => ∀ (H : Heap) (locs : List Loc) (ls : Array Slot), lv_has ls 5 [(0, .ref h), (1, .int v1), (2, .int x6), (3, .int x14), (4, .int q39.1)] → St dC dI A s.heap H locs (oW 0 h ksM spM tk L g q39.2 rw) → W p l e (rmo 2 46) s m args below meth c H locs 0 0 (MQ below (QI dC dI A r0 (oW 0 h ksM spM tk L g0 a0 rw)) args s 0 0 A) (F0 m 126 ls [])) ?_ n (0, a36) hm _ _ _ (lv_sub hl [1, 2, 3, 4, 0] rfl) hst
          rintro ⟨x37, a38⟩ r42 hm hJ400 hR41 H locs ls hl hst
          dsimp only at hm hl hst ⊢
          have hJ40 := fun y0 y1 (e : r42 = .inl (y0, y1)) => hJ400 (y0, y1) e
          dsimp only at hJ40
          refine lv_iload hx hb d_M_close_126 (lv_at hl 4 rfl) ?_
          refine lv_bipush (v := 60) hx hb d_M_close_128 (by decide) ?_
          refine lv_icmp_ge (tgt := 166) hx hb d_M_close_130 (by decide) (fun h43 => ?_) (fun h43 => ?_)
          · have hm := it_t hm h43
            refine lv_iinc (k := 3) (v := (x14 + 1)) (lv' := [(3, .int (x14 + 1)), (0, .ref h), (1, .int v1), (2, .int x6), (4, .int x37)]) hx hb d_M_close_166 hl rfl (by rfl) (by decide) rfl (fun ls hl => ?_)
            refine lv_goto (tgt := 32) hx hb d_M_close_169 (by decide) ?_
            exact hJ17 (x14 + 1) a38 (hR41 _ (Option.some.inj hm).symm).symm _ _ _ (lv_sub hl [1, 2, 3, 0] rfl) hst
          · have hm := it_f hm h43
            refine lv_aload_n hx hb d_M_close_133 rfl (lv_at hl 0 rfl) ?_
            refine ro_geta hx hb hown hG hg cM hst 27 14 (by decide) rfl rfl k_1041 d_M_close_134 ?_
            refine lv_bipush (v := 60) hx hb d_M_close_137 (by decide) ?_
            refine lv_iload_n hx hb d_M_close_139 rfl (lv_at hl 3 rfl) ?_
            refine lv_imul hx hb d_M_close_140 ?_
            refine lv_iload hx hb d_M_close_141 (lv_at hl 4 rfl) ?_
            refine lv_iadd hx hb d_M_close_143 ?_
            refine lv_aload_n hx hb d_M_close_144 rfl (lv_at hl 0 rfl) ?_
            refine ro_geta hx hb hown hG hg cM hst 27 14 (by decide) rfl rfl k_1041 d_M_close_145 ?_
            refine lv_bipush (v := 60) hx hb d_M_close_148 (by decide) ?_
            refine lv_iload_n hx hb d_M_close_150 rfl (lv_at hl 3 rfl) ?_
            refine lv_imul hx hb d_M_close_151 ?_
            refine lv_bipush (v := 60) hx hb d_M_close_152 (by decide) ?_
            refine lv_iadd hx hb d_M_close_154 ?_
            refine lv_iload hx hb d_M_close_155 (lv_at hl 4 rfl) ?_
            refine lv_iadd hx hb d_M_close_157 ?_
            obtain ⟨hn44, hm⟩ := gd_u hm
            refine ro_iald hx hb hg hst 14 rfl hn44 d_M_close_158 ?_
            refine lv_topi (fun x45 ex45 => ?_)
            have hm := lt_u hm x45 ex45
            obtain ⟨hn46, hm⟩ := gd_u hm
            refine ro_iast hx hb hg hst 14 rfl hn46 d_M_close_159 (fun a47 H locs ea47 hst => ?_)
            have hm := lt_u hm a47 ea47
            refine lv_iinc (k := 4) (v := (x37 + 1)) (lv' := [(4, .int (x37 + 1)), (0, .ref h), (1, .int v1), (2, .int x6), (3, .int x14)]) hx hb d_M_close_160 hl rfl (by rfl) (by decide) rfl (fun ls hl => ?_)
            refine lv_goto (tgt := 126) hx hb d_M_close_163 (by decide) ?_
            exact hJ40 (x37 + 1) a47 (Option.some.inj hm).symm _ _ _ (lv_sub hl [1, 2, 3, 4, 0] rfl) hst
        refine lp_u (fun q50 : Int32 × aA => ∀ (H : Heap) (locs : List Loc) (ls : Array Slot), lv_has ls 5 [(0, .ref h), (1, .int v1), (2, .int x6), (3, .int x14), (4, .int q50.1)] → St dC dI A s.heap H locs (oW 0 h ksM spM tk L g q50.2 rw) → W p l e (rmo 2 46) s m args below meth c H locs 0 0 (MQ below (QI dC dI A r0 (oW 0 h ksM spM tk L g0 a0 rw)) args s 0 0 A) (F0 m 59 ls [])) ?_ n (0, a24) hm _ _ _ (lv_sub hl [1, 2, 3, 4, 0] rfl) hst
        rintro ⟨x48, a49⟩ r53 hm hJ510 hR52 H locs ls hl hst
        dsimp only at hm hl hst ⊢
        have hJ51 := fun y0 y1 (e : r53 = .inl (y0, y1)) => hJ510 (y0, y1) e
        dsimp only at hJ51
        refine lv_iload hx hb d_M_close_59 (lv_at hl 4 rfl) ?_
        refine lv_iconst (v := 4) hx hb d_M_close_61 (by decide) ?_
        refine lv_icmp_ge (tgt := 95) hx hb d_M_close_62 (by decide) (fun h54 => ?_) (fun h54 => ?_)
        · have hm := it_t hm h54
          exact hJ25 a49 (hR52 _ (Option.some.inj hm).symm).symm _ _ _ (lv_sub hl [0, 1, 2, 3] rfl) hst
        · have hm := it_f hm h54
          refine lv_aload_n hx hb d_M_close_65 rfl (lv_at hl 0 rfl) ?_
          refine ro_geta hx hb hown hG hg cM hst 24 11 (by decide) rfl rfl k_1038 d_M_close_66 ?_
          refine lv_iconst (v := 4) hx hb d_M_close_69 (by decide) ?_
          refine lv_iload_n hx hb d_M_close_70 rfl (lv_at hl 3 rfl) ?_
          refine lv_imul hx hb d_M_close_71 ?_
          refine lv_iload hx hb d_M_close_72 (lv_at hl 4 rfl) ?_
          refine lv_iadd hx hb d_M_close_74 ?_
          refine lv_aload_n hx hb d_M_close_75 rfl (lv_at hl 0 rfl) ?_
          refine ro_geta hx hb hown hG hg cM hst 24 11 (by decide) rfl rfl k_1038 d_M_close_76 ?_
          refine lv_iconst (v := 4) hx hb d_M_close_79 (by decide) ?_
          refine lv_iload_n hx hb d_M_close_80 rfl (lv_at hl 3 rfl) ?_
          refine lv_imul hx hb d_M_close_81 ?_
          refine lv_iconst (v := 4) hx hb d_M_close_82 (by decide) ?_
          refine lv_iadd hx hb d_M_close_83 ?_
          refine lv_iload hx hb d_M_close_84 (lv_at hl 4 rfl) ?_
          refine lv_iadd hx hb d_M_close_86 ?_
          obtain ⟨hn55, hm⟩ := gd_u hm
          refine ro_iald hx hb hg hst 11 rfl hn55 d_M_close_87 ?_
          refine lv_topi (fun x56 ex56 => ?_)
          have hm := lt_u hm x56 ex56
          obtain ⟨hn57, hm⟩ := gd_u hm
          refine ro_iast hx hb hg hst 11 rfl hn57 d_M_close_88 (fun a58 H locs ea58 hst => ?_)
          have hm := lt_u hm a58 ea58
          refine lv_iinc (k := 4) (v := (x48 + 1)) (lv' := [(4, .int (x48 + 1)), (0, .ref h), (1, .int v1), (2, .int x6), (3, .int x14)]) hx hb d_M_close_89 hl rfl (by rfl) (by decide) rfl (fun ls hl => ?_)
          refine lv_goto (tgt := 59) hx hb d_M_close_92 (by decide) ?_
          exact hJ51 (x48 + 1) a58 (Option.some.inj hm).symm _ _ _ (lv_sub hl [1, 2, 3, 4, 0] rfl) hst
    · have hm := it_f hm h8
      refine lv_iconst (v := 0) hx hb d_M_close_28 (by decide) ?_
      have he := (Option.some.inj hm)
      cases he
      exact rt_i hx hb hr hlk (by decide) hst rfl d_M_close_29
  refine lv_icmp_ne (tgt := 22) hx hb d_M_close_6 (by decide) (fun h59 => ?_) (fun h59 => ?_)
  · have hm := it_f hm h59
    refine lv_iconst (v := (-1)) hx hb d_M_close_22 (by decide) ?_
    exact hJ4 (-1) (Option.some.inj hm).symm _ _ _ (lv_sub hl [0, 1] rfl) hst
  · have hm := it_t hm h59
    refine lv_aload_n hx hb d_M_close_9 rfl (lv_at hl 0 rfl) ?_
    refine lv_aload_n hx hb d_M_close_10 rfl (lv_at hl 0 rfl) ?_
    refine lv_iload_n hx hb d_M_close_11 rfl (lv_at hl 1 rfl) ?_
    refine lv_iconst (v := 0) hx hb d_M_close_12 (by decide) ?_
    obtain ⟨x61, hc62, hm⟩ := bd_u hm
    refine cl_vi hx hb hml hown hG hg (cM_item l dC dI tk A h L g a rw n v1 0 _ hc62) (cw_v 2 hG k_1251 k_1253 s_47 k_14 k_1254 (by decide +kernel) ⟨by decide, by decide⟩) hst rfl oW_0 rfl hl.1 rfl (Nat.le_of_ble_eq_true rfl) ⟨Nat.le_refl 0, Nat.le_refl 0⟩ d_M_close_13 (fun H locs hst => ?_)
    obtain ⟨x64, hc65, hm⟩ := bd_u hm
    refine cl_vi hx hb hml hown hG hg (cM_documentOf l dC dI tk A h L g a rw n x61 _ hc65) (cw_v 1 hG k_1255 k_1257 s_48 k_14 k_1258 (by decide +kernel) ⟨by decide, by decide⟩) hst rfl oW_0 rfl hl.1 rfl (Nat.le_of_ble_eq_true rfl) ⟨Nat.le_refl 0, Nat.le_refl 0⟩ d_M_close_16 (fun H locs hst => ?_)
    refine lv_goto (tgt := 23) hx hb d_M_close_19 (by decide) ?_
    exact hJ4 x64 (Option.some.inj hm).symm _ _ _ (lv_sub hl [0, 1] rfl) hst
def mM_open (n : Nat) (v1 : Int32) (g : aG) (a : aA) : Option (Int32 × aG × aA) := bd (mM_item n v1 0 g a) (fun x2 => bd (mM_item n v1 2 g a) (fun x5 => bd (mM_items n v1 g a) (fun x8 => if x8 = 3 then (bd (mM_isSort n x2 2 g a) (fun x12 => if x12 = 0 then (some ((0, g, a))) else (bd (mM_item n v1 1 g a) (fun x16 => bd (mM_isSort n x16 1 g a) (fun x19 => if x19 = 0 then (some ((0, g, a))) else (bd (mM_isSort n x5 2 g a) (fun x23 => if x23 = 0 then (some ((0, g, a))) else (gd (inb x2 41) (lt (a 4 x2.toNatClampNeg) (fun x27 => if x27 < 1 then (some ((0, g, a))) else (gd (inb x2 41) (lt (a 4 x2.toNatClampNeg) (fun x30 => if 4 < x30 then (some ((0, g, a))) else (gd (inb x5 41) (lt (a 4 x5.toNatClampNeg) (fun x33 => if 60 < x33 then (some ((0, g, a))) else (if (g 22) = 3 then (some ((0, g, a))) else (bd (mM_documentOf n x2 g a) (fun x37 => if x37 < 0 then (gd (inb x2 41) (lt (a 4 x2.toNatClampNeg) (fun x41 => gd (inb (g 22) 3) (lt (va_up a 10 (upd (a 10) (g 22).toNatClampNeg x41)) (fun a43 => jn (α := aA) (lp (ε := Int32 × aA) (fun q81 => gd (inb x2 41) (lt (q81.2 4 x2.toNatClampNeg) (fun x86 => if x86 ≤ q81.1 then (some (.inr (.inl q81.2))) else (gd (inb x2 41) (lt (q81.2 3 x2.toNatClampNeg) (fun x89 => gd (inb (x89 + q81.1) 201) (lt (q81.2 8 (x89 + q81.1).toNatClampNeg) (fun x91 => gd (inb ((4 * (g 22)) + q81.1) 12) (lt (va_up q81.2 11 (upd (q81.2 11) ((4 * (g 22)) + q81.1).toNatClampNeg x91)) (fun a93 => some (.inl ((q81.1 + 1), a93)))))))))))) n (0, a43)) (fun a46 => bd (mM_item n v1 1 g a46) (fun x49 => gd (inb x49 41) (lt (a46 2 x49.toNatClampNeg) (fun x52 => gd (inb (g 22) 3) (lt (va_up a46 12 (upd (a46 12) (g 22).toNatClampNeg x52)) (fun a54 => gd (inb x5 41) (lt (a54 4 x5.toNatClampNeg) (fun x56 => gd (inb (g 22) 3) (lt (va_up a54 13 (upd (a54 13) (g 22).toNatClampNeg x56)) (fun a58 => jn (α := aA) (lp (ε := Int32 × aA) (fun q66 => gd (inb x5 41) (lt (q66.2 4 x5.toNatClampNeg) (fun x71 => if x71 ≤ q66.1 then (some (.inr (.inl q66.2))) else (gd (inb x5 41) (lt (q66.2 3 x5.toNatClampNeg) (fun x74 => gd (inb (x74 + q66.1) 201) (lt (q66.2 8 (x74 + q66.1).toNatClampNeg) (fun x76 => gd (inb ((60 * (g 22)) + q66.1) 180) (lt (va_up q66.2 14 (upd (q66.2 14) ((60 * (g 22)) + q66.1).toNatClampNeg x76)) (fun a78 => some (.inl ((q66.1 + 1), a78)))))))))))) n (0, a58)) (fun a61 => lt (va_up g 22 ((g 22) + 1)) (fun g63 => some ((1, g63, a61))))))))))))))))))) else (some ((0, g, a)))))))))))))))))))))) else (some ((0, g, a))))))
theorem d_M_open_0 : decode prog_11_method_31_code 0 = .ok (.aload_n 0, 1) := by decide +kernel
theorem d_M_open_1 : decode prog_11_method_31_code 1 = .ok (.iload_n 1, 1) := by decide +kernel
theorem d_M_open_2 : decode prog_11_method_31_code 2 = .ok (.iconst 0, 1) := by decide +kernel
theorem d_M_open_3 : decode prog_11_method_31_code 3 = .ok (.invokevirtual 217, 3) := by decide +kernel
theorem d_M_open_6 : decode prog_11_method_31_code 6 = .ok (.istore_n 2, 1) := by decide +kernel
theorem d_M_open_7 : decode prog_11_method_31_code 7 = .ok (.aload_n 0, 1) := by decide +kernel
theorem d_M_open_8 : decode prog_11_method_31_code 8 = .ok (.iload_n 1, 1) := by decide +kernel
theorem d_M_open_9 : decode prog_11_method_31_code 9 = .ok (.iconst 2, 1) := by decide +kernel
theorem d_M_open_10 : decode prog_11_method_31_code 10 = .ok (.invokevirtual 217, 3) := by decide +kernel
theorem d_M_open_13 : decode prog_11_method_31_code 13 = .ok (.istore_n 3, 1) := by decide +kernel
theorem d_M_open_14 : decode prog_11_method_31_code 14 = .ok (.aload_n 0, 1) := by decide +kernel
theorem d_M_open_15 : decode prog_11_method_31_code 15 = .ok (.iload_n 1, 1) := by decide +kernel
theorem d_M_open_16 : decode prog_11_method_31_code 16 = .ok (.invokevirtual 225, 3) := by decide +kernel
theorem d_M_open_19 : decode prog_11_method_31_code 19 = .ok (.iconst 3, 1) := by decide +kernel
theorem d_M_open_20 : decode prog_11_method_31_code 20 = .ok (.if_icmp .ne 35, 3) := by decide +kernel
theorem d_M_open_23 : decode prog_11_method_31_code 23 = .ok (.aload_n 0, 1) := by decide +kernel
theorem d_M_open_24 : decode prog_11_method_31_code 24 = .ok (.iload_n 2, 1) := by decide +kernel
theorem d_M_open_25 : decode prog_11_method_31_code 25 = .ok (.iconst 2, 1) := by decide +kernel
theorem d_M_open_26 : decode prog_11_method_31_code 26 = .ok (.invokevirtual 188, 3) := by decide +kernel
theorem d_M_open_29 : decode prog_11_method_31_code 29 = .ok (.ifCond .eq 26, 3) := by decide +kernel
theorem d_M_open_32 : decode prog_11_method_31_code 32 = .ok (.aload_n 0, 1) := by decide +kernel
theorem d_M_open_33 : decode prog_11_method_31_code 33 = .ok (.aload_n 0, 1) := by decide +kernel
theorem d_M_open_34 : decode prog_11_method_31_code 34 = .ok (.iload_n 1, 1) := by decide +kernel
theorem d_M_open_35 : decode prog_11_method_31_code 35 = .ok (.iconst 1, 1) := by decide +kernel
theorem d_M_open_36 : decode prog_11_method_31_code 36 = .ok (.invokevirtual 217, 3) := by decide +kernel
theorem d_M_open_39 : decode prog_11_method_31_code 39 = .ok (.iconst 1, 1) := by decide +kernel
theorem d_M_open_40 : decode prog_11_method_31_code 40 = .ok (.invokevirtual 188, 3) := by decide +kernel
theorem d_M_open_43 : decode prog_11_method_31_code 43 = .ok (.ifCond .eq 12, 3) := by decide +kernel
theorem d_M_open_46 : decode prog_11_method_31_code 46 = .ok (.aload_n 0, 1) := by decide +kernel
theorem d_M_open_47 : decode prog_11_method_31_code 47 = .ok (.iload_n 3, 1) := by decide +kernel
theorem d_M_open_48 : decode prog_11_method_31_code 48 = .ok (.iconst 2, 1) := by decide +kernel
theorem d_M_open_49 : decode prog_11_method_31_code 49 = .ok (.invokevirtual 188, 3) := by decide +kernel
theorem d_M_open_52 : decode prog_11_method_31_code 52 = .ok (.ifCond .ne 5, 3) := by decide +kernel
theorem d_M_open_55 : decode prog_11_method_31_code 55 = .ok (.iconst 0, 1) := by decide +kernel
theorem d_M_open_56 : decode prog_11_method_31_code 56 = .ok (.ireturn, 1) := by decide +kernel
theorem d_M_open_57 : decode prog_11_method_31_code 57 = .ok (.aload_n 0, 1) := by decide +kernel
theorem d_M_open_58 : decode prog_11_method_31_code 58 = .ok (.getfield 22, 3) := by decide +kernel
theorem d_M_open_61 : decode prog_11_method_31_code 61 = .ok (.iload_n 2, 1) := by decide +kernel
theorem d_M_open_62 : decode prog_11_method_31_code 62 = .ok (.iaload, 1) := by decide +kernel
theorem d_M_open_63 : decode prog_11_method_31_code 63 = .ok (.iconst 1, 1) := by decide +kernel
theorem d_M_open_64 : decode prog_11_method_31_code 64 = .ok (.if_icmp .lt 40, 3) := by decide +kernel
theorem d_M_open_67 : decode prog_11_method_31_code 67 = .ok (.aload_n 0, 1) := by decide +kernel
theorem d_M_open_68 : decode prog_11_method_31_code 68 = .ok (.getfield 22, 3) := by decide +kernel
theorem d_M_open_71 : decode prog_11_method_31_code 71 = .ok (.iload_n 2, 1) := by decide +kernel
theorem d_M_open_72 : decode prog_11_method_31_code 72 = .ok (.iaload, 1) := by decide +kernel
theorem d_M_open_73 : decode prog_11_method_31_code 73 = .ok (.iconst 4, 1) := by decide +kernel
theorem d_M_open_74 : decode prog_11_method_31_code 74 = .ok (.if_icmp .gt 30, 3) := by decide +kernel
theorem d_M_open_77 : decode prog_11_method_31_code 77 = .ok (.aload_n 0, 1) := by decide +kernel
theorem d_M_open_78 : decode prog_11_method_31_code 78 = .ok (.getfield 22, 3) := by decide +kernel
theorem d_M_open_81 : decode prog_11_method_31_code 81 = .ok (.iload_n 3, 1) := by decide +kernel
theorem d_M_open_82 : decode prog_11_method_31_code 82 = .ok (.iaload, 1) := by decide +kernel
theorem d_M_open_83 : decode prog_11_method_31_code 83 = .ok (.bipush 60, 2) := by decide +kernel
theorem d_M_open_85 : decode prog_11_method_31_code 85 = .ok (.if_icmp .gt 19, 3) := by decide +kernel
theorem d_M_open_88 : decode prog_11_method_31_code 88 = .ok (.aload_n 0, 1) := by decide +kernel
theorem d_M_open_89 : decode prog_11_method_31_code 89 = .ok (.getfield 228, 3) := by decide +kernel
theorem d_M_open_92 : decode prog_11_method_31_code 92 = .ok (.iconst 3, 1) := by decide +kernel
theorem d_M_open_93 : decode prog_11_method_31_code 93 = .ok (.if_icmp .eq 11, 3) := by decide +kernel
theorem d_M_open_96 : decode prog_11_method_31_code 96 = .ok (.aload_n 0, 1) := by decide +kernel
theorem d_M_open_97 : decode prog_11_method_31_code 97 = .ok (.iload_n 2, 1) := by decide +kernel
theorem d_M_open_98 : decode prog_11_method_31_code 98 = .ok (.invokevirtual 221, 3) := by decide +kernel
theorem d_M_open_101 : decode prog_11_method_31_code 101 = .ok (.ifCond .lt 5, 3) := by decide +kernel
theorem d_M_open_104 : decode prog_11_method_31_code 104 = .ok (.iconst 0, 1) := by decide +kernel
theorem d_M_open_105 : decode prog_11_method_31_code 105 = .ok (.ireturn, 1) := by decide +kernel
theorem d_M_open_106 : decode prog_11_method_31_code 106 = .ok (.aload_n 0, 1) := by decide +kernel
theorem d_M_open_107 : decode prog_11_method_31_code 107 = .ok (.getfield 228, 3) := by decide +kernel
theorem d_M_open_110 : decode prog_11_method_31_code 110 = .ok (.istore 4, 2) := by decide +kernel
theorem d_M_open_112 : decode prog_11_method_31_code 112 = .ok (.aload_n 0, 1) := by decide +kernel
theorem d_M_open_113 : decode prog_11_method_31_code 113 = .ok (.getfield 40, 3) := by decide +kernel
theorem d_M_open_116 : decode prog_11_method_31_code 116 = .ok (.iload 4, 2) := by decide +kernel
theorem d_M_open_118 : decode prog_11_method_31_code 118 = .ok (.aload_n 0, 1) := by decide +kernel
theorem d_M_open_119 : decode prog_11_method_31_code 119 = .ok (.getfield 22, 3) := by decide +kernel
theorem d_M_open_122 : decode prog_11_method_31_code 122 = .ok (.iload_n 2, 1) := by decide +kernel
theorem d_M_open_123 : decode prog_11_method_31_code 123 = .ok (.iaload, 1) := by decide +kernel
theorem d_M_open_124 : decode prog_11_method_31_code 124 = .ok (.iastore, 1) := by decide +kernel
theorem d_M_open_125 : decode prog_11_method_31_code 125 = .ok (.iconst 0, 1) := by decide +kernel
theorem d_M_open_126 : decode prog_11_method_31_code 126 = .ok (.istore 5, 2) := by decide +kernel
theorem d_M_open_128 : decode prog_11_method_31_code 128 = .ok (.iload 5, 2) := by decide +kernel
theorem d_M_open_130 : decode prog_11_method_31_code 130 = .ok (.aload_n 0, 1) := by decide +kernel
theorem d_M_open_131 : decode prog_11_method_31_code 131 = .ok (.getfield 22, 3) := by decide +kernel
theorem d_M_open_134 : decode prog_11_method_31_code 134 = .ok (.iload_n 2, 1) := by decide +kernel
theorem d_M_open_135 : decode prog_11_method_31_code 135 = .ok (.iaload, 1) := by decide +kernel
theorem d_M_open_136 : decode prog_11_method_31_code 136 = .ok (.if_icmp .ge 35, 3) := by decide +kernel
theorem d_M_open_139 : decode prog_11_method_31_code 139 = .ok (.aload_n 0, 1) := by decide +kernel
theorem d_M_open_140 : decode prog_11_method_31_code 140 = .ok (.getfield 43, 3) := by decide +kernel
theorem d_M_open_143 : decode prog_11_method_31_code 143 = .ok (.iconst 4, 1) := by decide +kernel
theorem d_M_open_144 : decode prog_11_method_31_code 144 = .ok (.iload 4, 2) := by decide +kernel
theorem d_M_open_146 : decode prog_11_method_31_code 146 = .ok (.imul, 1) := by decide +kernel
theorem d_M_open_147 : decode prog_11_method_31_code 147 = .ok (.iload 5, 2) := by decide +kernel
theorem d_M_open_149 : decode prog_11_method_31_code 149 = .ok (.iadd, 1) := by decide +kernel
theorem d_M_open_150 : decode prog_11_method_31_code 150 = .ok (.aload_n 0, 1) := by decide +kernel
theorem d_M_open_151 : decode prog_11_method_31_code 151 = .ok (.getfield 34, 3) := by decide +kernel
theorem d_M_open_154 : decode prog_11_method_31_code 154 = .ok (.aload_n 0, 1) := by decide +kernel
theorem d_M_open_155 : decode prog_11_method_31_code 155 = .ok (.getfield 19, 3) := by decide +kernel
theorem d_M_open_158 : decode prog_11_method_31_code 158 = .ok (.iload_n 2, 1) := by decide +kernel
theorem d_M_open_159 : decode prog_11_method_31_code 159 = .ok (.iaload, 1) := by decide +kernel
theorem d_M_open_160 : decode prog_11_method_31_code 160 = .ok (.iload 5, 2) := by decide +kernel
theorem d_M_open_162 : decode prog_11_method_31_code 162 = .ok (.iadd, 1) := by decide +kernel
theorem d_M_open_163 : decode prog_11_method_31_code 163 = .ok (.iaload, 1) := by decide +kernel
theorem d_M_open_164 : decode prog_11_method_31_code 164 = .ok (.iastore, 1) := by decide +kernel
theorem d_M_open_165 : decode prog_11_method_31_code 165 = .ok (.iinc 5 1, 3) := by decide +kernel
theorem d_M_open_168 : decode prog_11_method_31_code 168 = .ok (.goto (-40), 3) := by decide +kernel
theorem d_M_open_171 : decode prog_11_method_31_code 171 = .ok (.aload_n 0, 1) := by decide +kernel
theorem d_M_open_172 : decode prog_11_method_31_code 172 = .ok (.getfield 46, 3) := by decide +kernel
theorem d_M_open_175 : decode prog_11_method_31_code 175 = .ok (.iload 4, 2) := by decide +kernel
theorem d_M_open_177 : decode prog_11_method_31_code 177 = .ok (.aload_n 0, 1) := by decide +kernel
theorem d_M_open_178 : decode prog_11_method_31_code 178 = .ok (.getfield 16, 3) := by decide +kernel
theorem d_M_open_181 : decode prog_11_method_31_code 181 = .ok (.aload_n 0, 1) := by decide +kernel
theorem d_M_open_182 : decode prog_11_method_31_code 182 = .ok (.iload_n 1, 1) := by decide +kernel
theorem d_M_open_183 : decode prog_11_method_31_code 183 = .ok (.iconst 1, 1) := by decide +kernel
theorem d_M_open_184 : decode prog_11_method_31_code 184 = .ok (.invokevirtual 217, 3) := by decide +kernel
theorem d_M_open_187 : decode prog_11_method_31_code 187 = .ok (.iaload, 1) := by decide +kernel
theorem d_M_open_188 : decode prog_11_method_31_code 188 = .ok (.iastore, 1) := by decide +kernel
theorem d_M_open_189 : decode prog_11_method_31_code 189 = .ok (.aload_n 0, 1) := by decide +kernel
theorem d_M_open_190 : decode prog_11_method_31_code 190 = .ok (.getfield 49, 3) := by decide +kernel
theorem d_M_open_193 : decode prog_11_method_31_code 193 = .ok (.iload 4, 2) := by decide +kernel
theorem d_M_open_195 : decode prog_11_method_31_code 195 = .ok (.aload_n 0, 1) := by decide +kernel
theorem d_M_open_196 : decode prog_11_method_31_code 196 = .ok (.getfield 22, 3) := by decide +kernel
theorem d_M_open_199 : decode prog_11_method_31_code 199 = .ok (.iload_n 3, 1) := by decide +kernel
theorem d_M_open_200 : decode prog_11_method_31_code 200 = .ok (.iaload, 1) := by decide +kernel
theorem d_M_open_201 : decode prog_11_method_31_code 201 = .ok (.iastore, 1) := by decide +kernel
theorem d_M_open_202 : decode prog_11_method_31_code 202 = .ok (.iconst 0, 1) := by decide +kernel
theorem d_M_open_203 : decode prog_11_method_31_code 203 = .ok (.istore 5, 2) := by decide +kernel
theorem d_M_open_205 : decode prog_11_method_31_code 205 = .ok (.iload 5, 2) := by decide +kernel
theorem d_M_open_207 : decode prog_11_method_31_code 207 = .ok (.aload_n 0, 1) := by decide +kernel
theorem d_M_open_208 : decode prog_11_method_31_code 208 = .ok (.getfield 22, 3) := by decide +kernel
theorem d_M_open_211 : decode prog_11_method_31_code 211 = .ok (.iload_n 3, 1) := by decide +kernel
theorem d_M_open_212 : decode prog_11_method_31_code 212 = .ok (.iaload, 1) := by decide +kernel
theorem d_M_open_213 : decode prog_11_method_31_code 213 = .ok (.if_icmp .ge 36, 3) := by decide +kernel
theorem d_M_open_216 : decode prog_11_method_31_code 216 = .ok (.aload_n 0, 1) := by decide +kernel
theorem d_M_open_217 : decode prog_11_method_31_code 217 = .ok (.getfield 52, 3) := by decide +kernel
theorem d_M_open_220 : decode prog_11_method_31_code 220 = .ok (.bipush 60, 2) := by decide +kernel
theorem d_M_open_222 : decode prog_11_method_31_code 222 = .ok (.iload 4, 2) := by decide +kernel
theorem d_M_open_224 : decode prog_11_method_31_code 224 = .ok (.imul, 1) := by decide +kernel
theorem d_M_open_225 : decode prog_11_method_31_code 225 = .ok (.iload 5, 2) := by decide +kernel
theorem d_M_open_227 : decode prog_11_method_31_code 227 = .ok (.iadd, 1) := by decide +kernel
theorem d_M_open_228 : decode prog_11_method_31_code 228 = .ok (.aload_n 0, 1) := by decide +kernel
theorem d_M_open_229 : decode prog_11_method_31_code 229 = .ok (.getfield 34, 3) := by decide +kernel
theorem d_M_open_232 : decode prog_11_method_31_code 232 = .ok (.aload_n 0, 1) := by decide +kernel
theorem d_M_open_233 : decode prog_11_method_31_code 233 = .ok (.getfield 19, 3) := by decide +kernel
theorem d_M_open_236 : decode prog_11_method_31_code 236 = .ok (.iload_n 3, 1) := by decide +kernel
theorem d_M_open_237 : decode prog_11_method_31_code 237 = .ok (.iaload, 1) := by decide +kernel
theorem d_M_open_238 : decode prog_11_method_31_code 238 = .ok (.iload 5, 2) := by decide +kernel
theorem d_M_open_240 : decode prog_11_method_31_code 240 = .ok (.iadd, 1) := by decide +kernel
theorem d_M_open_241 : decode prog_11_method_31_code 241 = .ok (.iaload, 1) := by decide +kernel
theorem d_M_open_242 : decode prog_11_method_31_code 242 = .ok (.iastore, 1) := by decide +kernel
theorem d_M_open_243 : decode prog_11_method_31_code 243 = .ok (.iinc 5 1, 3) := by decide +kernel
theorem d_M_open_246 : decode prog_11_method_31_code 246 = .ok (.goto (-41), 3) := by decide +kernel
theorem d_M_open_249 : decode prog_11_method_31_code 249 = .ok (.aload_n 0, 1) := by decide +kernel
theorem d_M_open_250 : decode prog_11_method_31_code 250 = .ok (.dup, 1) := by decide +kernel
theorem d_M_open_251 : decode prog_11_method_31_code 251 = .ok (.getfield 228, 3) := by decide +kernel
theorem d_M_open_254 : decode prog_11_method_31_code 254 = .ok (.iconst 1, 1) := by decide +kernel
theorem d_M_open_255 : decode prog_11_method_31_code 255 = .ok (.iadd, 1) := by decide +kernel
theorem d_M_open_256 : decode prog_11_method_31_code 256 = .ok (.putfield 228, 3) := by decide +kernel
theorem d_M_open_259 : decode prog_11_method_31_code 259 = .ok (.iconst 1, 1) := by decide +kernel
theorem d_M_open_260 : decode prog_11_method_31_code 260 = .ok (.ireturn, 1) := by decide +kernel
set_option maxHeartbeats 4000000 in
set_option maxRecDepth 100000 in
theorem cM_open (l : Launch) (dC : Nat → ClassId) (dI : Nat → Nat → Nat) (tk : Nat → ClassId) (A : Nat → Prop) (h : Nat) (L : Nat → Nat) (g : aG) (a : aA) (rw : va_W) (n : Nat) (v1 : Int32) (r0 : Int32) (g0 : aG) (a0 : aA) (hm : mM_open n v1 g a = some (r0, g0, a0)) : CtI l dC dI tk A ⟨"EditorServerModel", "open", "(I)Z"⟩ prog_11_method_31_code 6 (some .boolean) 2 46 [.ref h, .int v1] (oW 0 h ksM spM tk L g a rw) r0 (oW 0 h ksM spM tk L g0 a0 rw) := by
  refine ent (by decide) (Nat.le_of_ble_eq_true rfl) ?_
  intro p e s m args below meth c hx hb hr hml hown hlk hG hg hst ls hl
  unfold mM_open at hm
  have hl : lv_has ls 6 [(0, .ref h), (1, .int v1)] := hl
  refine lv_aload_n hx hb d_M_open_0 rfl (lv_at hl 0 rfl) ?_
  refine lv_iload_n hx hb d_M_open_1 rfl (lv_at hl 1 rfl) ?_
  refine lv_iconst (v := 0) hx hb d_M_open_2 (by decide) ?_
  obtain ⟨x2, hc3, hm⟩ := bd_u hm
  refine cl_vi hx hb hml hown hG hg (cM_item l dC dI tk A h L g a rw n v1 0 _ hc3) (cw_v 2 hG k_1251 k_1253 s_47 k_14 k_1254 (by decide +kernel) ⟨by decide, by decide⟩) hst rfl oW_0 rfl hl.1 rfl (Nat.le_of_ble_eq_true rfl) ⟨Nat.le_refl 0, Nat.le_refl 0⟩ d_M_open_3 (fun H locs hst => ?_)
  refine lv_istore_n (lv' := [(2, .int x2), (0, .ref h), (1, .int v1)]) hx hb d_M_open_6 rfl hl (by decide) rfl (fun ls hl => ?_)
  refine lv_aload_n hx hb d_M_open_7 rfl (lv_at hl 1 rfl) ?_
  refine lv_iload_n hx hb d_M_open_8 rfl (lv_at hl 2 rfl) ?_
  refine lv_iconst (v := 2) hx hb d_M_open_9 (by decide) ?_
  obtain ⟨x5, hc6, hm⟩ := bd_u hm
  refine cl_vi hx hb hml hown hG hg (cM_item l dC dI tk A h L g a rw n v1 2 _ hc6) (cw_v 2 hG k_1251 k_1253 s_47 k_14 k_1254 (by decide +kernel) ⟨by decide, by decide⟩) hst rfl oW_0 rfl hl.1 rfl (Nat.le_of_ble_eq_true rfl) ⟨Nat.le_refl 0, Nat.le_refl 0⟩ d_M_open_10 (fun H locs hst => ?_)
  refine lv_istore_n (lv' := [(3, .int x5), (2, .int x2), (0, .ref h), (1, .int v1)]) hx hb d_M_open_13 rfl hl (by decide) rfl (fun ls hl => ?_)
  refine lv_aload_n hx hb d_M_open_14 rfl (lv_at hl 2 rfl) ?_
  refine lv_iload_n hx hb d_M_open_15 rfl (lv_at hl 3 rfl) ?_
  obtain ⟨x8, hc9, hm⟩ := bd_u hm
  refine cl_vi hx hb hml hown hG hg (cM_items l dC dI tk A h L g a rw n v1 _ hc9) (cw_v 1 hG k_1247 k_1249 s_46 k_14 k_1250 (by decide +kernel) ⟨by decide, by decide⟩) hst rfl oW_0 rfl hl.1 rfl (Nat.le_of_ble_eq_true rfl) ⟨Nat.le_refl 0, Nat.le_refl 0⟩ d_M_open_16 (fun H locs hst => ?_)
  refine lv_iconst (v := 3) hx hb d_M_open_19 (by decide) ?_
  refine lv_icmp_ne (tgt := 55) hx hb d_M_open_20 (by decide) (fun h10 => ?_) (fun h10 => ?_)
  · have hm := it_f hm h10
    refine lv_iconst (v := 0) hx hb d_M_open_55 (by decide) ?_
    have he := (Option.some.inj hm)
    cases he
    exact rt_i hx hb hr hlk (by decide) hst rfl d_M_open_56
  · have hm := it_t hm h10
    refine lv_aload_n hx hb d_M_open_23 rfl (lv_at hl 2 rfl) ?_
    refine lv_iload_n hx hb d_M_open_24 rfl (lv_at hl 1 rfl) ?_
    refine lv_iconst (v := 2) hx hb d_M_open_25 (by decide) ?_
    obtain ⟨x12, hc13, hm⟩ := bd_u hm
    refine cl_vi hx hb hml hown hG hg (cM_isSort l dC dI tk A h L g a rw n x2 2 _ hc13) (cw_v 2 hG k_1223 k_1225 s_40 k_14 k_1226 (by decide +kernel) ⟨by decide, by decide⟩) hst rfl oW_0 rfl hl.1 rfl (Nat.le_of_ble_eq_true rfl) ⟨Nat.le_refl 0, Nat.le_refl 0⟩ d_M_open_26 (fun H locs hst => ?_)
    refine lv_if_eq (tgt := 55) hx hb d_M_open_29 (by decide) (fun h14 => ?_) (fun h14 => ?_)
    · have hm := it_t hm h14
      refine lv_iconst (v := 0) hx hb d_M_open_55 (by decide) ?_
      have he := (Option.some.inj hm)
      cases he
      exact rt_i hx hb hr hlk (by decide) hst rfl d_M_open_56
    · have hm := it_f hm h14
      refine lv_aload_n hx hb d_M_open_32 rfl (lv_at hl 2 rfl) ?_
      refine lv_aload_n hx hb d_M_open_33 rfl (lv_at hl 2 rfl) ?_
      refine lv_iload_n hx hb d_M_open_34 rfl (lv_at hl 3 rfl) ?_
      refine lv_iconst (v := 1) hx hb d_M_open_35 (by decide) ?_
      obtain ⟨x16, hc17, hm⟩ := bd_u hm
      refine cl_vi hx hb hml hown hG hg (cM_item l dC dI tk A h L g a rw n v1 1 _ hc17) (cw_v 2 hG k_1251 k_1253 s_47 k_14 k_1254 (by decide +kernel) ⟨by decide, by decide⟩) hst rfl oW_0 rfl hl.1 rfl (Nat.le_of_ble_eq_true rfl) ⟨Nat.le_refl 0, Nat.le_refl 0⟩ d_M_open_36 (fun H locs hst => ?_)
      refine lv_iconst (v := 1) hx hb d_M_open_39 (by decide) ?_
      obtain ⟨x19, hc20, hm⟩ := bd_u hm
      refine cl_vi hx hb hml hown hG hg (cM_isSort l dC dI tk A h L g a rw n x16 1 _ hc20) (cw_v 2 hG k_1223 k_1225 s_40 k_14 k_1226 (by decide +kernel) ⟨by decide, by decide⟩) hst rfl oW_0 rfl hl.1 rfl (Nat.le_of_ble_eq_true rfl) ⟨Nat.le_refl 0, Nat.le_refl 0⟩ d_M_open_40 (fun H locs hst => ?_)
      refine lv_if_eq (tgt := 55) hx hb d_M_open_43 (by decide) (fun h21 => ?_) (fun h21 => ?_)
      · have hm := it_t hm h21
        refine lv_iconst (v := 0) hx hb d_M_open_55 (by decide) ?_
        have he := (Option.some.inj hm)
        cases he
        exact rt_i hx hb hr hlk (by decide) hst rfl d_M_open_56
      · have hm := it_f hm h21
        refine lv_aload_n hx hb d_M_open_46 rfl (lv_at hl 2 rfl) ?_
        refine lv_iload_n hx hb d_M_open_47 rfl (lv_at hl 0 rfl) ?_
        refine lv_iconst (v := 2) hx hb d_M_open_48 (by decide) ?_
        obtain ⟨x23, hc24, hm⟩ := bd_u hm
        refine cl_vi hx hb hml hown hG hg (cM_isSort l dC dI tk A h L g a rw n x5 2 _ hc24) (cw_v 2 hG k_1223 k_1225 s_40 k_14 k_1226 (by decide +kernel) ⟨by decide, by decide⟩) hst rfl oW_0 rfl hl.1 rfl (Nat.le_of_ble_eq_true rfl) ⟨Nat.le_refl 0, Nat.le_refl 0⟩ d_M_open_49 (fun H locs hst => ?_)
        refine lv_if_ne (tgt := 57) hx hb d_M_open_52 (by decide) (fun h25 => ?_) (fun h25 => ?_)
        · have hm := it_f hm h25
          refine lv_aload_n hx hb d_M_open_57 rfl (lv_at hl 2 rfl) ?_
          refine ro_geta hx hb hown hG hg cM hst 12 4 (by decide) rfl rfl k_1026 d_M_open_58 ?_
          refine lv_iload_n hx hb d_M_open_61 rfl (lv_at hl 1 rfl) ?_
          obtain ⟨hn26, hm⟩ := gd_u hm
          refine ro_iald hx hb hg hst 4 rfl hn26 d_M_open_62 ?_
          refine lv_topi (fun x27 ex27 => ?_)
          have hm := lt_u hm x27 ex27
          refine lv_iconst (v := 1) hx hb d_M_open_63 (by decide) ?_
          refine lv_icmp_lt (tgt := 104) hx hb d_M_open_64 (by decide) (fun h28 => ?_) (fun h28 => ?_)
          · have hm := it_t hm h28
            refine lv_iconst (v := 0) hx hb d_M_open_104 (by decide) ?_
            have he := (Option.some.inj hm)
            cases he
            exact rt_i hx hb hr hlk (by decide) hst rfl d_M_open_105
          · have hm := it_f hm h28
            refine lv_aload_n hx hb d_M_open_67 rfl (lv_at hl 2 rfl) ?_
            refine ro_geta hx hb hown hG hg cM hst 12 4 (by decide) rfl rfl k_1026 d_M_open_68 ?_
            refine lv_iload_n hx hb d_M_open_71 rfl (lv_at hl 1 rfl) ?_
            obtain ⟨hn29, hm⟩ := gd_u hm
            refine ro_iald hx hb hg hst 4 rfl hn29 d_M_open_72 ?_
            refine lv_topi (fun x30 ex30 => ?_)
            have hm := lt_u hm x30 ex30
            refine lv_iconst (v := 4) hx hb d_M_open_73 (by decide) ?_
            refine lv_icmp_gt (tgt := 104) hx hb d_M_open_74 (by decide) (fun h31 => ?_) (fun h31 => ?_)
            · have hm := it_t hm h31
              refine lv_iconst (v := 0) hx hb d_M_open_104 (by decide) ?_
              have he := (Option.some.inj hm)
              cases he
              exact rt_i hx hb hr hlk (by decide) hst rfl d_M_open_105
            · have hm := it_f hm h31
              refine lv_aload_n hx hb d_M_open_77 rfl (lv_at hl 2 rfl) ?_
              refine ro_geta hx hb hown hG hg cM hst 12 4 (by decide) rfl rfl k_1026 d_M_open_78 ?_
              refine lv_iload_n hx hb d_M_open_81 rfl (lv_at hl 0 rfl) ?_
              obtain ⟨hn32, hm⟩ := gd_u hm
              refine ro_iald hx hb hg hst 4 rfl hn32 d_M_open_82 ?_
              refine lv_topi (fun x33 ex33 => ?_)
              have hm := lt_u hm x33 ex33
              refine lv_bipush (v := 60) hx hb d_M_open_83 (by decide) ?_
              refine lv_icmp_gt (tgt := 104) hx hb d_M_open_85 (by decide) (fun h34 => ?_) (fun h34 => ?_)
              · have hm := it_t hm h34
                refine lv_iconst (v := 0) hx hb d_M_open_104 (by decide) ?_
                have he := (Option.some.inj hm)
                cases he
                exact rt_i hx hb hr hlk (by decide) hst rfl d_M_open_105
              · have hm := it_f hm h34
                refine lv_aload_n hx hb d_M_open_88 rfl (lv_at hl 2 rfl) ?_
                refine ro_geti hx hb hown hG hg cM hst 22 (by decide) rfl rfl k_1036 d_M_open_89 ?_
                refine lv_iconst (v := 3) hx hb d_M_open_92 (by decide) ?_
                refine lv_icmp_eq (tgt := 104) hx hb d_M_open_93 (by decide) (fun h35 => ?_) (fun h35 => ?_)
                · have hm := it_t hm h35
                  refine lv_iconst (v := 0) hx hb d_M_open_104 (by decide) ?_
                  have he := (Option.some.inj hm)
                  cases he
                  exact rt_i hx hb hr hlk (by decide) hst rfl d_M_open_105
                · have hm := it_f hm h35
                  refine lv_aload_n hx hb d_M_open_96 rfl (lv_at hl 2 rfl) ?_
                  refine lv_iload_n hx hb d_M_open_97 rfl (lv_at hl 1 rfl) ?_
                  obtain ⟨x37, hc38, hm⟩ := bd_u hm
                  refine cl_vi hx hb hml hown hG hg (cM_documentOf l dC dI tk A h L g a rw n x2 _ hc38) (cw_v 1 hG k_1255 k_1257 s_48 k_14 k_1258 (by decide +kernel) ⟨by decide, by decide⟩) hst rfl oW_0 rfl hl.1 rfl (Nat.le_of_ble_eq_true rfl) ⟨Nat.le_refl 0, Nat.le_refl 0⟩ d_M_open_98 (fun H locs hst => ?_)
                  refine lv_if_lt (tgt := 106) hx hb d_M_open_101 (by decide) (fun h39 => ?_) (fun h39 => ?_)
                  · have hm := it_t hm h39
                    refine lv_aload_n hx hb d_M_open_106 rfl (lv_at hl 2 rfl) ?_
                    refine ro_geti hx hb hown hG hg cM hst 22 (by decide) rfl rfl k_1036 d_M_open_107 ?_
                    refine lv_istore (lv' := [(4, .int (g 22)), (3, .int x5), (2, .int x2), (0, .ref h), (1, .int v1)]) hx hb d_M_open_110 hl (by decide) rfl (fun ls hl => ?_)
                    refine lv_aload_n hx hb d_M_open_112 rfl (lv_at hl 3 rfl) ?_
                    refine ro_geta hx hb hown hG hg cM hst 23 10 (by decide) rfl rfl k_1037 d_M_open_113 ?_
                    refine lv_iload hx hb d_M_open_116 (lv_at hl 0 rfl) ?_
                    refine lv_aload_n hx hb d_M_open_118 rfl (lv_at hl 3 rfl) ?_
                    refine ro_geta hx hb hown hG hg cM hst 12 4 (by decide) rfl rfl k_1026 d_M_open_119 ?_
                    refine lv_iload_n hx hb d_M_open_122 rfl (lv_at hl 2 rfl) ?_
                    obtain ⟨hn40, hm⟩ := gd_u hm
                    refine ro_iald hx hb hg hst 4 rfl hn40 d_M_open_123 ?_
                    refine lv_topi (fun x41 ex41 => ?_)
                    have hm := lt_u hm x41 ex41
                    obtain ⟨hn42, hm⟩ := gd_u hm
                    refine ro_iast hx hb hg hst 10 rfl hn42 d_M_open_124 (fun a43 H locs ea43 hst => ?_)
                    have hm := lt_u hm a43 ea43
                    refine lv_iconst (v := 0) hx hb d_M_open_125 (by decide) ?_
                    refine lv_istore (lv' := [(5, .int 0), (4, .int (g 22)), (3, .int x5), (2, .int x2), (0, .ref h), (1, .int v1)]) hx hb d_M_open_126 hl (by decide) rfl (fun ls hl => ?_)
                    obtain ⟨qJ44, hm, hLJ44, hR45⟩ := jn_u hm
                    have hJ44 : ∀ (a46 : aA), qJ44 = .inl a46 → ∀ (H : Heap) (locs : List Loc) (ls : Array Slot), lv_has ls 6 [(0, .ref h), (1, .int v1), (2, .int x2), (3, .int x5), (4, .int (g 22))] → St dC dI A s.heap H locs (oW 0 h ksM spM tk L g a46 rw) → W p l e (rmo 2 46) s m args below meth c H locs 0 0 (MQ below (QI dC dI A r0 (oW 0 h ksM spM tk L g0 a0 rw)) args s 0 0 A) (F0 m 171 ls []) := by
                      intro a46 hq H locs ls hl hst
                      have hm := hLJ44 _ hq
                      refine lv_aload_n hx hb d_M_open_171 rfl (lv_at hl 0 rfl) ?_
                      refine ro_geta hx hb hown hG hg cM hst 25 12 (by decide) rfl rfl k_1039 d_M_open_172 ?_
                      refine lv_iload hx hb d_M_open_175 (lv_at hl 4 rfl) ?_
                      refine lv_aload_n hx hb d_M_open_177 rfl (lv_at hl 0 rfl) ?_
                      refine ro_geta hx hb hown hG hg cM hst 10 2 (by decide) rfl rfl k_1024 d_M_open_178 ?_
                      refine lv_aload_n hx hb d_M_open_181 rfl (lv_at hl 0 rfl) ?_
                      refine lv_iload_n hx hb d_M_open_182 rfl (lv_at hl 1 rfl) ?_
                      refine lv_iconst (v := 1) hx hb d_M_open_183 (by decide) ?_
                      obtain ⟨x49, hc50, hm⟩ := bd_u hm
                      refine cl_vi hx hb hml hown hG hg (cM_item l dC dI tk A h L g a46 rw n v1 1 _ hc50) (cw_v 2 hG k_1251 k_1253 s_47 k_14 k_1254 (by decide +kernel) ⟨by decide, by decide⟩) hst rfl oW_0 rfl hl.1 rfl (Nat.le_of_ble_eq_true rfl) ⟨Nat.le_refl 0, Nat.le_refl 0⟩ d_M_open_184 (fun H locs hst => ?_)
                      obtain ⟨hn51, hm⟩ := gd_u hm
                      refine ro_iald hx hb hg hst 2 rfl hn51 d_M_open_187 ?_
                      refine lv_topi (fun x52 ex52 => ?_)
                      have hm := lt_u hm x52 ex52
                      obtain ⟨hn53, hm⟩ := gd_u hm
                      refine ro_iast hx hb hg hst 12 rfl hn53 d_M_open_188 (fun a54 H locs ea54 hst => ?_)
                      have hm := lt_u hm a54 ea54
                      refine lv_aload_n hx hb d_M_open_189 rfl (lv_at hl 0 rfl) ?_
                      refine ro_geta hx hb hown hG hg cM hst 26 13 (by decide) rfl rfl k_1040 d_M_open_190 ?_
                      refine lv_iload hx hb d_M_open_193 (lv_at hl 4 rfl) ?_
                      refine lv_aload_n hx hb d_M_open_195 rfl (lv_at hl 0 rfl) ?_
                      refine ro_geta hx hb hown hG hg cM hst 12 4 (by decide) rfl rfl k_1026 d_M_open_196 ?_
                      refine lv_iload_n hx hb d_M_open_199 rfl (lv_at hl 3 rfl) ?_
                      obtain ⟨hn55, hm⟩ := gd_u hm
                      refine ro_iald hx hb hg hst 4 rfl hn55 d_M_open_200 ?_
                      refine lv_topi (fun x56 ex56 => ?_)
                      have hm := lt_u hm x56 ex56
                      obtain ⟨hn57, hm⟩ := gd_u hm
                      refine ro_iast hx hb hg hst 13 rfl hn57 d_M_open_201 (fun a58 H locs ea58 hst => ?_)
                      have hm := lt_u hm a58 ea58
                      refine lv_iconst (v := 0) hx hb d_M_open_202 (by decide) ?_
                      refine lv_istore (lv' := [(5, .int 0), (0, .ref h), (1, .int v1), (2, .int x2), (3, .int x5), (4, .int (g 22))]) hx hb d_M_open_203 hl (by decide) rfl (fun ls hl => ?_)
                      obtain ⟨qJ59, hm, hLJ59, hR60⟩ := jn_u hm
                      have hJ59 : ∀ (a61 : aA), qJ59 = .inl a61 → ∀ (H : Heap) (locs : List Loc) (ls : Array Slot), lv_has ls 6 [(0, .ref h), (1, .int v1), (2, .int x2), (3, .int x5), (4, .int (g 22))] → St dC dI A s.heap H locs (oW 0 h ksM spM tk L g a61 rw) → W p l e (rmo 2 46) s m args below meth c H locs 0 0 (MQ below (QI dC dI A r0 (oW 0 h ksM spM tk L g0 a0 rw)) args s 0 0 A) (F0 m 249 ls []) := by
                        intro a61 hq H locs ls hl hst
                        have hm := hLJ59 _ hq
                        refine lv_aload_n hx hb d_M_open_249 rfl (lv_at hl 0 rfl) ?_
                        refine lv_dup hx hb d_M_open_250 rfl ?_
                        refine ro_geti hx hb hown hG hg cM hst 22 (by decide) rfl rfl k_1036 d_M_open_251 ?_
                        refine lv_iconst (v := 1) hx hb d_M_open_254 (by decide) ?_
                        refine lv_iadd hx hb d_M_open_255 ?_
                        refine ro_puti hx hb hown hG hg cM hst 22 (by decide) rfl rfl rfl rfl rfl k_1036 d_M_open_256 (fun g63 H locs eg63 hst => ?_)
                        have hm := lt_u hm g63 eg63
                        refine lv_iconst (v := 1) hx hb d_M_open_259 (by decide) ?_
                        have he := (Option.some.inj hm)
                        cases he
                        exact rt_i hx hb hr hlk (by decide) hst rfl d_M_open_260
                      refine lp_u (fun q66 : Int32 × aA => ∀ (H : Heap) (locs : List Loc) (ls : Array Slot), lv_has ls 6 [(0, .ref h), (1, .int v1), (2, .int x2), (3, .int x5), (4, .int (g 22)), (5, .int q66.1)] → St dC dI A s.heap H locs (oW 0 h ksM spM tk L g q66.2 rw) → W p l e (rmo 2 46) s m args below meth c H locs 0 0 (MQ below (QI dC dI A r0 (oW 0 h ksM spM tk L g0 a0 rw)) args s 0 0 A) (F0 m 205 ls [])) ?_ n (0, a58) hm _ _ _ (lv_sub hl [1, 2, 3, 4, 5, 0] rfl) hst
                      rintro ⟨x64, a65⟩ r69 hm hJ670 hR68 H locs ls hl hst
                      dsimp only at hm hl hst ⊢
                      have hJ67 := fun y0 y1 (e : r69 = .inl (y0, y1)) => hJ670 (y0, y1) e
                      dsimp only at hJ67
                      refine lv_iload hx hb d_M_open_205 (lv_at hl 5 rfl) ?_
                      refine lv_aload_n hx hb d_M_open_207 rfl (lv_at hl 0 rfl) ?_
                      refine ro_geta hx hb hown hG hg cM hst 12 4 (by decide) rfl rfl k_1026 d_M_open_208 ?_
                      refine lv_iload_n hx hb d_M_open_211 rfl (lv_at hl 3 rfl) ?_
                      obtain ⟨hn70, hm⟩ := gd_u hm
                      refine ro_iald hx hb hg hst 4 rfl hn70 d_M_open_212 ?_
                      refine lv_topi (fun x71 ex71 => ?_)
                      have hm := lt_u hm x71 ex71
                      refine lv_icmp_ge (tgt := 249) hx hb d_M_open_213 (by decide) (fun h72 => ?_) (fun h72 => ?_)
                      · have hm := it_t hm h72
                        exact hJ59 a65 (hR68 _ (Option.some.inj hm).symm).symm _ _ _ (lv_sub hl [0, 1, 2, 3, 4] rfl) hst
                      · have hm := it_f hm h72
                        refine lv_aload_n hx hb d_M_open_216 rfl (lv_at hl 0 rfl) ?_
                        refine ro_geta hx hb hown hG hg cM hst 27 14 (by decide) rfl rfl k_1041 d_M_open_217 ?_
                        refine lv_bipush (v := 60) hx hb d_M_open_220 (by decide) ?_
                        refine lv_iload hx hb d_M_open_222 (lv_at hl 4 rfl) ?_
                        refine lv_imul hx hb d_M_open_224 ?_
                        refine lv_iload hx hb d_M_open_225 (lv_at hl 5 rfl) ?_
                        refine lv_iadd hx hb d_M_open_227 ?_
                        refine lv_aload_n hx hb d_M_open_228 rfl (lv_at hl 0 rfl) ?_
                        refine ro_geta hx hb hown hG hg cM hst 16 8 (by decide) rfl rfl k_1030 d_M_open_229 ?_
                        refine lv_aload_n hx hb d_M_open_232 rfl (lv_at hl 0 rfl) ?_
                        refine ro_geta hx hb hown hG hg cM hst 11 3 (by decide) rfl rfl k_1025 d_M_open_233 ?_
                        refine lv_iload_n hx hb d_M_open_236 rfl (lv_at hl 3 rfl) ?_
                        obtain ⟨hn73, hm⟩ := gd_u hm
                        refine ro_iald hx hb hg hst 3 rfl hn73 d_M_open_237 ?_
                        refine lv_topi (fun x74 ex74 => ?_)
                        have hm := lt_u hm x74 ex74
                        refine lv_iload hx hb d_M_open_238 (lv_at hl 5 rfl) ?_
                        refine lv_iadd hx hb d_M_open_240 ?_
                        obtain ⟨hn75, hm⟩ := gd_u hm
                        refine ro_iald hx hb hg hst 8 rfl hn75 d_M_open_241 ?_
                        refine lv_topi (fun x76 ex76 => ?_)
                        have hm := lt_u hm x76 ex76
                        obtain ⟨hn77, hm⟩ := gd_u hm
                        refine ro_iast hx hb hg hst 14 rfl hn77 d_M_open_242 (fun a78 H locs ea78 hst => ?_)
                        have hm := lt_u hm a78 ea78
                        refine lv_iinc (k := 5) (v := (x64 + 1)) (lv' := [(5, .int (x64 + 1)), (0, .ref h), (1, .int v1), (2, .int x2), (3, .int x5), (4, .int (g 22))]) hx hb d_M_open_243 hl rfl (by rfl) (by decide) rfl (fun ls hl => ?_)
                        refine lv_goto (tgt := 205) hx hb d_M_open_246 (by decide) ?_
                        exact hJ67 (x64 + 1) a78 (Option.some.inj hm).symm _ _ _ (lv_sub hl [1, 2, 3, 4, 5, 0] rfl) hst
                    refine lp_u (fun q81 : Int32 × aA => ∀ (H : Heap) (locs : List Loc) (ls : Array Slot), lv_has ls 6 [(0, .ref h), (1, .int v1), (2, .int x2), (3, .int x5), (4, .int (g 22)), (5, .int q81.1)] → St dC dI A s.heap H locs (oW 0 h ksM spM tk L g q81.2 rw) → W p l e (rmo 2 46) s m args below meth c H locs 0 0 (MQ below (QI dC dI A r0 (oW 0 h ksM spM tk L g0 a0 rw)) args s 0 0 A) (F0 m 128 ls [])) ?_ n (0, a43) hm _ _ _ (lv_sub hl [4, 5, 3, 2, 1, 0] rfl) hst
                    rintro ⟨x79, a80⟩ r84 hm hJ820 hR83 H locs ls hl hst
                    dsimp only at hm hl hst ⊢
                    have hJ82 := fun y0 y1 (e : r84 = .inl (y0, y1)) => hJ820 (y0, y1) e
                    dsimp only at hJ82
                    refine lv_iload hx hb d_M_open_128 (lv_at hl 5 rfl) ?_
                    refine lv_aload_n hx hb d_M_open_130 rfl (lv_at hl 0 rfl) ?_
                    refine ro_geta hx hb hown hG hg cM hst 12 4 (by decide) rfl rfl k_1026 d_M_open_131 ?_
                    refine lv_iload_n hx hb d_M_open_134 rfl (lv_at hl 2 rfl) ?_
                    obtain ⟨hn85, hm⟩ := gd_u hm
                    refine ro_iald hx hb hg hst 4 rfl hn85 d_M_open_135 ?_
                    refine lv_topi (fun x86 ex86 => ?_)
                    have hm := lt_u hm x86 ex86
                    refine lv_icmp_ge (tgt := 171) hx hb d_M_open_136 (by decide) (fun h87 => ?_) (fun h87 => ?_)
                    · have hm := it_t hm h87
                      exact hJ44 a80 (hR83 _ (Option.some.inj hm).symm).symm _ _ _ (lv_sub hl [0, 1, 2, 3, 4] rfl) hst
                    · have hm := it_f hm h87
                      refine lv_aload_n hx hb d_M_open_139 rfl (lv_at hl 0 rfl) ?_
                      refine ro_geta hx hb hown hG hg cM hst 24 11 (by decide) rfl rfl k_1038 d_M_open_140 ?_
                      refine lv_iconst (v := 4) hx hb d_M_open_143 (by decide) ?_
                      refine lv_iload hx hb d_M_open_144 (lv_at hl 4 rfl) ?_
                      refine lv_imul hx hb d_M_open_146 ?_
                      refine lv_iload hx hb d_M_open_147 (lv_at hl 5 rfl) ?_
                      refine lv_iadd hx hb d_M_open_149 ?_
                      refine lv_aload_n hx hb d_M_open_150 rfl (lv_at hl 0 rfl) ?_
                      refine ro_geta hx hb hown hG hg cM hst 16 8 (by decide) rfl rfl k_1030 d_M_open_151 ?_
                      refine lv_aload_n hx hb d_M_open_154 rfl (lv_at hl 0 rfl) ?_
                      refine ro_geta hx hb hown hG hg cM hst 11 3 (by decide) rfl rfl k_1025 d_M_open_155 ?_
                      refine lv_iload_n hx hb d_M_open_158 rfl (lv_at hl 2 rfl) ?_
                      obtain ⟨hn88, hm⟩ := gd_u hm
                      refine ro_iald hx hb hg hst 3 rfl hn88 d_M_open_159 ?_
                      refine lv_topi (fun x89 ex89 => ?_)
                      have hm := lt_u hm x89 ex89
                      refine lv_iload hx hb d_M_open_160 (lv_at hl 5 rfl) ?_
                      refine lv_iadd hx hb d_M_open_162 ?_
                      obtain ⟨hn90, hm⟩ := gd_u hm
                      refine ro_iald hx hb hg hst 8 rfl hn90 d_M_open_163 ?_
                      refine lv_topi (fun x91 ex91 => ?_)
                      have hm := lt_u hm x91 ex91
                      obtain ⟨hn92, hm⟩ := gd_u hm
                      refine ro_iast hx hb hg hst 11 rfl hn92 d_M_open_164 (fun a93 H locs ea93 hst => ?_)
                      have hm := lt_u hm a93 ea93
                      refine lv_iinc (k := 5) (v := (x79 + 1)) (lv' := [(5, .int (x79 + 1)), (0, .ref h), (1, .int v1), (2, .int x2), (3, .int x5), (4, .int (g 22))]) hx hb d_M_open_165 hl rfl (by rfl) (by decide) rfl (fun ls hl => ?_)
                      refine lv_goto (tgt := 128) hx hb d_M_open_168 (by decide) ?_
                      exact hJ82 (x79 + 1) a93 (Option.some.inj hm).symm _ _ _ (lv_sub hl [1, 2, 3, 4, 5, 0] rfl) hst
                  · have hm := it_f hm h39
                    refine lv_iconst (v := 0) hx hb d_M_open_104 (by decide) ?_
                    have he := (Option.some.inj hm)
                    cases he
                    exact rt_i hx hb hr hlk (by decide) hst rfl d_M_open_105
        · have hm := it_t hm h25
          refine lv_iconst (v := 0) hx hb d_M_open_55 (by decide) ?_
          have he := (Option.some.inj hm)
          cases he
          exact rt_i hx hb hr hlk (by decide) hst rfl d_M_open_56
def mM_notice (n : Nat) (v1 : Int32) (v2 : Int32) (g : aG) (a : aA) : Option (aG × aA) := bd (mM_says n v1 101 120 105 116 0 0 g a) (fun x2 => if x2 = 0 then (if (g 0) = 1 then (bd (mM_isSort n v2 3 g a) (fun x7 => jn (α := Int32 × aG × aA) (if x7 = 0 then (some (.inl (0, g, a))) else (bd (mM_says n v1 111 112 101 110 0 0 g a) (fun x71 => if x71 = 0 then (some (.inl (0, g, a))) else (bd (mM_open n v2 g a) (fun q74 => if q74.1 = 0 then (lt (va_up q74.2.1 30 ((q74.2.1 30) + 1)) (fun g80 => some (.inr ((g80, q74.2.2))))) else (some (.inr ((q74.2.1, q74.2.2))))))))) (fun q14 => jn (α := Int32 × aG × aA) (if x7 = 0 then (some (.inl (q14.1, q14.2.1, q14.2.2))) else (bd (mM_says n v1 99 108 111 115 101 0 q14.2.1 q14.2.2) (fun x59 => if x59 = 0 then (some (.inl (q14.1, q14.2.1, q14.2.2))) else (bd (mM_close n v2 q14.2.1 q14.2.2) (fun q62 => if q62.1 = 0 then (lt (va_up q62.2.1 30 ((q62.2.1 30) + 1)) (fun g68 => some (.inr ((g68, q62.2.2))))) else (some (.inr ((q62.2.1, q62.2.2))))))))) (fun q20 => jn (α := Int32 × aG × aA) (if x7 = 0 then (some (.inl (q20.1, q20.2.1, q20.2.2))) else (bd (mM_says n v1 99 104 97 110 103 101 q20.2.1 q20.2.2) (fun x47 => if x47 = 0 then (some (.inl (q20.1, q20.2.1, q20.2.2))) else (bd (mM_change n v2 q20.2.1 q20.2.2) (fun q50 => if q50.1 = 0 then (lt (va_up q50.2.1 30 ((q50.2.1 30) + 1)) (fun g56 => some (.inr ((g56, q50.2.2))))) else (some (.inr ((q50.2.1, q50.2.2))))))))) (fun q26 => jn (α := Int32 × aG × aA) (if x7 = 0 then (some (.inl (q26.1, q26.2.1, q26.2.2))) else (bd (mM_says n v1 99 97 110 99 101 108 q26.2.1 q26.2.2) (fun x37 => if x37 = 0 then (some (.inl (q26.1, q26.2.1, q26.2.2))) else (bd (mM_cancel n v2 q26.2.1 q26.2.2) (fun q40 => some (.inl (q40.1, q40.2.1, q40.2.2))))))) (fun q32 => if q32.1 = 0 then (lt (va_up q32.2.1 30 ((q32.2.1 30) + 1)) (fun g34 => some ((g34, q32.2.2)))) else (some ((q32.2.1, q32.2.2))))))))) else (some ((g, a)))) else (if (g 0) = 2 then (lt (va_up g 1 0) (fun g84 => lt (va_up g84 0 3) (fun g85 => some ((g85, a))))) else (lt (va_up g 1 1) (fun g82 => lt (va_up g82 0 3) (fun g83 => some ((g83, a)))))))
theorem d_M_notice_0 : decode prog_11_method_30_code 0 = .ok (.aload_n 0, 1) := by decide +kernel
theorem d_M_notice_1 : decode prog_11_method_30_code 1 = .ok (.iload_n 1, 1) := by decide +kernel
theorem d_M_notice_2 : decode prog_11_method_30_code 2 = .ok (.bipush 101, 2) := by decide +kernel
theorem d_M_notice_4 : decode prog_11_method_30_code 4 = .ok (.bipush 120, 2) := by decide +kernel
theorem d_M_notice_6 : decode prog_11_method_30_code 6 = .ok (.bipush 105, 2) := by decide +kernel
theorem d_M_notice_8 : decode prog_11_method_30_code 8 = .ok (.bipush 116, 2) := by decide +kernel
theorem d_M_notice_10 : decode prog_11_method_30_code 10 = .ok (.iconst 0, 1) := by decide +kernel
theorem d_M_notice_11 : decode prog_11_method_30_code 11 = .ok (.iconst 0, 1) := by decide +kernel
theorem d_M_notice_12 : decode prog_11_method_30_code 12 = .ok (.invokevirtual 206, 3) := by decide +kernel
theorem d_M_notice_15 : decode prog_11_method_30_code 15 = .ok (.ifCond .eq 26, 3) := by decide +kernel
theorem d_M_notice_18 : decode prog_11_method_30_code 18 = .ok (.aload_n 0, 1) := by decide +kernel
theorem d_M_notice_19 : decode prog_11_method_30_code 19 = .ok (.aload_n 0, 1) := by decide +kernel
theorem d_M_notice_20 : decode prog_11_method_30_code 20 = .ok (.getfield 96, 3) := by decide +kernel
theorem d_M_notice_23 : decode prog_11_method_30_code 23 = .ok (.iconst 2, 1) := by decide +kernel
theorem d_M_notice_24 : decode prog_11_method_30_code 24 = .ok (.if_icmp .ne 7, 3) := by decide +kernel
theorem d_M_notice_27 : decode prog_11_method_30_code 27 = .ok (.iconst 0, 1) := by decide +kernel
theorem d_M_notice_28 : decode prog_11_method_30_code 28 = .ok (.goto 4, 3) := by decide +kernel
theorem d_M_notice_31 : decode prog_11_method_30_code 31 = .ok (.iconst 1, 1) := by decide +kernel
theorem d_M_notice_32 : decode prog_11_method_30_code 32 = .ok (.putfield 231, 3) := by decide +kernel
theorem d_M_notice_35 : decode prog_11_method_30_code 35 = .ok (.aload_n 0, 1) := by decide +kernel
theorem d_M_notice_36 : decode prog_11_method_30_code 36 = .ok (.iconst 3, 1) := by decide +kernel
theorem d_M_notice_37 : decode prog_11_method_30_code 37 = .ok (.putfield 96, 3) := by decide +kernel
theorem d_M_notice_40 : decode prog_11_method_30_code 40 = .ok (.return_, 1) := by decide +kernel
theorem d_M_notice_41 : decode prog_11_method_30_code 41 = .ok (.aload_n 0, 1) := by decide +kernel
theorem d_M_notice_42 : decode prog_11_method_30_code 42 = .ok (.getfield 96, 3) := by decide +kernel
theorem d_M_notice_45 : decode prog_11_method_30_code 45 = .ok (.iconst 1, 1) := by decide +kernel
theorem d_M_notice_46 : decode prog_11_method_30_code 46 = .ok (.if_icmp .eq 4, 3) := by decide +kernel
theorem d_M_notice_49 : decode prog_11_method_30_code 49 = .ok (.return_, 1) := by decide +kernel
theorem d_M_notice_50 : decode prog_11_method_30_code 50 = .ok (.aload_n 0, 1) := by decide +kernel
theorem d_M_notice_51 : decode prog_11_method_30_code 51 = .ok (.iload_n 2, 1) := by decide +kernel
theorem d_M_notice_52 : decode prog_11_method_30_code 52 = .ok (.iconst 3, 1) := by decide +kernel
theorem d_M_notice_53 : decode prog_11_method_30_code 53 = .ok (.invokevirtual 188, 3) := by decide +kernel
theorem d_M_notice_56 : decode prog_11_method_30_code 56 = .ok (.istore_n 3, 1) := by decide +kernel
theorem d_M_notice_57 : decode prog_11_method_30_code 57 = .ok (.iconst 0, 1) := by decide +kernel
theorem d_M_notice_58 : decode prog_11_method_30_code 58 = .ok (.istore 4, 2) := by decide +kernel
theorem d_M_notice_60 : decode prog_11_method_30_code 60 = .ok (.iload_n 3, 1) := by decide +kernel
theorem d_M_notice_61 : decode prog_11_method_30_code 61 = .ok (.ifCond .eq 31, 3) := by decide +kernel
theorem d_M_notice_64 : decode prog_11_method_30_code 64 = .ok (.aload_n 0, 1) := by decide +kernel
theorem d_M_notice_65 : decode prog_11_method_30_code 65 = .ok (.iload_n 1, 1) := by decide +kernel
theorem d_M_notice_66 : decode prog_11_method_30_code 66 = .ok (.bipush 111, 2) := by decide +kernel
theorem d_M_notice_68 : decode prog_11_method_30_code 68 = .ok (.bipush 112, 2) := by decide +kernel
theorem d_M_notice_70 : decode prog_11_method_30_code 70 = .ok (.bipush 101, 2) := by decide +kernel
theorem d_M_notice_72 : decode prog_11_method_30_code 72 = .ok (.bipush 110, 2) := by decide +kernel
theorem d_M_notice_74 : decode prog_11_method_30_code 74 = .ok (.iconst 0, 1) := by decide +kernel
theorem d_M_notice_75 : decode prog_11_method_30_code 75 = .ok (.iconst 0, 1) := by decide +kernel
theorem d_M_notice_76 : decode prog_11_method_30_code 76 = .ok (.invokevirtual 206, 3) := by decide +kernel
theorem d_M_notice_79 : decode prog_11_method_30_code 79 = .ok (.ifCond .eq 13, 3) := by decide +kernel
theorem d_M_notice_82 : decode prog_11_method_30_code 82 = .ok (.aload_n 0, 1) := by decide +kernel
theorem d_M_notice_83 : decode prog_11_method_30_code 83 = .ok (.iload_n 2, 1) := by decide +kernel
theorem d_M_notice_84 : decode prog_11_method_30_code 84 = .ok (.invokevirtual 234, 3) := by decide +kernel
theorem d_M_notice_87 : decode prog_11_method_30_code 87 = .ok (.istore 4, 2) := by decide +kernel
theorem d_M_notice_89 : decode prog_11_method_30_code 89 = .ok (.goto 101, 3) := by decide +kernel
theorem d_M_notice_92 : decode prog_11_method_30_code 92 = .ok (.iload_n 3, 1) := by decide +kernel
theorem d_M_notice_93 : decode prog_11_method_30_code 93 = .ok (.ifCond .eq 32, 3) := by decide +kernel
theorem d_M_notice_96 : decode prog_11_method_30_code 96 = .ok (.aload_n 0, 1) := by decide +kernel
theorem d_M_notice_97 : decode prog_11_method_30_code 97 = .ok (.iload_n 1, 1) := by decide +kernel
theorem d_M_notice_98 : decode prog_11_method_30_code 98 = .ok (.bipush 99, 2) := by decide +kernel
theorem d_M_notice_100 : decode prog_11_method_30_code 100 = .ok (.bipush 108, 2) := by decide +kernel
theorem d_M_notice_102 : decode prog_11_method_30_code 102 = .ok (.bipush 111, 2) := by decide +kernel
theorem d_M_notice_104 : decode prog_11_method_30_code 104 = .ok (.bipush 115, 2) := by decide +kernel
theorem d_M_notice_106 : decode prog_11_method_30_code 106 = .ok (.bipush 101, 2) := by decide +kernel
theorem d_M_notice_108 : decode prog_11_method_30_code 108 = .ok (.iconst 0, 1) := by decide +kernel
theorem d_M_notice_109 : decode prog_11_method_30_code 109 = .ok (.invokevirtual 206, 3) := by decide +kernel
theorem d_M_notice_112 : decode prog_11_method_30_code 112 = .ok (.ifCond .eq 13, 3) := by decide +kernel
theorem d_M_notice_115 : decode prog_11_method_30_code 115 = .ok (.aload_n 0, 1) := by decide +kernel
theorem d_M_notice_116 : decode prog_11_method_30_code 116 = .ok (.iload_n 2, 1) := by decide +kernel
theorem d_M_notice_117 : decode prog_11_method_30_code 117 = .ok (.invokevirtual 236, 3) := by decide +kernel
theorem d_M_notice_120 : decode prog_11_method_30_code 120 = .ok (.istore 4, 2) := by decide +kernel
theorem d_M_notice_122 : decode prog_11_method_30_code 122 = .ok (.goto 68, 3) := by decide +kernel
theorem d_M_notice_125 : decode prog_11_method_30_code 125 = .ok (.iload_n 3, 1) := by decide +kernel
theorem d_M_notice_126 : decode prog_11_method_30_code 126 = .ok (.ifCond .eq 33, 3) := by decide +kernel
theorem d_M_notice_129 : decode prog_11_method_30_code 129 = .ok (.aload_n 0, 1) := by decide +kernel
theorem d_M_notice_130 : decode prog_11_method_30_code 130 = .ok (.iload_n 1, 1) := by decide +kernel
theorem d_M_notice_131 : decode prog_11_method_30_code 131 = .ok (.bipush 99, 2) := by decide +kernel
theorem d_M_notice_133 : decode prog_11_method_30_code 133 = .ok (.bipush 104, 2) := by decide +kernel
theorem d_M_notice_135 : decode prog_11_method_30_code 135 = .ok (.bipush 97, 2) := by decide +kernel
theorem d_M_notice_137 : decode prog_11_method_30_code 137 = .ok (.bipush 110, 2) := by decide +kernel
theorem d_M_notice_139 : decode prog_11_method_30_code 139 = .ok (.bipush 103, 2) := by decide +kernel
theorem d_M_notice_141 : decode prog_11_method_30_code 141 = .ok (.bipush 101, 2) := by decide +kernel
theorem d_M_notice_143 : decode prog_11_method_30_code 143 = .ok (.invokevirtual 206, 3) := by decide +kernel
theorem d_M_notice_146 : decode prog_11_method_30_code 146 = .ok (.ifCond .eq 13, 3) := by decide +kernel
theorem d_M_notice_149 : decode prog_11_method_30_code 149 = .ok (.aload_n 0, 1) := by decide +kernel
theorem d_M_notice_150 : decode prog_11_method_30_code 150 = .ok (.iload_n 2, 1) := by decide +kernel
theorem d_M_notice_151 : decode prog_11_method_30_code 151 = .ok (.invokevirtual 239, 3) := by decide +kernel
theorem d_M_notice_154 : decode prog_11_method_30_code 154 = .ok (.istore 4, 2) := by decide +kernel
theorem d_M_notice_156 : decode prog_11_method_30_code 156 = .ok (.goto 34, 3) := by decide +kernel
theorem d_M_notice_159 : decode prog_11_method_30_code 159 = .ok (.iload_n 3, 1) := by decide +kernel
theorem d_M_notice_160 : decode prog_11_method_30_code 160 = .ok (.ifCond .eq 30, 3) := by decide +kernel
theorem d_M_notice_163 : decode prog_11_method_30_code 163 = .ok (.aload_n 0, 1) := by decide +kernel
theorem d_M_notice_164 : decode prog_11_method_30_code 164 = .ok (.iload_n 1, 1) := by decide +kernel
theorem d_M_notice_165 : decode prog_11_method_30_code 165 = .ok (.bipush 99, 2) := by decide +kernel
theorem d_M_notice_167 : decode prog_11_method_30_code 167 = .ok (.bipush 97, 2) := by decide +kernel
theorem d_M_notice_169 : decode prog_11_method_30_code 169 = .ok (.bipush 110, 2) := by decide +kernel
theorem d_M_notice_171 : decode prog_11_method_30_code 171 = .ok (.bipush 99, 2) := by decide +kernel
theorem d_M_notice_173 : decode prog_11_method_30_code 173 = .ok (.bipush 101, 2) := by decide +kernel
theorem d_M_notice_175 : decode prog_11_method_30_code 175 = .ok (.bipush 108, 2) := by decide +kernel
theorem d_M_notice_177 : decode prog_11_method_30_code 177 = .ok (.invokevirtual 206, 3) := by decide +kernel
theorem d_M_notice_180 : decode prog_11_method_30_code 180 = .ok (.ifCond .eq 10, 3) := by decide +kernel
theorem d_M_notice_183 : decode prog_11_method_30_code 183 = .ok (.aload_n 0, 1) := by decide +kernel
theorem d_M_notice_184 : decode prog_11_method_30_code 184 = .ok (.iload_n 2, 1) := by decide +kernel
theorem d_M_notice_185 : decode prog_11_method_30_code 185 = .ok (.invokevirtual 242, 3) := by decide +kernel
theorem d_M_notice_188 : decode prog_11_method_30_code 188 = .ok (.istore 4, 2) := by decide +kernel
theorem d_M_notice_190 : decode prog_11_method_30_code 190 = .ok (.iload 4, 2) := by decide +kernel
theorem d_M_notice_192 : decode prog_11_method_30_code 192 = .ok (.ifCond .ne 13, 3) := by decide +kernel
theorem d_M_notice_195 : decode prog_11_method_30_code 195 = .ok (.aload_n 0, 1) := by decide +kernel
theorem d_M_notice_196 : decode prog_11_method_30_code 196 = .ok (.dup, 1) := by decide +kernel
theorem d_M_notice_197 : decode prog_11_method_30_code 197 = .ok (.getfield 245, 3) := by decide +kernel
theorem d_M_notice_200 : decode prog_11_method_30_code 200 = .ok (.iconst 1, 1) := by decide +kernel
theorem d_M_notice_201 : decode prog_11_method_30_code 201 = .ok (.iadd, 1) := by decide +kernel
theorem d_M_notice_202 : decode prog_11_method_30_code 202 = .ok (.putfield 245, 3) := by decide +kernel
theorem d_M_notice_205 : decode prog_11_method_30_code 205 = .ok (.return_, 1) := by decide +kernel
set_option maxHeartbeats 4000000 in
set_option maxRecDepth 100000 in
theorem cM_notice (l : Launch) (dC : Nat → ClassId) (dI : Nat → Nat → Nat) (tk : Nat → ClassId) (A : Nat → Prop) (h : Nat) (L : Nat → Nat) (g : aG) (a : aA) (rw : va_W) (n : Nat) (v1 : Int32) (v2 : Int32) (g0 : aG) (a0 : aA) (hm : mM_notice n v1 v2 g a = some (g0, a0)) : CtV l dC dI tk A ⟨"EditorServerModel", "notice", "(II)V"⟩ prog_11_method_30_code 5 4 100 [.ref h, .int v1, .int v2] (oW 0 h ksM spM tk L g a rw) (oW 0 h ksM spM tk L g0 a0 rw) := by
  refine ent (by decide) (Nat.le_of_ble_eq_true rfl) ?_
  intro p e s m args below meth c hx hb hr hml hown hlk hG hg hst ls hl
  unfold mM_notice at hm
  have hl : lv_has ls 5 [(0, .ref h), (1, .int v1), (2, .int v2)] := hl
  refine lv_aload_n hx hb d_M_notice_0 rfl (lv_at hl 0 rfl) ?_
  refine lv_iload_n hx hb d_M_notice_1 rfl (lv_at hl 1 rfl) ?_
  refine lv_bipush (v := 101) hx hb d_M_notice_2 (by decide) ?_
  refine lv_bipush (v := 120) hx hb d_M_notice_4 (by decide) ?_
  refine lv_bipush (v := 105) hx hb d_M_notice_6 (by decide) ?_
  refine lv_bipush (v := 116) hx hb d_M_notice_8 (by decide) ?_
  refine lv_iconst (v := 0) hx hb d_M_notice_10 (by decide) ?_
  refine lv_iconst (v := 0) hx hb d_M_notice_11 (by decide) ?_
  obtain ⟨x2, hc3, hm⟩ := bd_u hm
  refine cl_vi hx hb hml hown hG hg (cM_says l dC dI tk A h L g a rw n v1 101 120 105 116 0 0 _ hc3) (cw_v 7 hG k_1239 k_1241 s_44 k_14 k_1242 (by decide +kernel) ⟨by decide, by decide⟩) hst rfl oW_0 rfl hl.1 rfl (Nat.le_of_ble_eq_true rfl) ⟨Nat.le_refl 0, Nat.le_refl 0⟩ d_M_notice_12 (fun H locs hst => ?_)
  refine lv_if_eq (tgt := 41) hx hb d_M_notice_15 (by decide) (fun h4 => ?_) (fun h4 => ?_)
  · have hm := it_t hm h4
    refine lv_aload_n hx hb d_M_notice_41 rfl (lv_at hl 0 rfl) ?_
    refine ro_geti hx hb hown hG hg cM hst 0 (by decide) rfl rfl k_1014 d_M_notice_42 ?_
    refine lv_iconst (v := 1) hx hb d_M_notice_45 (by decide) ?_
    refine lv_icmp_eq (tgt := 50) hx hb d_M_notice_46 (by decide) (fun h5 => ?_) (fun h5 => ?_)
    · have hm := it_t hm h5
      refine lv_aload_n hx hb d_M_notice_50 rfl (lv_at hl 0 rfl) ?_
      refine lv_iload_n hx hb d_M_notice_51 rfl (lv_at hl 2 rfl) ?_
      refine lv_iconst (v := 3) hx hb d_M_notice_52 (by decide) ?_
      obtain ⟨x7, hc8, hm⟩ := bd_u hm
      refine cl_vi hx hb hml hown hG hg (cM_isSort l dC dI tk A h L g a rw n v2 3 _ hc8) (cw_v 2 hG k_1223 k_1225 s_40 k_14 k_1226 (by decide +kernel) ⟨by decide, by decide⟩) hst rfl oW_0 rfl hl.1 rfl (Nat.le_of_ble_eq_true rfl) ⟨Nat.le_refl 0, Nat.le_refl 0⟩ d_M_notice_53 (fun H locs hst => ?_)
      refine lv_istore_n (lv' := [(3, .int x7), (0, .ref h), (1, .int v1), (2, .int v2)]) hx hb d_M_notice_56 rfl hl (by decide) rfl (fun ls hl => ?_)
      refine lv_iconst (v := 0) hx hb d_M_notice_57 (by decide) ?_
      refine lv_istore (lv' := [(4, .int 0), (3, .int x7), (0, .ref h), (1, .int v1), (2, .int v2)]) hx hb d_M_notice_58 hl (by decide) rfl (fun ls hl => ?_)
      refine lv_iload_n hx hb d_M_notice_60 rfl (lv_at hl 1 rfl) ?_
      obtain ⟨qJ9, hm, hLJ9, hR10⟩ := jn_u hm
      have hJ9 : ∀ (x11 : Int32) (g12 : aG) (a13 : aA), qJ9 = .inl (x11, g12, a13) → ∀ (H : Heap) (locs : List Loc) (ls : Array Slot), lv_has ls 5 [(0, .ref h), (1, .int v1), (2, .int v2), (3, .int x7), (4, .int x11)] → St dC dI A s.heap H locs (oW 0 h ksM spM tk L g12 a13 rw) → W p l e (rmo 4 100) s m args below meth c H locs 0 0 (MQ below (QV dC dI A (oW 0 h ksM spM tk L g0 a0 rw)) args s 0 0 A) (F0 m 92 ls []) := by
        intro x11 g12 a13 hq H locs ls hl hst
        have hm := hLJ9 _ hq
        dsimp only at hm
        refine lv_iload_n hx hb d_M_notice_92 rfl (lv_at hl 3 rfl) ?_
        obtain ⟨qJ15, hm, hLJ15, hR16⟩ := jn_u hm
        have hJ15 : ∀ (x17 : Int32) (g18 : aG) (a19 : aA), qJ15 = .inl (x17, g18, a19) → ∀ (H : Heap) (locs : List Loc) (ls : Array Slot), lv_has ls 5 [(0, .ref h), (1, .int v1), (2, .int v2), (3, .int x7), (4, .int x17)] → St dC dI A s.heap H locs (oW 0 h ksM spM tk L g18 a19 rw) → W p l e (rmo 4 100) s m args below meth c H locs 0 0 (MQ below (QV dC dI A (oW 0 h ksM spM tk L g0 a0 rw)) args s 0 0 A) (F0 m 125 ls []) := by
          intro x17 g18 a19 hq H locs ls hl hst
          have hm := hLJ15 _ hq
          dsimp only at hm
          refine lv_iload_n hx hb d_M_notice_125 rfl (lv_at hl 3 rfl) ?_
          obtain ⟨qJ21, hm, hLJ21, hR22⟩ := jn_u hm
          have hJ21 : ∀ (x23 : Int32) (g24 : aG) (a25 : aA), qJ21 = .inl (x23, g24, a25) → ∀ (H : Heap) (locs : List Loc) (ls : Array Slot), lv_has ls 5 [(0, .ref h), (1, .int v1), (2, .int v2), (3, .int x7), (4, .int x23)] → St dC dI A s.heap H locs (oW 0 h ksM spM tk L g24 a25 rw) → W p l e (rmo 4 100) s m args below meth c H locs 0 0 (MQ below (QV dC dI A (oW 0 h ksM spM tk L g0 a0 rw)) args s 0 0 A) (F0 m 159 ls []) := by
            intro x23 g24 a25 hq H locs ls hl hst
            have hm := hLJ21 _ hq
            dsimp only at hm
            refine lv_iload_n hx hb d_M_notice_159 rfl (lv_at hl 3 rfl) ?_
            obtain ⟨qJ27, hm, hLJ27, hR28⟩ := jn_u hm
            have hJ27 : ∀ (x29 : Int32) (g30 : aG) (a31 : aA), qJ27 = .inl (x29, g30, a31) → ∀ (H : Heap) (locs : List Loc) (ls : Array Slot), lv_has ls 5 [(0, .ref h), (1, .int v1), (2, .int v2), (3, .int x7), (4, .int x29)] → St dC dI A s.heap H locs (oW 0 h ksM spM tk L g30 a31 rw) → W p l e (rmo 4 100) s m args below meth c H locs 0 0 (MQ below (QV dC dI A (oW 0 h ksM spM tk L g0 a0 rw)) args s 0 0 A) (F0 m 190 ls []) := by
              intro x29 g30 a31 hq H locs ls hl hst
              have hm := hLJ27 _ hq
              dsimp only at hm
              refine lv_iload hx hb d_M_notice_190 (lv_at hl 4 rfl) ?_
              refine lv_if_ne (tgt := 205) hx hb d_M_notice_192 (by decide) (fun h33 => ?_) (fun h33 => ?_)
              · have hm := it_f hm h33
                have he := (Option.some.inj hm)
                cases he
                exact rt_v hx hb hr hlk hst d_M_notice_205
              · have hm := it_t hm h33
                refine lv_aload_n hx hb d_M_notice_195 rfl (lv_at hl 0 rfl) ?_
                refine lv_dup hx hb d_M_notice_196 rfl ?_
                refine ro_geti hx hb hown hG hg cM hst 30 (by decide) rfl rfl k_1044 d_M_notice_197 ?_
                refine lv_iconst (v := 1) hx hb d_M_notice_200 (by decide) ?_
                refine lv_iadd hx hb d_M_notice_201 ?_
                refine ro_puti hx hb hown hG hg cM hst 30 (by decide) rfl rfl rfl rfl rfl k_1044 d_M_notice_202 (fun g34 H locs eg34 hst => ?_)
                have hm := lt_u hm g34 eg34
                have he := (Option.some.inj hm)
                cases he
                exact rt_v hx hb hr hlk hst d_M_notice_205
            refine lv_if_eq (tgt := 190) hx hb d_M_notice_160 (by decide) (fun h35 => ?_) (fun h35 => ?_)
            · have hm := it_t hm h35
              exact hJ27 x23 g24 a25 (Option.some.inj hm).symm _ _ _ (lv_sub hl [0, 1, 2, 3, 4] rfl) hst
            · have hm := it_f hm h35
              refine lv_aload_n hx hb d_M_notice_163 rfl (lv_at hl 0 rfl) ?_
              refine lv_iload_n hx hb d_M_notice_164 rfl (lv_at hl 1 rfl) ?_
              refine lv_bipush (v := 99) hx hb d_M_notice_165 (by decide) ?_
              refine lv_bipush (v := 97) hx hb d_M_notice_167 (by decide) ?_
              refine lv_bipush (v := 110) hx hb d_M_notice_169 (by decide) ?_
              refine lv_bipush (v := 99) hx hb d_M_notice_171 (by decide) ?_
              refine lv_bipush (v := 101) hx hb d_M_notice_173 (by decide) ?_
              refine lv_bipush (v := 108) hx hb d_M_notice_175 (by decide) ?_
              obtain ⟨x37, hc38, hm⟩ := bd_u hm
              refine cl_vi hx hb hml hown hG hg (cM_says l dC dI tk A h L g24 a25 rw n v1 99 97 110 99 101 108 _ hc38) (cw_v 7 hG k_1239 k_1241 s_44 k_14 k_1242 (by decide +kernel) ⟨by decide, by decide⟩) hst rfl oW_0 rfl hl.1 rfl (Nat.le_of_ble_eq_true rfl) ⟨Nat.le_refl 0, Nat.le_refl 0⟩ d_M_notice_177 (fun H locs hst => ?_)
              refine lv_if_eq (tgt := 190) hx hb d_M_notice_180 (by decide) (fun h39 => ?_) (fun h39 => ?_)
              · have hm := it_t hm h39
                exact hJ27 x23 g24 a25 (Option.some.inj hm).symm _ _ _ (lv_sub hl [0, 1, 2, 3, 4] rfl) hst
              · have hm := it_f hm h39
                refine lv_aload_n hx hb d_M_notice_183 rfl (lv_at hl 0 rfl) ?_
                refine lv_iload_n hx hb d_M_notice_184 rfl (lv_at hl 2 rfl) ?_
                obtain ⟨⟨x41, g42, a43⟩, hc44, hm⟩ := bd_u hm
                dsimp only at hm
                refine cl_vi hx hb hml hown hG hg (cM_cancel l dC dI tk A h L g24 a25 rw n v2 _ _ _ hc44) (cw_v 1 hG k_1290 k_1292 s_55 k_14 k_1293 (by decide +kernel) ⟨by decide, by decide⟩) hst rfl oW_0 rfl hl.1 rfl (Nat.le_of_ble_eq_true rfl) ⟨Nat.le_refl 0, Nat.le_refl 0⟩ d_M_notice_185 (fun H locs hst => ?_)
                refine lv_istore (lv' := [(4, .int x41), (0, .ref h), (1, .int v1), (2, .int v2), (3, .int x7)]) hx hb d_M_notice_188 hl (by decide) rfl (fun ls hl => ?_)
                exact hJ27 x41 g42 a43 (Option.some.inj hm).symm _ _ _ (lv_sub hl [1, 2, 3, 4, 0] rfl) hst
          refine lv_if_eq (tgt := 159) hx hb d_M_notice_126 (by decide) (fun h45 => ?_) (fun h45 => ?_)
          · have hm := it_t hm h45
            exact hJ21 x17 g18 a19 (Option.some.inj hm).symm _ _ _ (lv_sub hl [0, 1, 2, 3, 4] rfl) hst
          · have hm := it_f hm h45
            refine lv_aload_n hx hb d_M_notice_129 rfl (lv_at hl 0 rfl) ?_
            refine lv_iload_n hx hb d_M_notice_130 rfl (lv_at hl 1 rfl) ?_
            refine lv_bipush (v := 99) hx hb d_M_notice_131 (by decide) ?_
            refine lv_bipush (v := 104) hx hb d_M_notice_133 (by decide) ?_
            refine lv_bipush (v := 97) hx hb d_M_notice_135 (by decide) ?_
            refine lv_bipush (v := 110) hx hb d_M_notice_137 (by decide) ?_
            refine lv_bipush (v := 103) hx hb d_M_notice_139 (by decide) ?_
            refine lv_bipush (v := 101) hx hb d_M_notice_141 (by decide) ?_
            obtain ⟨x47, hc48, hm⟩ := bd_u hm
            refine cl_vi hx hb hml hown hG hg (cM_says l dC dI tk A h L g18 a19 rw n v1 99 104 97 110 103 101 _ hc48) (cw_v 7 hG k_1239 k_1241 s_44 k_14 k_1242 (by decide +kernel) ⟨by decide, by decide⟩) hst rfl oW_0 rfl hl.1 rfl (Nat.le_of_ble_eq_true rfl) ⟨Nat.le_refl 0, Nat.le_refl 0⟩ d_M_notice_143 (fun H locs hst => ?_)
            refine lv_if_eq (tgt := 159) hx hb d_M_notice_146 (by decide) (fun h49 => ?_) (fun h49 => ?_)
            · have hm := it_t hm h49
              exact hJ21 x17 g18 a19 (Option.some.inj hm).symm _ _ _ (lv_sub hl [0, 1, 2, 3, 4] rfl) hst
            · have hm := it_f hm h49
              refine lv_aload_n hx hb d_M_notice_149 rfl (lv_at hl 0 rfl) ?_
              refine lv_iload_n hx hb d_M_notice_150 rfl (lv_at hl 2 rfl) ?_
              obtain ⟨⟨x51, g52, a53⟩, hc54, hm⟩ := bd_u hm
              dsimp only at hm
              refine cl_vi hx hb hml hown hG hg (cM_change l dC dI tk A h L g18 a19 rw n v2 _ _ _ hc54) (cw_v 1 hG k_1272 k_1274 s_52 k_14 k_1275 (by decide +kernel) ⟨by decide, by decide⟩) hst rfl oW_0 rfl hl.1 rfl (Nat.le_of_ble_eq_true rfl) ⟨Nat.le_refl 0, Nat.le_refl 0⟩ d_M_notice_151 (fun H locs hst => ?_)
              refine lv_istore (lv' := [(4, .int x51), (0, .ref h), (1, .int v1), (2, .int v2), (3, .int x7)]) hx hb d_M_notice_154 hl (by decide) rfl (fun ls hl => ?_)
              refine lv_goto (tgt := 190) hx hb d_M_notice_156 (by decide) ?_
              refine lv_iload hx hb d_M_notice_190 (lv_at hl 0 rfl) ?_
              refine lv_if_ne (tgt := 205) hx hb d_M_notice_192 (by decide) (fun h55 => ?_) (fun h55 => ?_)
              · have hm := it_f hm h55
                have he := (hR22 _ (Option.some.inj hm).symm)
                cases he
                exact rt_v hx hb hr hlk hst d_M_notice_205
              · have hm := it_t hm h55
                refine lv_aload_n hx hb d_M_notice_195 rfl (lv_at hl 1 rfl) ?_
                refine lv_dup hx hb d_M_notice_196 rfl ?_
                refine ro_geti hx hb hown hG hg cM hst 30 (by decide) rfl rfl k_1044 d_M_notice_197 ?_
                refine lv_iconst (v := 1) hx hb d_M_notice_200 (by decide) ?_
                refine lv_iadd hx hb d_M_notice_201 ?_
                refine ro_puti hx hb hown hG hg cM hst 30 (by decide) rfl rfl rfl rfl rfl k_1044 d_M_notice_202 (fun g56 H locs eg56 hst => ?_)
                have hm := lt_u hm g56 eg56
                have he := (hR22 _ (Option.some.inj hm).symm)
                cases he
                exact rt_v hx hb hr hlk hst d_M_notice_205
        refine lv_if_eq (tgt := 125) hx hb d_M_notice_93 (by decide) (fun h57 => ?_) (fun h57 => ?_)
        · have hm := it_t hm h57
          exact hJ15 x11 g12 a13 (Option.some.inj hm).symm _ _ _ (lv_sub hl [0, 1, 2, 3, 4] rfl) hst
        · have hm := it_f hm h57
          refine lv_aload_n hx hb d_M_notice_96 rfl (lv_at hl 0 rfl) ?_
          refine lv_iload_n hx hb d_M_notice_97 rfl (lv_at hl 1 rfl) ?_
          refine lv_bipush (v := 99) hx hb d_M_notice_98 (by decide) ?_
          refine lv_bipush (v := 108) hx hb d_M_notice_100 (by decide) ?_
          refine lv_bipush (v := 111) hx hb d_M_notice_102 (by decide) ?_
          refine lv_bipush (v := 115) hx hb d_M_notice_104 (by decide) ?_
          refine lv_bipush (v := 101) hx hb d_M_notice_106 (by decide) ?_
          refine lv_iconst (v := 0) hx hb d_M_notice_108 (by decide) ?_
          obtain ⟨x59, hc60, hm⟩ := bd_u hm
          refine cl_vi hx hb hml hown hG hg (cM_says l dC dI tk A h L g12 a13 rw n v1 99 108 111 115 101 0 _ hc60) (cw_v 7 hG k_1239 k_1241 s_44 k_14 k_1242 (by decide +kernel) ⟨by decide, by decide⟩) hst rfl oW_0 rfl hl.1 rfl (Nat.le_of_ble_eq_true rfl) ⟨Nat.le_refl 0, Nat.le_refl 0⟩ d_M_notice_109 (fun H locs hst => ?_)
          refine lv_if_eq (tgt := 125) hx hb d_M_notice_112 (by decide) (fun h61 => ?_) (fun h61 => ?_)
          · have hm := it_t hm h61
            exact hJ15 x11 g12 a13 (Option.some.inj hm).symm _ _ _ (lv_sub hl [0, 1, 2, 3, 4] rfl) hst
          · have hm := it_f hm h61
            refine lv_aload_n hx hb d_M_notice_115 rfl (lv_at hl 0 rfl) ?_
            refine lv_iload_n hx hb d_M_notice_116 rfl (lv_at hl 2 rfl) ?_
            obtain ⟨⟨x63, g64, a65⟩, hc66, hm⟩ := bd_u hm
            dsimp only at hm
            refine cl_vi hx hb hml hown hG hg (cM_close l dC dI tk A h L g12 a13 rw n v2 _ _ _ hc66) (cw_v 1 hG k_1268 k_1270 s_51 k_14 k_1271 (by decide +kernel) ⟨by decide, by decide⟩) hst rfl oW_0 rfl hl.1 rfl (Nat.le_of_ble_eq_true rfl) ⟨Nat.le_refl 0, Nat.le_refl 0⟩ d_M_notice_117 (fun H locs hst => ?_)
            refine lv_istore (lv' := [(4, .int x63), (0, .ref h), (1, .int v1), (2, .int v2), (3, .int x7)]) hx hb d_M_notice_120 hl (by decide) rfl (fun ls hl => ?_)
            refine lv_goto (tgt := 190) hx hb d_M_notice_122 (by decide) ?_
            refine lv_iload hx hb d_M_notice_190 (lv_at hl 0 rfl) ?_
            refine lv_if_ne (tgt := 205) hx hb d_M_notice_192 (by decide) (fun h67 => ?_) (fun h67 => ?_)
            · have hm := it_f hm h67
              have he := (hR16 _ (Option.some.inj hm).symm)
              cases he
              exact rt_v hx hb hr hlk hst d_M_notice_205
            · have hm := it_t hm h67
              refine lv_aload_n hx hb d_M_notice_195 rfl (lv_at hl 1 rfl) ?_
              refine lv_dup hx hb d_M_notice_196 rfl ?_
              refine ro_geti hx hb hown hG hg cM hst 30 (by decide) rfl rfl k_1044 d_M_notice_197 ?_
              refine lv_iconst (v := 1) hx hb d_M_notice_200 (by decide) ?_
              refine lv_iadd hx hb d_M_notice_201 ?_
              refine ro_puti hx hb hown hG hg cM hst 30 (by decide) rfl rfl rfl rfl rfl k_1044 d_M_notice_202 (fun g68 H locs eg68 hst => ?_)
              have hm := lt_u hm g68 eg68
              have he := (hR16 _ (Option.some.inj hm).symm)
              cases he
              exact rt_v hx hb hr hlk hst d_M_notice_205
      refine lv_if_eq (tgt := 92) hx hb d_M_notice_61 (by decide) (fun h69 => ?_) (fun h69 => ?_)
      · have hm := it_t hm h69
        exact hJ9 0 g a (Option.some.inj hm).symm _ _ _ (lv_sub hl [2, 3, 4, 1, 0] rfl) hst
      · have hm := it_f hm h69
        refine lv_aload_n hx hb d_M_notice_64 rfl (lv_at hl 2 rfl) ?_
        refine lv_iload_n hx hb d_M_notice_65 rfl (lv_at hl 3 rfl) ?_
        refine lv_bipush (v := 111) hx hb d_M_notice_66 (by decide) ?_
        refine lv_bipush (v := 112) hx hb d_M_notice_68 (by decide) ?_
        refine lv_bipush (v := 101) hx hb d_M_notice_70 (by decide) ?_
        refine lv_bipush (v := 110) hx hb d_M_notice_72 (by decide) ?_
        refine lv_iconst (v := 0) hx hb d_M_notice_74 (by decide) ?_
        refine lv_iconst (v := 0) hx hb d_M_notice_75 (by decide) ?_
        obtain ⟨x71, hc72, hm⟩ := bd_u hm
        refine cl_vi hx hb hml hown hG hg (cM_says l dC dI tk A h L g a rw n v1 111 112 101 110 0 0 _ hc72) (cw_v 7 hG k_1239 k_1241 s_44 k_14 k_1242 (by decide +kernel) ⟨by decide, by decide⟩) hst rfl oW_0 rfl hl.1 rfl (Nat.le_of_ble_eq_true rfl) ⟨Nat.le_refl 0, Nat.le_refl 0⟩ d_M_notice_76 (fun H locs hst => ?_)
        refine lv_if_eq (tgt := 92) hx hb d_M_notice_79 (by decide) (fun h73 => ?_) (fun h73 => ?_)
        · have hm := it_t hm h73
          exact hJ9 0 g a (Option.some.inj hm).symm _ _ _ (lv_sub hl [2, 3, 4, 1, 0] rfl) hst
        · have hm := it_f hm h73
          refine lv_aload_n hx hb d_M_notice_82 rfl (lv_at hl 2 rfl) ?_
          refine lv_iload_n hx hb d_M_notice_83 rfl (lv_at hl 4 rfl) ?_
          obtain ⟨⟨x75, g76, a77⟩, hc78, hm⟩ := bd_u hm
          dsimp only at hm
          refine cl_vi hx hb hml hown hG hg (cM_open l dC dI tk A h L g a rw n v2 _ _ _ hc78) (cw_v 1 hG k_1264 k_1266 s_50 k_14 k_1267 (by decide +kernel) ⟨by decide, by decide⟩) hst rfl oW_0 rfl hl.1 rfl (Nat.le_of_ble_eq_true rfl) ⟨Nat.le_refl 0, Nat.le_refl 0⟩ d_M_notice_84 (fun H locs hst => ?_)
          refine lv_istore (lv' := [(4, .int x75), (3, .int x7), (0, .ref h), (1, .int v1), (2, .int v2)]) hx hb d_M_notice_87 hl (by decide) rfl (fun ls hl => ?_)
          refine lv_goto (tgt := 190) hx hb d_M_notice_89 (by decide) ?_
          refine lv_iload hx hb d_M_notice_190 (lv_at hl 0 rfl) ?_
          refine lv_if_ne (tgt := 205) hx hb d_M_notice_192 (by decide) (fun h79 => ?_) (fun h79 => ?_)
          · have hm := it_f hm h79
            have he := (hR10 _ (Option.some.inj hm).symm)
            cases he
            exact rt_v hx hb hr hlk hst d_M_notice_205
          · have hm := it_t hm h79
            refine lv_aload_n hx hb d_M_notice_195 rfl (lv_at hl 2 rfl) ?_
            refine lv_dup hx hb d_M_notice_196 rfl ?_
            refine ro_geti hx hb hown hG hg cM hst 30 (by decide) rfl rfl k_1044 d_M_notice_197 ?_
            refine lv_iconst (v := 1) hx hb d_M_notice_200 (by decide) ?_
            refine lv_iadd hx hb d_M_notice_201 ?_
            refine ro_puti hx hb hown hG hg cM hst 30 (by decide) rfl rfl rfl rfl rfl k_1044 d_M_notice_202 (fun g80 H locs eg80 hst => ?_)
            have hm := lt_u hm g80 eg80
            have he := (hR10 _ (Option.some.inj hm).symm)
            cases he
            exact rt_v hx hb hr hlk hst d_M_notice_205
    · have hm := it_f hm h5
      have he := (Option.some.inj hm)
      cases he
      exact rt_v hx hb hr hlk hst d_M_notice_49
  · have hm := it_f hm h4
    refine lv_aload_n hx hb d_M_notice_18 rfl (lv_at hl 0 rfl) ?_
    refine lv_aload_n hx hb d_M_notice_19 rfl (lv_at hl 0 rfl) ?_
    refine ro_geti hx hb hown hG hg cM hst 0 (by decide) rfl rfl k_1014 d_M_notice_20 ?_
    refine lv_iconst (v := 2) hx hb d_M_notice_23 (by decide) ?_
    refine lv_icmp_ne (tgt := 31) hx hb d_M_notice_24 (by decide) (fun h81 => ?_) (fun h81 => ?_)
    · have hm := it_f hm h81
      refine lv_iconst (v := 1) hx hb d_M_notice_31 (by decide) ?_
      refine ro_puti hx hb hown hG hg cM hst 1 (by decide) rfl rfl rfl rfl rfl k_1015 d_M_notice_32 (fun g82 H locs eg82 hst => ?_)
      have hm := lt_u hm g82 eg82
      refine lv_aload_n hx hb d_M_notice_35 rfl (lv_at hl 0 rfl) ?_
      refine lv_iconst (v := 3) hx hb d_M_notice_36 (by decide) ?_
      refine ro_puti hx hb hown hG hg cM hst 0 (by decide) rfl rfl rfl rfl rfl k_1014 d_M_notice_37 (fun g83 H locs eg83 hst => ?_)
      have hm := lt_u hm g83 eg83
      have he := (Option.some.inj hm)
      cases he
      exact rt_v hx hb hr hlk hst d_M_notice_40
    · have hm := it_t hm h81
      refine lv_iconst (v := 0) hx hb d_M_notice_27 (by decide) ?_
      refine lv_goto (tgt := 32) hx hb d_M_notice_28 (by decide) ?_
      refine ro_puti hx hb hown hG hg cM hst 1 (by decide) rfl rfl rfl rfl rfl k_1015 d_M_notice_32 (fun g84 H locs eg84 hst => ?_)
      have hm := lt_u hm g84 eg84
      refine lv_aload_n hx hb d_M_notice_35 rfl (lv_at hl 0 rfl) ?_
      refine lv_iconst (v := 3) hx hb d_M_notice_36 (by decide) ?_
      refine ro_puti hx hb hown hG hg cM hst 0 (by decide) rfl rfl rfl rfl rfl k_1014 d_M_notice_37 (fun g85 H locs eg85 hst => ?_)
      have hm := lt_u hm g85 eg85
      have he := (Option.some.inj hm)
      cases he
      exact rt_v hx hb hr hlk hst d_M_notice_40
def mM_isBlank (n : Nat) (v0 : Int32) : Option (Int32) := if v0 = 32 then (some (1)) else (if v0 = 10 then (some (1)) else (some (0)))
theorem d_M_isBlank_0 : decode prog_11_method_6_code 0 = .ok (.iload_n 0, 1) := by decide +kernel
theorem d_M_isBlank_1 : decode prog_11_method_6_code 1 = .ok (.bipush 32, 2) := by decide +kernel
theorem d_M_isBlank_3 : decode prog_11_method_6_code 3 = .ok (.if_icmp .eq 9, 3) := by decide +kernel
theorem d_M_isBlank_6 : decode prog_11_method_6_code 6 = .ok (.iload_n 0, 1) := by decide +kernel
theorem d_M_isBlank_7 : decode prog_11_method_6_code 7 = .ok (.bipush 10, 2) := by decide +kernel
theorem d_M_isBlank_9 : decode prog_11_method_6_code 9 = .ok (.if_icmp .ne 7, 3) := by decide +kernel
theorem d_M_isBlank_12 : decode prog_11_method_6_code 12 = .ok (.iconst 1, 1) := by decide +kernel
theorem d_M_isBlank_13 : decode prog_11_method_6_code 13 = .ok (.goto 4, 3) := by decide +kernel
theorem d_M_isBlank_16 : decode prog_11_method_6_code 16 = .ok (.iconst 0, 1) := by decide +kernel
theorem d_M_isBlank_17 : decode prog_11_method_6_code 17 = .ok (.ireturn, 1) := by decide +kernel
set_option maxHeartbeats 4000000 in
set_option maxRecDepth 100000 in
theorem cM_isBlank (l : Launch) (dC : Nat → ClassId) (dI : Nat → Nat → Nat) (tk : Nat → ClassId) (A : Nat → Prop) (ws : va_W) (n : Nat) (v0 : Int32) (r0 : Int32) (hm : mM_isBlank n v0 = some r0) : CtI l dC dI tk A ⟨"EditorServerModel", "isBlank", "(I)Z"⟩ prog_11_method_6_code 1 (some .boolean) 0 0 [.int v0] ws r0 ws := by
  refine ent (by decide) (Nat.le_of_ble_eq_true rfl) ?_
  intro p e s m args below meth c hx hb hr hml hown hlk hG hg hst ls hl
  unfold mM_isBlank at hm
  have hl : lv_has ls 1 [(0, .int v0)] := hl
  refine lv_iload_n hx hb d_M_isBlank_0 rfl (lv_at hl 0 rfl) ?_
  refine lv_bipush (v := 32) hx hb d_M_isBlank_1 (by decide) ?_
  refine lv_icmp_eq (tgt := 12) hx hb d_M_isBlank_3 (by decide) (fun h1 => ?_) (fun h1 => ?_)
  · have hm := it_t hm h1
    refine lv_iconst (v := 1) hx hb d_M_isBlank_12 (by decide) ?_
    refine lv_goto (tgt := 17) hx hb d_M_isBlank_13 (by decide) ?_
    have he := (Option.some.inj hm)
    cases he
    exact rt_i hx hb hr hlk (by decide) hst rfl d_M_isBlank_17
  · have hm := it_f hm h1
    refine lv_iload_n hx hb d_M_isBlank_6 rfl (lv_at hl 0 rfl) ?_
    refine lv_bipush (v := 10) hx hb d_M_isBlank_7 (by decide) ?_
    refine lv_icmp_ne (tgt := 16) hx hb d_M_isBlank_9 (by decide) (fun h2 => ?_) (fun h2 => ?_)
    · have hm := it_f hm h2
      refine lv_iconst (v := 0) hx hb d_M_isBlank_16 (by decide) ?_
      have he := (Option.some.inj hm)
      cases he
      exact rt_i hx hb hr hlk (by decide) hst rfl d_M_isBlank_17
    · have hm := it_t hm h2
      refine lv_iconst (v := 1) hx hb d_M_isBlank_12 (by decide) ?_
      refine lv_goto (tgt := 17) hx hb d_M_isBlank_13 (by decide) ?_
      have he := (Option.some.inj hm)
      cases he
      exact rt_i hx hb hr hlk (by decide) hst rfl d_M_isBlank_17
def mM_shut (n : Nat) (g : aG) (a : aA) : Option (Int32 × aG) := lt (va_up g 20 ((g 20) + 1)) (fun g1 => lt (va_up g1 19 ((g1 19) - 1)) (fun g2 => lt (va_up g2 21 1) (fun g3 => some ((1, g3)))))
theorem d_M_shut_0 : decode prog_11_method_10_code 0 = .ok (.aload_n 0, 1) := by decide +kernel
theorem d_M_shut_1 : decode prog_11_method_10_code 1 = .ok (.dup, 1) := by decide +kernel
theorem d_M_shut_2 : decode prog_11_method_10_code 2 = .ok (.getfield 121, 3) := by decide +kernel
theorem d_M_shut_5 : decode prog_11_method_10_code 5 = .ok (.iconst 1, 1) := by decide +kernel
theorem d_M_shut_6 : decode prog_11_method_10_code 6 = .ok (.iadd, 1) := by decide +kernel
theorem d_M_shut_7 : decode prog_11_method_10_code 7 = .ok (.putfield 121, 3) := by decide +kernel
theorem d_M_shut_10 : decode prog_11_method_10_code 10 = .ok (.aload_n 0, 1) := by decide +kernel
theorem d_M_shut_11 : decode prog_11_method_10_code 11 = .ok (.dup, 1) := by decide +kernel
theorem d_M_shut_12 : decode prog_11_method_10_code 12 = .ok (.getfield 130, 3) := by decide +kernel
theorem d_M_shut_15 : decode prog_11_method_10_code 15 = .ok (.iconst 1, 1) := by decide +kernel
theorem d_M_shut_16 : decode prog_11_method_10_code 16 = .ok (.isub, 1) := by decide +kernel
theorem d_M_shut_17 : decode prog_11_method_10_code 17 = .ok (.putfield 130, 3) := by decide +kernel
theorem d_M_shut_20 : decode prog_11_method_10_code 20 = .ok (.aload_n 0, 1) := by decide +kernel
theorem d_M_shut_21 : decode prog_11_method_10_code 21 = .ok (.iconst 1, 1) := by decide +kernel
theorem d_M_shut_22 : decode prog_11_method_10_code 22 = .ok (.putfield 133, 3) := by decide +kernel
theorem d_M_shut_25 : decode prog_11_method_10_code 25 = .ok (.iconst 1, 1) := by decide +kernel
theorem d_M_shut_26 : decode prog_11_method_10_code 26 = .ok (.ireturn, 1) := by decide +kernel
set_option maxHeartbeats 4000000 in
set_option maxRecDepth 100000 in
theorem cM_shut (l : Launch) (dC : Nat → ClassId) (dI : Nat → Nat → Nat) (tk : Nat → ClassId) (A : Nat → Prop) (h : Nat) (L : Nat → Nat) (g : aG) (a : aA) (rw : va_W) (n : Nat) (r0 : Int32) (g0 : aG) (hm : mM_shut n g a = some (r0, g0)) : CtI l dC dI tk A ⟨"EditorServerModel", "shut", "()Z"⟩ prog_11_method_10_code 1 (some .boolean) 0 0 [.ref h] (oW 0 h ksM spM tk L g a rw) r0 (oW 0 h ksM spM tk L g0 a rw) := by
  refine ent (by decide) (Nat.le_of_ble_eq_true rfl) ?_
  intro p e s m args below meth c hx hb hr hml hown hlk hG hg hst ls hl
  unfold mM_shut at hm
  have hl : lv_has ls 1 [(0, .ref h)] := hl
  refine lv_aload_n hx hb d_M_shut_0 rfl (lv_at hl 0 rfl) ?_
  refine lv_dup hx hb d_M_shut_1 rfl ?_
  refine ro_geti hx hb hown hG hg cM hst 20 (by decide) rfl rfl k_1034 d_M_shut_2 ?_
  refine lv_iconst (v := 1) hx hb d_M_shut_5 (by decide) ?_
  refine lv_iadd hx hb d_M_shut_6 ?_
  refine ro_puti hx hb hown hG hg cM hst 20 (by decide) rfl rfl rfl rfl rfl k_1034 d_M_shut_7 (fun g1 H locs eg1 hst => ?_)
  have hm := lt_u hm g1 eg1
  refine lv_aload_n hx hb d_M_shut_10 rfl (lv_at hl 0 rfl) ?_
  refine lv_dup hx hb d_M_shut_11 rfl ?_
  refine ro_geti hx hb hown hG hg cM hst 19 (by decide) rfl rfl k_1033 d_M_shut_12 ?_
  refine lv_iconst (v := 1) hx hb d_M_shut_15 (by decide) ?_
  refine lv_isub hx hb d_M_shut_16 ?_
  refine ro_puti hx hb hown hG hg cM hst 19 (by decide) rfl rfl rfl rfl rfl k_1033 d_M_shut_17 (fun g2 H locs eg2 hst => ?_)
  have hm := lt_u hm g2 eg2
  refine lv_aload_n hx hb d_M_shut_20 rfl (lv_at hl 0 rfl) ?_
  refine lv_iconst (v := 1) hx hb d_M_shut_21 (by decide) ?_
  refine ro_puti hx hb hown hG hg cM hst 21 (by decide) rfl rfl rfl rfl rfl k_1035 d_M_shut_22 (fun g3 H locs eg3 hst => ?_)
  have hm := lt_u hm g3 eg3
  refine lv_iconst (v := 1) hx hb d_M_shut_25 (by decide) ?_
  have he := (Option.some.inj hm)
  cases he
  exact rt_i hx hb hr hlk (by decide) hst rfl d_M_shut_26
def mM_behind (n : Nat) (v1 : Int32) (g : aG) (a : aA) : Option (Int32 × aG) := if (g 19) = 0 then (some ((0, g))) else (gd (inb ((g 19) - 1) 7) (lt (a 9 ((g 19) - 1).toNatClampNeg) (fun x3 => gd (inb x3 41) (lt (a 1 x3.toNatClampNeg) (fun x5 => jn (α := Int32) (if x5 = 3 then (some (.inl 93)) else (some (.inl 125))) (fun x8 => if v1 = x8 then (bd (mM_shut n g a) (fun q19 => gd (okz q19.1) (some ((q19.1, q19.2))))) else (lt (va_up g 20 ((g 20) + 1)) (fun g11 => jn (α := Int32) (if x5 = 3 then (some (.inl 0)) else (some (.inl 3))) (fun x14 => lt (va_up g11 21 x14) (fun g16 => if v1 = 44 then (some ((1, g16))) else (some ((0, g16)))))))))))))
theorem d_M_behind_0 : decode prog_11_method_11_code 0 = .ok (.aload_n 0, 1) := by decide +kernel
theorem d_M_behind_1 : decode prog_11_method_11_code 1 = .ok (.getfield 130, 3) := by decide +kernel
theorem d_M_behind_4 : decode prog_11_method_11_code 4 = .ok (.ifCond .ne 5, 3) := by decide +kernel
theorem d_M_behind_7 : decode prog_11_method_11_code 7 = .ok (.iconst 0, 1) := by decide +kernel
theorem d_M_behind_8 : decode prog_11_method_11_code 8 = .ok (.ireturn, 1) := by decide +kernel
theorem d_M_behind_9 : decode prog_11_method_11_code 9 = .ok (.aload_n 0, 1) := by decide +kernel
theorem d_M_behind_10 : decode prog_11_method_11_code 10 = .ok (.getfield 13, 3) := by decide +kernel
theorem d_M_behind_13 : decode prog_11_method_11_code 13 = .ok (.aload_n 0, 1) := by decide +kernel
theorem d_M_behind_14 : decode prog_11_method_11_code 14 = .ok (.getfield 37, 3) := by decide +kernel
theorem d_M_behind_17 : decode prog_11_method_11_code 17 = .ok (.aload_n 0, 1) := by decide +kernel
theorem d_M_behind_18 : decode prog_11_method_11_code 18 = .ok (.getfield 130, 3) := by decide +kernel
theorem d_M_behind_21 : decode prog_11_method_11_code 21 = .ok (.iconst 1, 1) := by decide +kernel
theorem d_M_behind_22 : decode prog_11_method_11_code 22 = .ok (.isub, 1) := by decide +kernel
theorem d_M_behind_23 : decode prog_11_method_11_code 23 = .ok (.iaload, 1) := by decide +kernel
theorem d_M_behind_24 : decode prog_11_method_11_code 24 = .ok (.iaload, 1) := by decide +kernel
theorem d_M_behind_25 : decode prog_11_method_11_code 25 = .ok (.istore_n 2, 1) := by decide +kernel
theorem d_M_behind_26 : decode prog_11_method_11_code 26 = .ok (.iload_n 1, 1) := by decide +kernel
theorem d_M_behind_27 : decode prog_11_method_11_code 27 = .ok (.iload_n 2, 1) := by decide +kernel
theorem d_M_behind_28 : decode prog_11_method_11_code 28 = .ok (.iconst 3, 1) := by decide +kernel
theorem d_M_behind_29 : decode prog_11_method_11_code 29 = .ok (.if_icmp .ne 8, 3) := by decide +kernel
theorem d_M_behind_32 : decode prog_11_method_11_code 32 = .ok (.bipush 93, 2) := by decide +kernel
theorem d_M_behind_34 : decode prog_11_method_11_code 34 = .ok (.goto 5, 3) := by decide +kernel
theorem d_M_behind_37 : decode prog_11_method_11_code 37 = .ok (.bipush 125, 2) := by decide +kernel
theorem d_M_behind_39 : decode prog_11_method_11_code 39 = .ok (.if_icmp .ne 8, 3) := by decide +kernel
theorem d_M_behind_42 : decode prog_11_method_11_code 42 = .ok (.aload_n 0, 1) := by decide +kernel
theorem d_M_behind_43 : decode prog_11_method_11_code 43 = .ok (.invokevirtual 147, 3) := by decide +kernel
theorem d_M_behind_46 : decode prog_11_method_11_code 46 = .ok (.ireturn, 1) := by decide +kernel
theorem d_M_behind_47 : decode prog_11_method_11_code 47 = .ok (.aload_n 0, 1) := by decide +kernel
theorem d_M_behind_48 : decode prog_11_method_11_code 48 = .ok (.dup, 1) := by decide +kernel
theorem d_M_behind_49 : decode prog_11_method_11_code 49 = .ok (.getfield 121, 3) := by decide +kernel
theorem d_M_behind_52 : decode prog_11_method_11_code 52 = .ok (.iconst 1, 1) := by decide +kernel
theorem d_M_behind_53 : decode prog_11_method_11_code 53 = .ok (.iadd, 1) := by decide +kernel
theorem d_M_behind_54 : decode prog_11_method_11_code 54 = .ok (.putfield 121, 3) := by decide +kernel
theorem d_M_behind_57 : decode prog_11_method_11_code 57 = .ok (.aload_n 0, 1) := by decide +kernel
theorem d_M_behind_58 : decode prog_11_method_11_code 58 = .ok (.iload_n 2, 1) := by decide +kernel
theorem d_M_behind_59 : decode prog_11_method_11_code 59 = .ok (.iconst 3, 1) := by decide +kernel
theorem d_M_behind_60 : decode prog_11_method_11_code 60 = .ok (.if_icmp .ne 7, 3) := by decide +kernel
theorem d_M_behind_63 : decode prog_11_method_11_code 63 = .ok (.iconst 0, 1) := by decide +kernel
theorem d_M_behind_64 : decode prog_11_method_11_code 64 = .ok (.goto 4, 3) := by decide +kernel
theorem d_M_behind_67 : decode prog_11_method_11_code 67 = .ok (.iconst 3, 1) := by decide +kernel
theorem d_M_behind_68 : decode prog_11_method_11_code 68 = .ok (.putfield 133, 3) := by decide +kernel
theorem d_M_behind_71 : decode prog_11_method_11_code 71 = .ok (.iload_n 1, 1) := by decide +kernel
theorem d_M_behind_72 : decode prog_11_method_11_code 72 = .ok (.bipush 44, 2) := by decide +kernel
theorem d_M_behind_74 : decode prog_11_method_11_code 74 = .ok (.if_icmp .ne 7, 3) := by decide +kernel
theorem d_M_behind_77 : decode prog_11_method_11_code 77 = .ok (.iconst 1, 1) := by decide +kernel
theorem d_M_behind_78 : decode prog_11_method_11_code 78 = .ok (.goto 4, 3) := by decide +kernel
theorem d_M_behind_81 : decode prog_11_method_11_code 81 = .ok (.iconst 0, 1) := by decide +kernel
theorem d_M_behind_82 : decode prog_11_method_11_code 82 = .ok (.ireturn, 1) := by decide +kernel
set_option maxHeartbeats 4000000 in
set_option maxRecDepth 100000 in
theorem cM_behind (l : Launch) (dC : Nat → ClassId) (dI : Nat → Nat → Nat) (tk : Nat → ClassId) (A : Nat → Prop) (h : Nat) (L : Nat → Nat) (g : aG) (a : aA) (rw : va_W) (n : Nat) (v1 : Int32) (r0 : Int32) (g0 : aG) (hm : mM_behind n v1 g a = some (r0, g0)) : CtI l dC dI tk A ⟨"EditorServerModel", "behind", "(I)Z"⟩ prog_11_method_11_code 3 (some .boolean) 1 20 [.ref h, .int v1] (oW 0 h ksM spM tk L g a rw) r0 (oW 0 h ksM spM tk L g0 a rw) := by
  refine ent (by decide) (Nat.le_of_ble_eq_true rfl) ?_
  intro p e s m args below meth c hx hb hr hml hown hlk hG hg hst ls hl
  unfold mM_behind at hm
  have hl : lv_has ls 3 [(0, .ref h), (1, .int v1)] := hl
  refine lv_aload_n hx hb d_M_behind_0 rfl (lv_at hl 0 rfl) ?_
  refine ro_geti hx hb hown hG hg cM hst 19 (by decide) rfl rfl k_1033 d_M_behind_1 ?_
  refine lv_if_ne (tgt := 9) hx hb d_M_behind_4 (by decide) (fun h1 => ?_) (fun h1 => ?_)
  · have hm := it_f hm h1
    refine lv_aload_n hx hb d_M_behind_9 rfl (lv_at hl 0 rfl) ?_
    refine ro_geta hx hb hown hG hg cM hst 9 1 (by decide) rfl rfl k_1023 d_M_behind_10 ?_
    refine lv_aload_n hx hb d_M_behind_13 rfl (lv_at hl 0 rfl) ?_
    refine ro_geta hx hb hown hG hg cM hst 18 9 (by decide) rfl rfl k_1032 d_M_behind_14 ?_
    refine lv_aload_n hx hb d_M_behind_17 rfl (lv_at hl 0 rfl) ?_
    refine ro_geti hx hb hown hG hg cM hst 19 (by decide) rfl rfl k_1033 d_M_behind_18 ?_
    refine lv_iconst (v := 1) hx hb d_M_behind_21 (by decide) ?_
    refine lv_isub hx hb d_M_behind_22 ?_
    obtain ⟨hn2, hm⟩ := gd_u hm
    refine ro_iald hx hb hg hst 9 rfl hn2 d_M_behind_23 ?_
    refine lv_topi (fun x3 ex3 => ?_)
    have hm := lt_u hm x3 ex3
    obtain ⟨hn4, hm⟩ := gd_u hm
    refine ro_iald hx hb hg hst 1 rfl hn4 d_M_behind_24 ?_
    refine lv_topi (fun x5 ex5 => ?_)
    have hm := lt_u hm x5 ex5
    refine lv_istore_n (lv' := [(2, .int x5), (0, .ref h), (1, .int v1)]) hx hb d_M_behind_25 rfl hl (by decide) rfl (fun ls hl => ?_)
    refine lv_iload_n hx hb d_M_behind_26 rfl (lv_at hl 2 rfl) ?_
    refine lv_iload_n hx hb d_M_behind_27 rfl (lv_at hl 0 rfl) ?_
    refine lv_iconst (v := 3) hx hb d_M_behind_28 (by decide) ?_
    obtain ⟨qJ6, hm, hLJ6, hR7⟩ := jn_u hm
    have hJ6 : ∀ (x8 : Int32), qJ6 = .inl x8 → ∀ (H : Heap) (locs : List Loc) (ls : Array Slot), lv_has ls 3 [(0, .ref h), (1, .int v1), (2, .int x5)] → St dC dI A s.heap H locs (oW 0 h ksM spM tk L g a rw) → W p l e (rmo 1 20) s m args below meth c H locs 0 0 (MQ below (QI dC dI A r0 (oW 0 h ksM spM tk L g0 a rw)) args s 0 0 A) (F0 m 39 ls [.int x8, .int v1]) := by
      intro x8 hq H locs ls hl hst
      have hm := hLJ6 _ hq
      refine lv_icmp_ne (tgt := 47) hx hb d_M_behind_39 (by decide) (fun h10 => ?_) (fun h10 => ?_)
      · have hm := it_f hm h10
        refine lv_aload_n hx hb d_M_behind_47 rfl (lv_at hl 0 rfl) ?_
        refine lv_dup hx hb d_M_behind_48 rfl ?_
        refine ro_geti hx hb hown hG hg cM hst 20 (by decide) rfl rfl k_1034 d_M_behind_49 ?_
        refine lv_iconst (v := 1) hx hb d_M_behind_52 (by decide) ?_
        refine lv_iadd hx hb d_M_behind_53 ?_
        refine ro_puti hx hb hown hG hg cM hst 20 (by decide) rfl rfl rfl rfl rfl k_1034 d_M_behind_54 (fun g11 H locs eg11 hst => ?_)
        have hm := lt_u hm g11 eg11
        refine lv_aload_n hx hb d_M_behind_57 rfl (lv_at hl 0 rfl) ?_
        refine lv_iload_n hx hb d_M_behind_58 rfl (lv_at hl 2 rfl) ?_
        refine lv_iconst (v := 3) hx hb d_M_behind_59 (by decide) ?_
        obtain ⟨qJ12, hm, hLJ12, hR13⟩ := jn_u hm
        have hJ12 : ∀ (x14 : Int32), qJ12 = .inl x14 → ∀ (H : Heap) (locs : List Loc) (ls : Array Slot), lv_has ls 3 [(0, .ref h), (1, .int v1), (2, .int x5)] → St dC dI A s.heap H locs (oW 0 h ksM spM tk L g11 a rw) → W p l e (rmo 1 20) s m args below meth c H locs 0 0 (MQ below (QI dC dI A r0 (oW 0 h ksM spM tk L g0 a rw)) args s 0 0 A) (F0 m 68 ls [.int x14, .ref h]) := by
          intro x14 hq H locs ls hl hst
          have hm := hLJ12 _ hq
          refine ro_puti hx hb hown hG hg cM hst 21 (by decide) rfl rfl rfl rfl rfl k_1035 d_M_behind_68 (fun g16 H locs eg16 hst => ?_)
          have hm := lt_u hm g16 eg16
          refine lv_iload_n hx hb d_M_behind_71 rfl (lv_at hl 1 rfl) ?_
          refine lv_bipush (v := 44) hx hb d_M_behind_72 (by decide) ?_
          refine lv_icmp_ne (tgt := 81) hx hb d_M_behind_74 (by decide) (fun h17 => ?_) (fun h17 => ?_)
          · have hm := it_f hm h17
            refine lv_iconst (v := 0) hx hb d_M_behind_81 (by decide) ?_
            have he := (Option.some.inj hm)
            cases he
            exact rt_i hx hb hr hlk (by decide) hst rfl d_M_behind_82
          · have hm := it_t hm h17
            refine lv_iconst (v := 1) hx hb d_M_behind_77 (by decide) ?_
            refine lv_goto (tgt := 82) hx hb d_M_behind_78 (by decide) ?_
            have he := (Option.some.inj hm)
            cases he
            exact rt_i hx hb hr hlk (by decide) hst rfl d_M_behind_82
        refine lv_icmp_ne (tgt := 67) hx hb d_M_behind_60 (by decide) (fun h18 => ?_) (fun h18 => ?_)
        · have hm := it_f hm h18
          refine lv_iconst (v := 3) hx hb d_M_behind_67 (by decide) ?_
          exact hJ12 3 (Option.some.inj hm).symm _ _ _ (lv_sub hl [0, 1, 2] rfl) hst
        · have hm := it_t hm h18
          refine lv_iconst (v := 0) hx hb d_M_behind_63 (by decide) ?_
          refine lv_goto (tgt := 68) hx hb d_M_behind_64 (by decide) ?_
          exact hJ12 0 (Option.some.inj hm).symm _ _ _ (lv_sub hl [0, 1, 2] rfl) hst
      · have hm := it_t hm h10
        refine lv_aload_n hx hb d_M_behind_42 rfl (lv_at hl 0 rfl) ?_
        obtain ⟨⟨x20, g21⟩, hc22, hm⟩ := bd_u hm
        dsimp only at hm
        refine cl_vi hx hb hml hown hG hg (cM_shut l dC dI tk A h L g a rw n _ _ hc22) (cw_v 0 hG k_1184 k_1186 s_31 k_14 k_1187 (by decide +kernel) ⟨by decide, by decide⟩) hst rfl oW_0 rfl hl.1 rfl (Nat.le_of_ble_eq_true rfl) ⟨Nat.le_refl 0, Nat.le_refl 0⟩ d_M_behind_43 (fun H locs hst => ?_)
        obtain ⟨hn23, hm⟩ := gd_u hm
        have he := (Option.some.inj hm)
        cases he
        exact rt_i hx hb hr hlk (okz_n hn23).1 hst rfl d_M_behind_46
    refine lv_icmp_ne (tgt := 37) hx hb d_M_behind_29 (by decide) (fun h24 => ?_) (fun h24 => ?_)
    · have hm := it_f hm h24
      refine lv_bipush (v := 125) hx hb d_M_behind_37 (by decide) ?_
      exact hJ6 125 (Option.some.inj hm).symm _ _ _ (lv_sub hl [1, 2, 0] rfl) hst
    · have hm := it_t hm h24
      refine lv_bipush (v := 93) hx hb d_M_behind_32 (by decide) ?_
      refine lv_goto (tgt := 39) hx hb d_M_behind_34 (by decide) ?_
      exact hJ6 93 (Option.some.inj hm).symm _ _ _ (lv_sub hl [1, 2, 0] rfl) hst
  · have hm := it_t hm h1
    refine lv_iconst (v := 0) hx hb d_M_behind_7 (by decide) ?_
    have he := (Option.some.inj hm)
    cases he
    exact rt_i hx hb hr hlk (by decide) hst rfl d_M_behind_8
def mM_peek (n : Nat) (g : aG) (a : aA) : Option (Int32) := if (g 6) ≤ (g 20) then (some (0)) else (gd (inb (g 20) 200) (lt (a 0 (g 20).toNatClampNeg) (fun x3 => some (x3))))
theorem d_M_peek_0 : decode prog_11_method_7_code 0 = .ok (.aload_n 0, 1) := by decide +kernel
theorem d_M_peek_1 : decode prog_11_method_7_code 1 = .ok (.getfield 121, 3) := by decide +kernel
theorem d_M_peek_4 : decode prog_11_method_7_code 4 = .ok (.aload_n 0, 1) := by decide +kernel
theorem d_M_peek_5 : decode prog_11_method_7_code 5 = .ok (.getfield 109, 3) := by decide +kernel
theorem d_M_peek_8 : decode prog_11_method_7_code 8 = .ok (.if_icmp .ge 15, 3) := by decide +kernel
theorem d_M_peek_11 : decode prog_11_method_7_code 11 = .ok (.aload_n 0, 1) := by decide +kernel
theorem d_M_peek_12 : decode prog_11_method_7_code 12 = .ok (.getfield 7, 3) := by decide +kernel
theorem d_M_peek_15 : decode prog_11_method_7_code 15 = .ok (.aload_n 0, 1) := by decide +kernel
theorem d_M_peek_16 : decode prog_11_method_7_code 16 = .ok (.getfield 121, 3) := by decide +kernel
theorem d_M_peek_19 : decode prog_11_method_7_code 19 = .ok (.iaload, 1) := by decide +kernel
theorem d_M_peek_20 : decode prog_11_method_7_code 20 = .ok (.goto 4, 3) := by decide +kernel
theorem d_M_peek_23 : decode prog_11_method_7_code 23 = .ok (.iconst 0, 1) := by decide +kernel
theorem d_M_peek_24 : decode prog_11_method_7_code 24 = .ok (.ireturn, 1) := by decide +kernel
set_option maxHeartbeats 4000000 in
set_option maxRecDepth 100000 in
theorem cM_peek (l : Launch) (dC : Nat → ClassId) (dI : Nat → Nat → Nat) (tk : Nat → ClassId) (A : Nat → Prop) (h : Nat) (L : Nat → Nat) (g : aG) (a : aA) (rw : va_W) (n : Nat) (r0 : Int32) (hm : mM_peek n g a = some r0) : CtI l dC dI tk A ⟨"EditorServerModel", "peek", "()I"⟩ prog_11_method_7_code 1 (some .int) 0 0 [.ref h] (oW 0 h ksM spM tk L g a rw) r0 (oW 0 h ksM spM tk L g a rw) := by
  refine ent (by decide) (Nat.le_of_ble_eq_true rfl) ?_
  intro p e s m args below meth c hx hb hr hml hown hlk hG hg hst ls hl
  unfold mM_peek at hm
  have hl : lv_has ls 1 [(0, .ref h)] := hl
  refine lv_aload_n hx hb d_M_peek_0 rfl (lv_at hl 0 rfl) ?_
  refine ro_geti hx hb hown hG hg cM hst 20 (by decide) rfl rfl k_1034 d_M_peek_1 ?_
  refine lv_aload_n hx hb d_M_peek_4 rfl (lv_at hl 0 rfl) ?_
  refine ro_geti hx hb hown hG hg cM hst 6 (by decide) rfl rfl k_1020 d_M_peek_5 ?_
  refine lv_icmp_ge (tgt := 23) hx hb d_M_peek_8 (by decide) (fun h1 => ?_) (fun h1 => ?_)
  · have hm := it_t hm h1
    refine lv_iconst (v := 0) hx hb d_M_peek_23 (by decide) ?_
    have he := (Option.some.inj hm)
    cases he
    exact rt_i hx hb hr hlk rfl hst rfl d_M_peek_24
  · have hm := it_f hm h1
    refine lv_aload_n hx hb d_M_peek_11 rfl (lv_at hl 0 rfl) ?_
    refine ro_geta hx hb hown hG hg cM hst 7 0 (by decide) rfl rfl k_1021 d_M_peek_12 ?_
    refine lv_aload_n hx hb d_M_peek_15 rfl (lv_at hl 0 rfl) ?_
    refine ro_geti hx hb hown hG hg cM hst 20 (by decide) rfl rfl k_1034 d_M_peek_16 ?_
    obtain ⟨hn2, hm⟩ := gd_u hm
    refine ro_iald hx hb hg hst 0 rfl hn2 d_M_peek_19 ?_
    refine lv_topi (fun x3 ex3 => ?_)
    have hm := lt_u hm x3 ex3
    refine lv_goto (tgt := 24) hx hb d_M_peek_20 (by decide) ?_
    have he := (Option.some.inj hm)
    cases he
    exact rt_i hx hb hr hlk rfl hst rfl d_M_peek_24
def mM_string (n : Nat) (g : aG) (a : aA) : Option (Int32 × aG × aA) := lt (va_up g 20 ((g 20) + 1)) (fun g1 => jn (α := aG × aA) (lp (ε := aG × aA) (fun q11 => if (q11.1 6) ≤ (q11.1 20) then (some (.inr (.inl (q11.1, q11.2)))) else (gd (inb (q11.1 20) 200) (lt (q11.2 0 (q11.1 20).toNatClampNeg) (fun x17 => if x17 = 34 then (some (.inr (.inl (q11.1, q11.2)))) else (gd (inb (q11.1 20) 200) (lt (q11.2 0 (q11.1 20).toNatClampNeg) (fun x20 => if x20 < 32 then (some (.inr (.inr ((0, q11.1, q11.2))))) else (if x20 ≤ 126 then (jn (α := Int32 × aG) (if x20 = 92 then (lt (va_up q11.1 20 ((q11.1 20) + 1)) (fun g33 => bd (mM_peek n g33 q11.2) (fun x35 => jn (α := Int32) (if x35 = 110 then (some (.inl 10)) else (some (.inl x35))) (fun x39 => if x35 = 34 then (some (.inl (x39, g33))) else (if x35 = 92 then (some (.inl (x39, g33))) else (if x35 = 110 then (some (.inl (x39, g33))) else (some (.inr (.inr (.inr ((0, g33, q11.2)))))))))))) else (some (.inl (x20, q11.1)))) (fun q27 => gd (inb (q27.2 17) 201) (lt (va_up q11.2 8 (upd (q11.2 8) (q27.2 17).toNatClampNeg q27.1)) (fun a29 => lt (va_up q27.2 17 ((q27.2 17) + 1)) (fun g30 => lt (va_up g30 20 ((g30 20) + 1)) (fun g31 => some (.inl (g31, a29)))))))) else (some (.inr (.inr ((0, q11.1, q11.2))))))))))))) n (g1, a)) (fun q6 => lt (va_up q6.1 20 ((q6.1 20) + 1)) (fun g7 => if (g7 6) < (g7 20) then (some ((0, g7, q6.2))) else (some ((1, g7, q6.2))))))
theorem d_M_string_0 : decode prog_11_method_16_code 0 = .ok (.aload_n 0, 1) := by decide +kernel
theorem d_M_string_1 : decode prog_11_method_16_code 1 = .ok (.dup, 1) := by decide +kernel
theorem d_M_string_2 : decode prog_11_method_16_code 2 = .ok (.getfield 121, 3) := by decide +kernel
theorem d_M_string_5 : decode prog_11_method_16_code 5 = .ok (.iconst 1, 1) := by decide +kernel
theorem d_M_string_6 : decode prog_11_method_16_code 6 = .ok (.iadd, 1) := by decide +kernel
theorem d_M_string_7 : decode prog_11_method_16_code 7 = .ok (.putfield 121, 3) := by decide +kernel
theorem d_M_string_10 : decode prog_11_method_16_code 10 = .ok (.aload_n 0, 1) := by decide +kernel
theorem d_M_string_11 : decode prog_11_method_16_code 11 = .ok (.getfield 121, 3) := by decide +kernel
theorem d_M_string_14 : decode prog_11_method_16_code 14 = .ok (.aload_n 0, 1) := by decide +kernel
theorem d_M_string_15 : decode prog_11_method_16_code 15 = .ok (.getfield 109, 3) := by decide +kernel
theorem d_M_string_18 : decode prog_11_method_16_code 18 = .ok (.if_icmp .ge 128, 3) := by decide +kernel
theorem d_M_string_21 : decode prog_11_method_16_code 21 = .ok (.aload_n 0, 1) := by decide +kernel
theorem d_M_string_22 : decode prog_11_method_16_code 22 = .ok (.getfield 7, 3) := by decide +kernel
theorem d_M_string_25 : decode prog_11_method_16_code 25 = .ok (.aload_n 0, 1) := by decide +kernel
theorem d_M_string_26 : decode prog_11_method_16_code 26 = .ok (.getfield 121, 3) := by decide +kernel
theorem d_M_string_29 : decode prog_11_method_16_code 29 = .ok (.iaload, 1) := by decide +kernel
theorem d_M_string_30 : decode prog_11_method_16_code 30 = .ok (.bipush 34, 2) := by decide +kernel
theorem d_M_string_32 : decode prog_11_method_16_code 32 = .ok (.if_icmp .eq 114, 3) := by decide +kernel
theorem d_M_string_35 : decode prog_11_method_16_code 35 = .ok (.aload_n 0, 1) := by decide +kernel
theorem d_M_string_36 : decode prog_11_method_16_code 36 = .ok (.getfield 7, 3) := by decide +kernel
theorem d_M_string_39 : decode prog_11_method_16_code 39 = .ok (.aload_n 0, 1) := by decide +kernel
theorem d_M_string_40 : decode prog_11_method_16_code 40 = .ok (.getfield 121, 3) := by decide +kernel
theorem d_M_string_43 : decode prog_11_method_16_code 43 = .ok (.iaload, 1) := by decide +kernel
theorem d_M_string_44 : decode prog_11_method_16_code 44 = .ok (.istore_n 1, 1) := by decide +kernel
theorem d_M_string_45 : decode prog_11_method_16_code 45 = .ok (.iload_n 1, 1) := by decide +kernel
theorem d_M_string_46 : decode prog_11_method_16_code 46 = .ok (.bipush 32, 2) := by decide +kernel
theorem d_M_string_48 : decode prog_11_method_16_code 48 = .ok (.if_icmp .lt 9, 3) := by decide +kernel
theorem d_M_string_51 : decode prog_11_method_16_code 51 = .ok (.iload_n 1, 1) := by decide +kernel
theorem d_M_string_52 : decode prog_11_method_16_code 52 = .ok (.bipush 126, 2) := by decide +kernel
theorem d_M_string_54 : decode prog_11_method_16_code 54 = .ok (.if_icmp .le 5, 3) := by decide +kernel
theorem d_M_string_57 : decode prog_11_method_16_code 57 = .ok (.iconst 0, 1) := by decide +kernel
theorem d_M_string_58 : decode prog_11_method_16_code 58 = .ok (.ireturn, 1) := by decide +kernel
theorem d_M_string_59 : decode prog_11_method_16_code 59 = .ok (.iload_n 1, 1) := by decide +kernel
theorem d_M_string_60 : decode prog_11_method_16_code 60 = .ok (.bipush 92, 2) := by decide +kernel
theorem d_M_string_62 : decode prog_11_method_16_code 62 = .ok (.if_icmp .ne 51, 3) := by decide +kernel
theorem d_M_string_65 : decode prog_11_method_16_code 65 = .ok (.aload_n 0, 1) := by decide +kernel
theorem d_M_string_66 : decode prog_11_method_16_code 66 = .ok (.dup, 1) := by decide +kernel
theorem d_M_string_67 : decode prog_11_method_16_code 67 = .ok (.getfield 121, 3) := by decide +kernel
theorem d_M_string_70 : decode prog_11_method_16_code 70 = .ok (.iconst 1, 1) := by decide +kernel
theorem d_M_string_71 : decode prog_11_method_16_code 71 = .ok (.iadd, 1) := by decide +kernel
theorem d_M_string_72 : decode prog_11_method_16_code 72 = .ok (.putfield 121, 3) := by decide +kernel
theorem d_M_string_75 : decode prog_11_method_16_code 75 = .ok (.aload_n 0, 1) := by decide +kernel
theorem d_M_string_76 : decode prog_11_method_16_code 76 = .ok (.invokevirtual 140, 3) := by decide +kernel
theorem d_M_string_79 : decode prog_11_method_16_code 79 = .ok (.istore_n 2, 1) := by decide +kernel
theorem d_M_string_80 : decode prog_11_method_16_code 80 = .ok (.iload_n 2, 1) := by decide +kernel
theorem d_M_string_81 : decode prog_11_method_16_code 81 = .ok (.bipush 110, 2) := by decide +kernel
theorem d_M_string_83 : decode prog_11_method_16_code 83 = .ok (.if_icmp .ne 8, 3) := by decide +kernel
theorem d_M_string_86 : decode prog_11_method_16_code 86 = .ok (.bipush 10, 2) := by decide +kernel
theorem d_M_string_88 : decode prog_11_method_16_code 88 = .ok (.goto 4, 3) := by decide +kernel
theorem d_M_string_91 : decode prog_11_method_16_code 91 = .ok (.iload_n 2, 1) := by decide +kernel
theorem d_M_string_92 : decode prog_11_method_16_code 92 = .ok (.istore_n 1, 1) := by decide +kernel
theorem d_M_string_93 : decode prog_11_method_16_code 93 = .ok (.iload_n 2, 1) := by decide +kernel
theorem d_M_string_94 : decode prog_11_method_16_code 94 = .ok (.bipush 34, 2) := by decide +kernel
theorem d_M_string_96 : decode prog_11_method_16_code 96 = .ok (.if_icmp .eq 17, 3) := by decide +kernel
theorem d_M_string_99 : decode prog_11_method_16_code 99 = .ok (.iload_n 2, 1) := by decide +kernel
theorem d_M_string_100 : decode prog_11_method_16_code 100 = .ok (.bipush 92, 2) := by decide +kernel
theorem d_M_string_102 : decode prog_11_method_16_code 102 = .ok (.if_icmp .eq 11, 3) := by decide +kernel
theorem d_M_string_105 : decode prog_11_method_16_code 105 = .ok (.iload_n 2, 1) := by decide +kernel
theorem d_M_string_106 : decode prog_11_method_16_code 106 = .ok (.bipush 110, 2) := by decide +kernel
theorem d_M_string_108 : decode prog_11_method_16_code 108 = .ok (.if_icmp .eq 5, 3) := by decide +kernel
theorem d_M_string_111 : decode prog_11_method_16_code 111 = .ok (.iconst 0, 1) := by decide +kernel
theorem d_M_string_112 : decode prog_11_method_16_code 112 = .ok (.ireturn, 1) := by decide +kernel
theorem d_M_string_113 : decode prog_11_method_16_code 113 = .ok (.aload_n 0, 1) := by decide +kernel
theorem d_M_string_114 : decode prog_11_method_16_code 114 = .ok (.getfield 34, 3) := by decide +kernel
theorem d_M_string_117 : decode prog_11_method_16_code 117 = .ok (.aload_n 0, 1) := by decide +kernel
theorem d_M_string_118 : decode prog_11_method_16_code 118 = .ok (.getfield 127, 3) := by decide +kernel
theorem d_M_string_121 : decode prog_11_method_16_code 121 = .ok (.iload_n 1, 1) := by decide +kernel
theorem d_M_string_122 : decode prog_11_method_16_code 122 = .ok (.iastore, 1) := by decide +kernel
theorem d_M_string_123 : decode prog_11_method_16_code 123 = .ok (.aload_n 0, 1) := by decide +kernel
theorem d_M_string_124 : decode prog_11_method_16_code 124 = .ok (.dup, 1) := by decide +kernel
theorem d_M_string_125 : decode prog_11_method_16_code 125 = .ok (.getfield 127, 3) := by decide +kernel
theorem d_M_string_128 : decode prog_11_method_16_code 128 = .ok (.iconst 1, 1) := by decide +kernel
theorem d_M_string_129 : decode prog_11_method_16_code 129 = .ok (.iadd, 1) := by decide +kernel
theorem d_M_string_130 : decode prog_11_method_16_code 130 = .ok (.putfield 127, 3) := by decide +kernel
theorem d_M_string_133 : decode prog_11_method_16_code 133 = .ok (.aload_n 0, 1) := by decide +kernel
theorem d_M_string_134 : decode prog_11_method_16_code 134 = .ok (.dup, 1) := by decide +kernel
theorem d_M_string_135 : decode prog_11_method_16_code 135 = .ok (.getfield 121, 3) := by decide +kernel
theorem d_M_string_138 : decode prog_11_method_16_code 138 = .ok (.iconst 1, 1) := by decide +kernel
theorem d_M_string_139 : decode prog_11_method_16_code 139 = .ok (.iadd, 1) := by decide +kernel
theorem d_M_string_140 : decode prog_11_method_16_code 140 = .ok (.putfield 121, 3) := by decide +kernel
theorem d_M_string_143 : decode prog_11_method_16_code 143 = .ok (.goto (-133), 3) := by decide +kernel
theorem d_M_string_146 : decode prog_11_method_16_code 146 = .ok (.aload_n 0, 1) := by decide +kernel
theorem d_M_string_147 : decode prog_11_method_16_code 147 = .ok (.dup, 1) := by decide +kernel
theorem d_M_string_148 : decode prog_11_method_16_code 148 = .ok (.getfield 121, 3) := by decide +kernel
theorem d_M_string_151 : decode prog_11_method_16_code 151 = .ok (.iconst 1, 1) := by decide +kernel
theorem d_M_string_152 : decode prog_11_method_16_code 152 = .ok (.iadd, 1) := by decide +kernel
theorem d_M_string_153 : decode prog_11_method_16_code 153 = .ok (.putfield 121, 3) := by decide +kernel
theorem d_M_string_156 : decode prog_11_method_16_code 156 = .ok (.aload_n 0, 1) := by decide +kernel
theorem d_M_string_157 : decode prog_11_method_16_code 157 = .ok (.getfield 121, 3) := by decide +kernel
theorem d_M_string_160 : decode prog_11_method_16_code 160 = .ok (.aload_n 0, 1) := by decide +kernel
theorem d_M_string_161 : decode prog_11_method_16_code 161 = .ok (.getfield 109, 3) := by decide +kernel
theorem d_M_string_164 : decode prog_11_method_16_code 164 = .ok (.if_icmp .gt 7, 3) := by decide +kernel
theorem d_M_string_167 : decode prog_11_method_16_code 167 = .ok (.iconst 1, 1) := by decide +kernel
theorem d_M_string_168 : decode prog_11_method_16_code 168 = .ok (.goto 4, 3) := by decide +kernel
theorem d_M_string_171 : decode prog_11_method_16_code 171 = .ok (.iconst 0, 1) := by decide +kernel
theorem d_M_string_172 : decode prog_11_method_16_code 172 = .ok (.ireturn, 1) := by decide +kernel
set_option maxHeartbeats 4000000 in
set_option maxRecDepth 100000 in
theorem cM_string (l : Launch) (dC : Nat → ClassId) (dI : Nat → Nat → Nat) (tk : Nat → ClassId) (A : Nat → Prop) (h : Nat) (L : Nat → Nat) (g : aG) (a : aA) (rw : va_W) (n : Nat) (r0 : Int32) (g0 : aG) (a0 : aA) (hm : mM_string n g a = some (r0, g0, a0)) : CtI l dC dI tk A ⟨"EditorServerModel", "string", "()Z"⟩ prog_11_method_16_code 3 (some .boolean) 1 20 [.ref h] (oW 0 h ksM spM tk L g a rw) r0 (oW 0 h ksM spM tk L g0 a0 rw) := by
  refine ent (by decide) (Nat.le_of_ble_eq_true rfl) ?_
  intro p e s m args below meth c hx hb hr hml hown hlk hG hg hst ls hl
  unfold mM_string at hm
  have hl : lv_has ls 3 [(0, .ref h)] := hl
  refine lv_aload_n hx hb d_M_string_0 rfl (lv_at hl 0 rfl) ?_
  refine lv_dup hx hb d_M_string_1 rfl ?_
  refine ro_geti hx hb hown hG hg cM hst 20 (by decide) rfl rfl k_1034 d_M_string_2 ?_
  refine lv_iconst (v := 1) hx hb d_M_string_5 (by decide) ?_
  refine lv_iadd hx hb d_M_string_6 ?_
  refine ro_puti hx hb hown hG hg cM hst 20 (by decide) rfl rfl rfl rfl rfl k_1034 d_M_string_7 (fun g1 H locs eg1 hst => ?_)
  have hm := lt_u hm g1 eg1
  obtain ⟨qJ2, hm, hLJ2, hR3⟩ := jn_u hm
  have hJ2 : ∀ (g4 : aG) (a5 : aA), qJ2 = .inl (g4, a5) → ∀ (H : Heap) (locs : List Loc) (ls : Array Slot), lv_has ls 3 [(0, .ref h)] → St dC dI A s.heap H locs (oW 0 h ksM spM tk L g4 a5 rw) → W p l e (rmo 1 20) s m args below meth c H locs 0 0 (MQ below (QI dC dI A r0 (oW 0 h ksM spM tk L g0 a0 rw)) args s 0 0 A) (F0 m 146 ls []) := by
    intro g4 a5 hq H locs ls hl hst
    have hm := hLJ2 _ hq
    dsimp only at hm
    refine lv_aload_n hx hb d_M_string_146 rfl (lv_at hl 0 rfl) ?_
    refine lv_dup hx hb d_M_string_147 rfl ?_
    refine ro_geti hx hb hown hG hg cM hst 20 (by decide) rfl rfl k_1034 d_M_string_148 ?_
    refine lv_iconst (v := 1) hx hb d_M_string_151 (by decide) ?_
    refine lv_iadd hx hb d_M_string_152 ?_
    refine ro_puti hx hb hown hG hg cM hst 20 (by decide) rfl rfl rfl rfl rfl k_1034 d_M_string_153 (fun g7 H locs eg7 hst => ?_)
    have hm := lt_u hm g7 eg7
    refine lv_aload_n hx hb d_M_string_156 rfl (lv_at hl 0 rfl) ?_
    refine ro_geti hx hb hown hG hg cM hst 20 (by decide) rfl rfl k_1034 d_M_string_157 ?_
    refine lv_aload_n hx hb d_M_string_160 rfl (lv_at hl 0 rfl) ?_
    refine ro_geti hx hb hown hG hg cM hst 6 (by decide) rfl rfl k_1020 d_M_string_161 ?_
    refine lv_icmp_gt (tgt := 171) hx hb d_M_string_164 (by decide) (fun h8 => ?_) (fun h8 => ?_)
    · have hm := it_t hm h8
      refine lv_iconst (v := 0) hx hb d_M_string_171 (by decide) ?_
      have he := (Option.some.inj hm)
      cases he
      exact rt_i hx hb hr hlk (by decide) hst rfl d_M_string_172
    · have hm := it_f hm h8
      refine lv_iconst (v := 1) hx hb d_M_string_167 (by decide) ?_
      refine lv_goto (tgt := 172) hx hb d_M_string_168 (by decide) ?_
      have he := (Option.some.inj hm)
      cases he
      exact rt_i hx hb hr hlk (by decide) hst rfl d_M_string_172
  refine lp_u (fun q11 : aG × aA => ∀ (H : Heap) (locs : List Loc) (ls : Array Slot), lv_has ls 3 [(0, .ref h)] → St dC dI A s.heap H locs (oW 0 h ksM spM tk L q11.1 q11.2 rw) → W p l e (rmo 1 20) s m args below meth c H locs 0 0 (MQ below (QI dC dI A r0 (oW 0 h ksM spM tk L g0 a0 rw)) args s 0 0 A) (F0 m 10 ls [])) ?_ n (g1, a) hm _ _ _ (lv_sub hl [0] rfl) hst
  rintro ⟨g9, a10⟩ r14 hm hJ120 hR13 H locs ls hl hst
  dsimp only at hm hl hst ⊢
  have hJ12 := fun y0 y1 (e : r14 = .inl (y0, y1)) => hJ120 (y0, y1) e
  dsimp only at hJ12
  refine lv_aload_n hx hb d_M_string_10 rfl (lv_at hl 0 rfl) ?_
  refine ro_geti hx hb hown hG hg cM hst 20 (by decide) rfl rfl k_1034 d_M_string_11 ?_
  refine lv_aload_n hx hb d_M_string_14 rfl (lv_at hl 0 rfl) ?_
  refine ro_geti hx hb hown hG hg cM hst 6 (by decide) rfl rfl k_1020 d_M_string_15 ?_
  refine lv_icmp_ge (tgt := 146) hx hb d_M_string_18 (by decide) (fun h15 => ?_) (fun h15 => ?_)
  · have hm := it_t hm h15
    exact hJ2 g9 a10 (hR13 _ (Option.some.inj hm).symm).symm _ _ _ (lv_sub hl [0] rfl) hst
  · have hm := it_f hm h15
    refine lv_aload_n hx hb d_M_string_21 rfl (lv_at hl 0 rfl) ?_
    refine ro_geta hx hb hown hG hg cM hst 7 0 (by decide) rfl rfl k_1021 d_M_string_22 ?_
    refine lv_aload_n hx hb d_M_string_25 rfl (lv_at hl 0 rfl) ?_
    refine ro_geti hx hb hown hG hg cM hst 20 (by decide) rfl rfl k_1034 d_M_string_26 ?_
    obtain ⟨hn16, hm⟩ := gd_u hm
    refine ro_iald hx hb hg hst 0 rfl hn16 d_M_string_29 ?_
    refine lv_topi (fun x17 ex17 => ?_)
    have hm := lt_u hm x17 ex17
    refine lv_bipush (v := 34) hx hb d_M_string_30 (by decide) ?_
    refine lv_icmp_eq (tgt := 146) hx hb d_M_string_32 (by decide) (fun h18 => ?_) (fun h18 => ?_)
    · have hm := it_t hm h18
      exact hJ2 g9 a10 (hR13 _ (Option.some.inj hm).symm).symm _ _ _ (lv_sub hl [0] rfl) hst
    · have hm := it_f hm h18
      refine lv_aload_n hx hb d_M_string_35 rfl (lv_at hl 0 rfl) ?_
      refine ro_geta hx hb hown hG hg cM hst 7 0 (by decide) rfl rfl k_1021 d_M_string_36 ?_
      refine lv_aload_n hx hb d_M_string_39 rfl (lv_at hl 0 rfl) ?_
      refine ro_geti hx hb hown hG hg cM hst 20 (by decide) rfl rfl k_1034 d_M_string_40 ?_
      obtain ⟨hn19, hm⟩ := gd_u hm
      refine ro_iald hx hb hg hst 0 rfl hn19 d_M_string_43 ?_
      refine lv_topi (fun x20 ex20 => ?_)
      have hm := lt_u hm x20 ex20
      refine lv_istore_n (lv' := [(1, .int x20), (0, .ref h)]) hx hb d_M_string_44 rfl hl (by decide) rfl (fun ls hl => ?_)
      refine lv_iload_n hx hb d_M_string_45 rfl (lv_at hl 0 rfl) ?_
      refine lv_bipush (v := 32) hx hb d_M_string_46 (by decide) ?_
      refine lv_icmp_lt (tgt := 57) hx hb d_M_string_48 (by decide) (fun h21 => ?_) (fun h21 => ?_)
      · have hm := it_t hm h21
        refine lv_iconst (v := 0) hx hb d_M_string_57 (by decide) ?_
        have he := (hR3 _ (hR13 _ (Option.some.inj hm).symm).symm)
        cases he
        exact rt_i hx hb hr hlk (by decide) hst rfl d_M_string_58
      · have hm := it_f hm h21
        refine lv_iload_n hx hb d_M_string_51 rfl (lv_at hl 0 rfl) ?_
        refine lv_bipush (v := 126) hx hb d_M_string_52 (by decide) ?_
        refine lv_icmp_le (tgt := 59) hx hb d_M_string_54 (by decide) (fun h22 => ?_) (fun h22 => ?_)
        · have hm := it_t hm h22
          refine lv_iload_n hx hb d_M_string_59 rfl (lv_at hl 0 rfl) ?_
          refine lv_bipush (v := 92) hx hb d_M_string_60 (by decide) ?_
          obtain ⟨qJ23, hm, hLJ23, hR24⟩ := jn_u hm
          have hJ23 : ∀ (x25 : Int32) (g26 : aG), qJ23 = .inl (x25, g26) → ∀ (H : Heap) (locs : List Loc) (ls : Array Slot), lv_has ls 3 [(0, .ref h), (1, .int x25)] → St dC dI A s.heap H locs (oW 0 h ksM spM tk L g26 a10 rw) → W p l e (rmo 1 20) s m args below meth c H locs 0 0 (MQ below (QI dC dI A r0 (oW 0 h ksM spM tk L g0 a0 rw)) args s 0 0 A) (F0 m 113 ls []) := by
            intro x25 g26 hq H locs ls hl hst
            have hm := hLJ23 _ hq
            dsimp only at hm
            refine lv_aload_n hx hb d_M_string_113 rfl (lv_at hl 0 rfl) ?_
            refine ro_geta hx hb hown hG hg cM hst 16 8 (by decide) rfl rfl k_1030 d_M_string_114 ?_
            refine lv_aload_n hx hb d_M_string_117 rfl (lv_at hl 0 rfl) ?_
            refine ro_geti hx hb hown hG hg cM hst 17 (by decide) rfl rfl k_1031 d_M_string_118 ?_
            refine lv_iload_n hx hb d_M_string_121 rfl (lv_at hl 1 rfl) ?_
            obtain ⟨hn28, hm⟩ := gd_u hm
            refine ro_iast hx hb hg hst 8 rfl hn28 d_M_string_122 (fun a29 H locs ea29 hst => ?_)
            have hm := lt_u hm a29 ea29
            refine lv_aload_n hx hb d_M_string_123 rfl (lv_at hl 0 rfl) ?_
            refine lv_dup hx hb d_M_string_124 rfl ?_
            refine ro_geti hx hb hown hG hg cM hst 17 (by decide) rfl rfl k_1031 d_M_string_125 ?_
            refine lv_iconst (v := 1) hx hb d_M_string_128 (by decide) ?_
            refine lv_iadd hx hb d_M_string_129 ?_
            refine ro_puti hx hb hown hG hg cM hst 17 (by decide) rfl rfl rfl rfl rfl k_1031 d_M_string_130 (fun g30 H locs eg30 hst => ?_)
            have hm := lt_u hm g30 eg30
            refine lv_aload_n hx hb d_M_string_133 rfl (lv_at hl 0 rfl) ?_
            refine lv_dup hx hb d_M_string_134 rfl ?_
            refine ro_geti hx hb hown hG hg cM hst 20 (by decide) rfl rfl k_1034 d_M_string_135 ?_
            refine lv_iconst (v := 1) hx hb d_M_string_138 (by decide) ?_
            refine lv_iadd hx hb d_M_string_139 ?_
            refine ro_puti hx hb hown hG hg cM hst 20 (by decide) rfl rfl rfl rfl rfl k_1034 d_M_string_140 (fun g31 H locs eg31 hst => ?_)
            have hm := lt_u hm g31 eg31
            refine lv_goto (tgt := 10) hx hb d_M_string_143 (by decide) ?_
            exact hJ12 g31 a29 (Option.some.inj hm).symm _ _ _ (lv_sub hl [0] rfl) hst
          refine lv_icmp_ne (tgt := 113) hx hb d_M_string_62 (by decide) (fun h32 => ?_) (fun h32 => ?_)
          · have hm := it_f hm h32
            exact hJ23 x20 g9 (Option.some.inj hm).symm _ _ _ (lv_sub hl [1, 0] rfl) hst
          · have hm := it_t hm h32
            refine lv_aload_n hx hb d_M_string_65 rfl (lv_at hl 1 rfl) ?_
            refine lv_dup hx hb d_M_string_66 rfl ?_
            refine ro_geti hx hb hown hG hg cM hst 20 (by decide) rfl rfl k_1034 d_M_string_67 ?_
            refine lv_iconst (v := 1) hx hb d_M_string_70 (by decide) ?_
            refine lv_iadd hx hb d_M_string_71 ?_
            refine ro_puti hx hb hown hG hg cM hst 20 (by decide) rfl rfl rfl rfl rfl k_1034 d_M_string_72 (fun g33 H locs eg33 hst => ?_)
            have hm := lt_u hm g33 eg33
            refine lv_aload_n hx hb d_M_string_75 rfl (lv_at hl 1 rfl) ?_
            obtain ⟨x35, hc36, hm⟩ := bd_u hm
            refine cl_vi hx hb hml hown hG hg (cM_peek l dC dI tk A h L g33 a10 rw n _ hc36) (cw_v 0 hG k_1176 k_1178 s_29 k_14 k_1179 (by decide +kernel) ⟨by decide, by decide⟩) hst rfl oW_0 rfl hl.1 rfl (Nat.le_of_ble_eq_true rfl) ⟨Nat.le_refl 0, Nat.le_refl 0⟩ d_M_string_76 (fun H locs hst => ?_)
            refine lv_istore_n (lv' := [(2, .int x35), (1, .int x20), (0, .ref h)]) hx hb d_M_string_79 rfl hl (by decide) rfl (fun ls hl => ?_)
            refine lv_iload_n hx hb d_M_string_80 rfl (lv_at hl 0 rfl) ?_
            refine lv_bipush (v := 110) hx hb d_M_string_81 (by decide) ?_
            obtain ⟨qJ37, hm, hLJ37, hR38⟩ := jn_u hm
            have hJ37 : ∀ (x39 : Int32), qJ37 = .inl x39 → ∀ (H : Heap) (locs : List Loc) (ls : Array Slot), lv_has ls 3 [(0, .ref h), (1, .int x20), (2, .int x35)] → St dC dI A s.heap H locs (oW 0 h ksM spM tk L g33 a10 rw) → W p l e (rmo 1 20) s m args below meth c H locs 0 0 (MQ below (QI dC dI A r0 (oW 0 h ksM spM tk L g0 a0 rw)) args s 0 0 A) (F0 m 92 ls [.int x39]) := by
              intro x39 hq H locs ls hl hst
              have hm := hLJ37 _ hq
              refine lv_istore_n (lv' := [(1, .int x39), (0, .ref h), (2, .int x35)]) hx hb d_M_string_92 rfl hl (by decide) rfl (fun ls hl => ?_)
              refine lv_iload_n hx hb d_M_string_93 rfl (lv_at hl 2 rfl) ?_
              refine lv_bipush (v := 34) hx hb d_M_string_94 (by decide) ?_
              refine lv_icmp_eq (tgt := 113) hx hb d_M_string_96 (by decide) (fun h41 => ?_) (fun h41 => ?_)
              · have hm := it_t hm h41
                exact hJ23 x39 g33 (Option.some.inj hm).symm _ _ _ (lv_sub hl [1, 0] rfl) hst
              · have hm := it_f hm h41
                refine lv_iload_n hx hb d_M_string_99 rfl (lv_at hl 2 rfl) ?_
                refine lv_bipush (v := 92) hx hb d_M_string_100 (by decide) ?_
                refine lv_icmp_eq (tgt := 113) hx hb d_M_string_102 (by decide) (fun h42 => ?_) (fun h42 => ?_)
                · have hm := it_t hm h42
                  exact hJ23 x39 g33 (Option.some.inj hm).symm _ _ _ (lv_sub hl [1, 0] rfl) hst
                · have hm := it_f hm h42
                  refine lv_iload_n hx hb d_M_string_105 rfl (lv_at hl 2 rfl) ?_
                  refine lv_bipush (v := 110) hx hb d_M_string_106 (by decide) ?_
                  refine lv_icmp_eq (tgt := 113) hx hb d_M_string_108 (by decide) (fun h43 => ?_) (fun h43 => ?_)
                  · have hm := it_t hm h43
                    exact hJ23 x39 g33 (Option.some.inj hm).symm _ _ _ (lv_sub hl [1, 0] rfl) hst
                  · have hm := it_f hm h43
                    refine lv_iconst (v := 0) hx hb d_M_string_111 (by decide) ?_
                    have he := (hR3 _ (hR13 _ (hR24 _ (Option.some.inj hm).symm).symm).symm)
                    cases he
                    exact rt_i hx hb hr hlk (by decide) hst rfl d_M_string_112
            refine lv_icmp_ne (tgt := 91) hx hb d_M_string_83 (by decide) (fun h44 => ?_) (fun h44 => ?_)
            · have hm := it_f hm h44
              refine lv_iload_n hx hb d_M_string_91 rfl (lv_at hl 0 rfl) ?_
              exact hJ37 x35 (Option.some.inj hm).symm _ _ _ (lv_sub hl [2, 1, 0] rfl) hst
            · have hm := it_t hm h44
              refine lv_bipush (v := 10) hx hb d_M_string_86 (by decide) ?_
              refine lv_goto (tgt := 92) hx hb d_M_string_88 (by decide) ?_
              exact hJ37 10 (Option.some.inj hm).symm _ _ _ (lv_sub hl [2, 1, 0] rfl) hst
        · have hm := it_f hm h22
          refine lv_iconst (v := 0) hx hb d_M_string_57 (by decide) ?_
          have he := (hR3 _ (hR13 _ (Option.some.inj hm).symm).symm)
          cases he
          exact rt_i hx hb hr hlk (by decide) hst rfl d_M_string_58
