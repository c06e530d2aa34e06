theorem uq {ks : List (Option Nat)} {k fi : Nat} (h : ∀ i, i < ks.length → ks[i]? = some (some k) → i = fi) : ∀ i, ks[i]? = some (some k) → i = fi := fun i hi => h i (List.getElem?_eq_some_iff.mp hi).1 hi
theorem fl {ks : List (Option Nat)} {k : Nat} (h : ks.all (fun q => match q with | none => true | some j => decide (j < k)) = true) : ∀ q ∈ ks, ∀ j, q = some j → j < k := by
  intro q hq j e
  subst e
  have := List.all_eq_true.mp h _ hq
  exact of_decide_eq_true this
theorem d_M_init_0 : decode prog_11_method_1_code 0 = .ok (.aload_n 0, 1) := by decide +kernel
theorem d_M_init_1 : decode prog_11_method_1_code 1 = .ok (.invokespecial 1, 3) := by decide +kernel
theorem d_M_init_4 : decode prog_11_method_1_code 4 = .ok (.aload_n 0, 1) := by decide +kernel
theorem d_M_init_5 : decode prog_11_method_1_code 5 = .ok (.sipush 200, 3) := by decide +kernel
theorem d_M_init_8 : decode prog_11_method_1_code 8 = .ok (.newarray .int, 2) := by decide +kernel
theorem d_M_init_10 : decode prog_11_method_1_code 10 = .ok (.putfield 7, 3) := by decide +kernel
theorem d_M_init_13 : decode prog_11_method_1_code 13 = .ok (.aload_n 0, 1) := by decide +kernel
theorem d_M_init_14 : decode prog_11_method_1_code 14 = .ok (.bipush 41, 2) := by decide +kernel
theorem d_M_init_16 : decode prog_11_method_1_code 16 = .ok (.newarray .int, 2) := by decide +kernel
theorem d_M_init_18 : decode prog_11_method_1_code 18 = .ok (.putfield 13, 3) := by decide +kernel
theorem d_M_init_21 : decode prog_11_method_1_code 21 = .ok (.aload_n 0, 1) := by decide +kernel
theorem d_M_init_22 : decode prog_11_method_1_code 22 = .ok (.bipush 41, 2) := by decide +kernel
theorem d_M_init_24 : decode prog_11_method_1_code 24 = .ok (.newarray .int, 2) := by decide +kernel
theorem d_M_init_26 : decode prog_11_method_1_code 26 = .ok (.putfield 16, 3) := by decide +kernel
theorem d_M_init_29 : decode prog_11_method_1_code 29 = .ok (.aload_n 0, 1) := by decide +kernel
theorem d_M_init_30 : decode prog_11_method_1_code 30 = .ok (.bipush 41, 2) := by decide +kernel
theorem d_M_init_32 : decode prog_11_method_1_code 32 = .ok (.newarray .int, 2) := by decide +kernel
theorem d_M_init_34 : decode prog_11_method_1_code 34 = .ok (.putfield 19, 3) := by decide +kernel
theorem d_M_init_37 : decode prog_11_method_1_code 37 = .ok (.aload_n 0, 1) := by decide +kernel
theorem d_M_init_38 : decode prog_11_method_1_code 38 = .ok (.bipush 41, 2) := by decide +kernel
theorem d_M_init_40 : decode prog_11_method_1_code 40 = .ok (.newarray .int, 2) := by decide +kernel
theorem d_M_init_42 : decode prog_11_method_1_code 42 = .ok (.putfield 22, 3) := by decide +kernel
theorem d_M_init_45 : decode prog_11_method_1_code 45 = .ok (.aload_n 0, 1) := by decide +kernel
theorem d_M_init_46 : decode prog_11_method_1_code 46 = .ok (.bipush 41, 2) := by decide +kernel
theorem d_M_init_48 : decode prog_11_method_1_code 48 = .ok (.newarray .int, 2) := by decide +kernel
theorem d_M_init_50 : decode prog_11_method_1_code 50 = .ok (.putfield 25, 3) := by decide +kernel
theorem d_M_init_53 : decode prog_11_method_1_code 53 = .ok (.aload_n 0, 1) := by decide +kernel
theorem d_M_init_54 : decode prog_11_method_1_code 54 = .ok (.bipush 41, 2) := by decide +kernel
theorem d_M_init_56 : decode prog_11_method_1_code 56 = .ok (.newarray .int, 2) := by decide +kernel
theorem d_M_init_58 : decode prog_11_method_1_code 58 = .ok (.putfield 28, 3) := by decide +kernel
theorem d_M_init_61 : decode prog_11_method_1_code 61 = .ok (.aload_n 0, 1) := by decide +kernel
theorem d_M_init_62 : decode prog_11_method_1_code 62 = .ok (.bipush 41, 2) := by decide +kernel
theorem d_M_init_64 : decode prog_11_method_1_code 64 = .ok (.newarray .int, 2) := by decide +kernel
theorem d_M_init_66 : decode prog_11_method_1_code 66 = .ok (.putfield 31, 3) := by decide +kernel
theorem d_M_init_69 : decode prog_11_method_1_code 69 = .ok (.aload_n 0, 1) := by decide +kernel
theorem d_M_init_70 : decode prog_11_method_1_code 70 = .ok (.sipush 201, 3) := by decide +kernel
theorem d_M_init_73 : decode prog_11_method_1_code 73 = .ok (.newarray .int, 2) := by decide +kernel
theorem d_M_init_75 : decode prog_11_method_1_code 75 = .ok (.putfield 34, 3) := by decide +kernel
theorem d_M_init_78 : decode prog_11_method_1_code 78 = .ok (.aload_n 0, 1) := by decide +kernel
theorem d_M_init_79 : decode prog_11_method_1_code 79 = .ok (.bipush 7, 2) := by decide +kernel
theorem d_M_init_81 : decode prog_11_method_1_code 81 = .ok (.newarray .int, 2) := by decide +kernel
theorem d_M_init_83 : decode prog_11_method_1_code 83 = .ok (.putfield 37, 3) := by decide +kernel
theorem d_M_init_86 : decode prog_11_method_1_code 86 = .ok (.aload_n 0, 1) := by decide +kernel
theorem d_M_init_87 : decode prog_11_method_1_code 87 = .ok (.iconst 3, 1) := by decide +kernel
theorem d_M_init_88 : decode prog_11_method_1_code 88 = .ok (.newarray .int, 2) := by decide +kernel
theorem d_M_init_90 : decode prog_11_method_1_code 90 = .ok (.putfield 40, 3) := by decide +kernel
theorem d_M_init_93 : decode prog_11_method_1_code 93 = .ok (.aload_n 0, 1) := by decide +kernel
theorem d_M_init_94 : decode prog_11_method_1_code 94 = .ok (.bipush 12, 2) := by decide +kernel
theorem d_M_init_96 : decode prog_11_method_1_code 96 = .ok (.newarray .int, 2) := by decide +kernel
theorem d_M_init_98 : decode prog_11_method_1_code 98 = .ok (.putfield 43, 3) := by decide +kernel
theorem d_M_init_101 : decode prog_11_method_1_code 101 = .ok (.aload_n 0, 1) := by decide +kernel
theorem d_M_init_102 : decode prog_11_method_1_code 102 = .ok (.iconst 3, 1) := by decide +kernel
theorem d_M_init_103 : decode prog_11_method_1_code 103 = .ok (.newarray .int, 2) := by decide +kernel
theorem d_M_init_105 : decode prog_11_method_1_code 105 = .ok (.putfield 46, 3) := by decide +kernel
theorem d_M_init_108 : decode prog_11_method_1_code 108 = .ok (.aload_n 0, 1) := by decide +kernel
theorem d_M_init_109 : decode prog_11_method_1_code 109 = .ok (.iconst 3, 1) := by decide +kernel
theorem d_M_init_110 : decode prog_11_method_1_code 110 = .ok (.newarray .int, 2) := by decide +kernel
theorem d_M_init_112 : decode prog_11_method_1_code 112 = .ok (.putfield 49, 3) := by decide +kernel
theorem d_M_init_115 : decode prog_11_method_1_code 115 = .ok (.aload_n 0, 1) := by decide +kernel
theorem d_M_init_116 : decode prog_11_method_1_code 116 = .ok (.sipush 180, 3) := by decide +kernel
theorem d_M_init_119 : decode prog_11_method_1_code 119 = .ok (.newarray .int, 2) := by decide +kernel
theorem d_M_init_121 : decode prog_11_method_1_code 121 = .ok (.putfield 52, 3) := by decide +kernel
theorem d_M_init_124 : decode prog_11_method_1_code 124 = .ok (.aload_n 0, 1) := by decide +kernel
theorem d_M_init_125 : decode prog_11_method_1_code 125 = .ok (.bipush 60, 2) := by decide +kernel
theorem d_M_init_127 : decode prog_11_method_1_code 127 = .ok (.newarray .int, 2) := by decide +kernel
theorem d_M_init_129 : decode prog_11_method_1_code 129 = .ok (.putfield 55, 3) := by decide +kernel
theorem d_M_init_132 : decode prog_11_method_1_code 132 = .ok (.aload_n 0, 1) := by decide +kernel
theorem d_M_init_133 : decode prog_11_method_1_code 133 = .ok (.bipush 8, 2) := by decide +kernel
theorem d_M_init_135 : decode prog_11_method_1_code 135 = .ok (.newarray .int, 2) := by decide +kernel
theorem d_M_init_137 : decode prog_11_method_1_code 137 = .ok (.putfield 58, 3) := by decide +kernel
theorem d_M_init_140 : decode prog_11_method_1_code 140 = .ok (.aload_n 0, 1) := by decide +kernel
theorem d_M_init_141 : decode prog_11_method_1_code 141 = .ok (.bipush 8, 2) := by decide +kernel
theorem d_M_init_143 : decode prog_11_method_1_code 143 = .ok (.newarray .int, 2) := by decide +kernel
theorem d_M_init_145 : decode prog_11_method_1_code 145 = .ok (.putfield 61, 3) := by decide +kernel
theorem d_M_init_148 : decode prog_11_method_1_code 148 = .ok (.aload_n 0, 1) := by decide +kernel
theorem d_M_init_149 : decode prog_11_method_1_code 149 = .ok (.bipush 8, 2) := by decide +kernel
theorem d_M_init_151 : decode prog_11_method_1_code 151 = .ok (.newarray .int, 2) := by decide +kernel
theorem d_M_init_153 : decode prog_11_method_1_code 153 = .ok (.putfield 64, 3) := by decide +kernel
theorem d_M_init_156 : decode prog_11_method_1_code 156 = .ok (.aload_n 0, 1) := by decide +kernel
theorem d_M_init_157 : decode prog_11_method_1_code 157 = .ok (.bipush 8, 2) := by decide +kernel
theorem d_M_init_159 : decode prog_11_method_1_code 159 = .ok (.newarray .int, 2) := by decide +kernel
theorem d_M_init_161 : decode prog_11_method_1_code 161 = .ok (.putfield 67, 3) := by decide +kernel
theorem d_M_init_164 : decode prog_11_method_1_code 164 = .ok (.aload_n 0, 1) := by decide +kernel
theorem d_M_init_165 : decode prog_11_method_1_code 165 = .ok (.bipush 8, 2) := by decide +kernel
theorem d_M_init_167 : decode prog_11_method_1_code 167 = .ok (.newarray .int, 2) := by decide +kernel
theorem d_M_init_169 : decode prog_11_method_1_code 169 = .ok (.putfield 70, 3) := by decide +kernel
theorem d_M_init_172 : decode prog_11_method_1_code 172 = .ok (.aload_n 0, 1) := by decide +kernel
theorem d_M_init_173 : decode prog_11_method_1_code 173 = .ok (.sipush 480, 3) := by decide +kernel
theorem d_M_init_176 : decode prog_11_method_1_code 176 = .ok (.newarray .int, 2) := by decide +kernel
theorem d_M_init_178 : decode prog_11_method_1_code 178 = .ok (.putfield 73, 3) := by decide +kernel
theorem d_M_init_181 : decode prog_11_method_1_code 181 = .ok (.aload_n 0, 1) := by decide +kernel
theorem d_M_init_182 : decode prog_11_method_1_code 182 = .ok (.bipush 60, 2) := by decide +kernel
theorem d_M_init_184 : decode prog_11_method_1_code 184 = .ok (.newarray .int, 2) := by decide +kernel
theorem d_M_init_186 : decode prog_11_method_1_code 186 = .ok (.putfield 76, 3) := by decide +kernel
theorem d_M_init_189 : decode prog_11_method_1_code 189 = .ok (.aload_n 0, 1) := by decide +kernel
theorem d_M_init_190 : decode prog_11_method_1_code 190 = .ok (.bipush 60, 2) := by decide +kernel
theorem d_M_init_192 : decode prog_11_method_1_code 192 = .ok (.newarray .boolean, 2) := by decide +kernel
theorem d_M_init_194 : decode prog_11_method_1_code 194 = .ok (.putfield 79, 3) := by decide +kernel
theorem d_M_init_197 : decode prog_11_method_1_code 197 = .ok (.aload_n 0, 1) := by decide +kernel
theorem d_M_init_198 : decode prog_11_method_1_code 198 = .ok (.bipush 60, 2) := by decide +kernel
theorem d_M_init_200 : decode prog_11_method_1_code 200 = .ok (.newarray .boolean, 2) := by decide +kernel
theorem d_M_init_202 : decode prog_11_method_1_code 202 = .ok (.putfield 83, 3) := by decide +kernel
theorem d_M_init_205 : decode prog_11_method_1_code 205 = .ok (.aload_n 0, 1) := by decide +kernel
theorem d_M_init_206 : decode prog_11_method_1_code 206 = .ok (.bipush 60, 2) := by decide +kernel
theorem d_M_init_208 : decode prog_11_method_1_code 208 = .ok (.newarray .int, 2) := by decide +kernel
theorem d_M_init_210 : decode prog_11_method_1_code 210 = .ok (.putfield 86, 3) := by decide +kernel
theorem d_M_init_213 : decode prog_11_method_1_code 213 = .ok (.aload_n 0, 1) := by decide +kernel
theorem d_M_init_214 : decode prog_11_method_1_code 214 = .ok (.bipush 64, 2) := by decide +kernel
theorem d_M_init_216 : decode prog_11_method_1_code 216 = .ok (.newarray .int, 2) := by decide +kernel
theorem d_M_init_218 : decode prog_11_method_1_code 218 = .ok (.putfield 89, 3) := by decide +kernel
theorem d_M_init_221 : decode prog_11_method_1_code 221 = .ok (.return_, 1) := by decide +kernel
set_option maxHeartbeats 4000000 in
set_option maxRecDepth 100000 in
theorem cM_init (l : Launch) (dC : Nat → ClassId) (dI : Nat → Nat → Nat) (tk : Nat → ClassId) (A : Nat → Prop) (h : Nat) (L0 : Nat → Nat) (rw : va_W) : Met l ⟨"EditorServerModel", "<init>", "()V"⟩ (Cond.code ⟨"EditorServerModel", "<init>", "()V"⟩ prog_11_method_1_code 1 none :: gW) (rmn 1 20 27 1780) (va_Pc [.ref h] (Pr dC dI tk A (oN 0 h ksM spM tk L0 rw 0))) (va_Qv (fun (_ : Nat → Nat) => True) (fun L t => Po dC dI A (oW 0 h ksM spM tk L (fun _ => 0) (fun _ _ => 0) rw) t) A) 27 1780 A := by
  refine entN (by decide) (Nat.le_of_ble_eq_true rfl) ?_
  intro p e s m args below meth c hx hb hr hml hown hlk hin hG hg hst ls hl
  have hl : lv_has ls 1 [(0, .ref h)] := hl
  refine lv_aload_n hx hb d_M_init_0 rfl (lv_at hl 0 rfl) ?_
  refine W.objInit hx hb hown (hG _ k_1013) (hG _ k_33) (hG _ k_34) rfl (by rw [hml]; exact hl.1) rfl d_M_init_1 (Nat.le_of_ble_eq_true rfl) (Nat.le_of_ble_eq_true rfl) ?_
  refine W.eq (g2 := F0 m 4 ls []) rfl ?_
  refine lv_aload_n hx hb d_M_init_4 rfl (lv_at hl 0 rfl) ?_
  refine lv_sipush (v := 200) hx hb d_M_init_5 (by decide) ?_
  refine ro_arr (at_ := .int) (ty := .int) 0 200 0 7 hx hb hown hin hG hg cM hst rfl rfl (uq (by decide)) rfl k_110 rfl (fun _ _ h9 => h9) (fun _ => rfl) (by decide) (by decide) (by decide) (by decide) (by decide) d_M_init_8 (by decide) rfl rfl rfl (fun _ => rfl) (fun _ => rfl) k_1021 d_M_init_10 (fun L1 H locs hst => ?_)
  refine W.cs (cells' := 1) (slots' := 200) rfl rfl ?_
  refine lv_aload_n hx hb d_M_init_13 rfl (lv_at hl 0 rfl) ?_
  refine lv_bipush (v := 41) hx hb d_M_init_14 (by decide) ?_
  refine ro_arr (at_ := .int) (ty := .int) 0 41 1 9 hx hb hown hin hG hg cM hst rfl rfl (uq (by decide)) rfl k_110 rfl (fun _ _ h9 => h9) (fun _ => rfl) (by decide) (by decide) (by decide) (by decide) (by decide) d_M_init_16 (by decide) rfl rfl rfl (fun _ => rfl) (fun _ => rfl) k_1023 d_M_init_18 (fun L2 H locs hst => ?_)
  refine W.cs (cells' := 2) (slots' := 241) rfl rfl ?_
  refine lv_aload_n hx hb d_M_init_21 rfl (lv_at hl 0 rfl) ?_
  refine lv_bipush (v := 41) hx hb d_M_init_22 (by decide) ?_
  refine ro_arr (at_ := .int) (ty := .int) 0 41 2 10 hx hb hown hin hG hg cM hst rfl rfl (uq (by decide)) rfl k_110 rfl (fun _ _ h9 => h9) (fun _ => rfl) (by decide) (by decide) (by decide) (by decide) (by decide) d_M_init_24 (by decide) rfl rfl rfl (fun _ => rfl) (fun _ => rfl) k_1024 d_M_init_26 (fun L3 H locs hst => ?_)
  refine W.cs (cells' := 3) (slots' := 282) rfl rfl ?_
  refine lv_aload_n hx hb d_M_init_29 rfl (lv_at hl 0 rfl) ?_
  refine lv_bipush (v := 41) hx hb d_M_init_30 (by decide) ?_
  refine ro_arr (at_ := .int) (ty := .int) 0 41 3 11 hx hb hown hin hG hg cM hst rfl rfl (uq (by decide)) rfl k_110 rfl (fun _ _ h9 => h9) (fun _ => rfl) (by decide) (by decide) (by decide) (by decide) (by decide) d_M_init_32 (by decide) rfl rfl rfl (fun _ => rfl) (fun _ => rfl) k_1025 d_M_init_34 (fun L4 H locs hst => ?_)
  refine W.cs (cells' := 4) (slots' := 323) rfl rfl ?_
  refine lv_aload_n hx hb d_M_init_37 rfl (lv_at hl 0 rfl) ?_
  refine lv_bipush (v := 41) hx hb d_M_init_38 (by decide) ?_
  refine ro_arr (at_ := .int) (ty := .int) 0 41 4 12 hx hb hown hin hG hg cM hst rfl rfl (uq (by decide)) rfl k_110 rfl (fun _ _ h9 => h9) (fun _ => rfl) (by decide) (by decide) (by decide) (by decide) (by decide) d_M_init_40 (by decide) rfl rfl rfl (fun _ => rfl) (fun _ => rfl) k_1026 d_M_init_42 (fun L5 H locs hst => ?_)
  refine W.cs (cells' := 5) (slots' := 364) rfl rfl ?_
  refine lv_aload_n hx hb d_M_init_45 rfl (lv_at hl 0 rfl) ?_
  refine lv_bipush (v := 41) hx hb d_M_init_46 (by decide) ?_
  refine ro_arr (at_ := .int) (ty := .int) 0 41 5 13 hx hb hown hin hG hg cM hst rfl rfl (uq (by decide)) rfl k_110 rfl (fun _ _ h9 => h9) (fun _ => rfl) (by decide) (by decide) (by decide) (by decide) (by decide) d_M_init_48 (by decide) rfl rfl rfl (fun _ => rfl) (fun _ => rfl) k_1027 d_M_init_50 (fun L6 H locs hst => ?_)
  refine W.cs (cells' := 6) (slots' := 405) rfl rfl ?_
  refine lv_aload_n hx hb d_M_init_53 rfl (lv_at hl 0 rfl) ?_
  refine lv_bipush (v := 41) hx hb d_M_init_54 (by decide) ?_
  refine ro_arr (at_ := .int) (ty := .int) 0 41 6 14 hx hb hown hin hG hg cM hst rfl rfl (uq (by decide)) rfl k_110 rfl (fun _ _ h9 => h9) (fun _ => rfl) (by decide) (by decide) (by decide) (by decide) (by decide) d_M_init_56 (by decide) rfl rfl rfl (fun _ => rfl) (fun _ => rfl) k_1028 d_M_init_58 (fun L7 H locs hst => ?_)
  refine W.cs (cells' := 7) (slots' := 446) rfl rfl ?_
  refine lv_aload_n hx hb d_M_init_61 rfl (lv_at hl 0 rfl) ?_
  refine lv_bipush (v := 41) hx hb d_M_init_62 (by decide) ?_
  refine ro_arr (at_ := .int) (ty := .int) 0 41 7 15 hx hb hown hin hG hg cM hst rfl rfl (uq (by decide)) rfl k_110 rfl (fun _ _ h9 => h9) (fun _ => rfl) (by decide) (by decide) (by decide) (by decide) (by decide) d_M_init_64 (by decide) rfl rfl rfl (fun _ => rfl) (fun _ => rfl) k_1029 d_M_init_66 (fun L8 H locs hst => ?_)
  refine W.cs (cells' := 8) (slots' := 487) rfl rfl ?_
  refine lv_aload_n hx hb d_M_init_69 rfl (lv_at hl 0 rfl) ?_
  refine lv_sipush (v := 201) hx hb d_M_init_70 (by decide) ?_
  refine ro_arr (at_ := .int) (ty := .int) 0 201 8 16 hx hb hown hin hG hg cM hst rfl rfl (uq (by decide)) rfl k_110 rfl (fun _ _ h9 => h9) (fun _ => rfl) (by decide) (by decide) (by decide) (by decide) (by decide) d_M_init_73 (by decide) rfl rfl rfl (fun _ => rfl) (fun _ => rfl) k_1030 d_M_init_75 (fun L9 H locs hst => ?_)
  refine W.cs (cells' := 9) (slots' := 688) rfl rfl ?_
  refine lv_aload_n hx hb d_M_init_78 rfl (lv_at hl 0 rfl) ?_
  refine lv_bipush (v := 7) hx hb d_M_init_79 (by decide) ?_
  refine ro_arr (at_ := .int) (ty := .int) 0 7 9 18 hx hb hown hin hG hg cM hst rfl rfl (uq (by decide)) rfl k_110 rfl (fun _ _ h9 => h9) (fun _ => rfl) (by decide) (by decide) (by decide) (by decide) (by decide) d_M_init_81 (by decide) rfl rfl rfl (fun _ => rfl) (fun _ => rfl) k_1032 d_M_init_83 (fun L10 H locs hst => ?_)
  refine W.cs (cells' := 10) (slots' := 695) rfl rfl ?_
  refine lv_aload_n hx hb d_M_init_86 rfl (lv_at hl 0 rfl) ?_
  refine lv_iconst (v := 3) hx hb d_M_init_87 (by decide) ?_
  refine ro_arr (at_ := .int) (ty := .int) 0 3 10 23 hx hb hown hin hG hg cM hst rfl rfl (uq (by decide)) rfl k_110 rfl (fun _ _ h9 => h9) (fun _ => rfl) (by decide) (by decide) (by decide) (by decide) (by decide) d_M_init_88 (by decide) rfl rfl rfl (fun _ => rfl) (fun _ => rfl) k_1037 d_M_init_90 (fun L11 H locs hst => ?_)
  refine W.cs (cells' := 11) (slots' := 698) rfl rfl ?_
  refine lv_aload_n hx hb d_M_init_93 rfl (lv_at hl 0 rfl) ?_
  refine lv_bipush (v := 12) hx hb d_M_init_94 (by decide) ?_
  refine ro_arr (at_ := .int) (ty := .int) 0 12 11 24 hx hb hown hin hG hg cM hst rfl rfl (uq (by decide)) rfl k_110 rfl (fun _ _ h9 => h9) (fun _ => rfl) (by decide) (by decide) (by decide) (by decide) (by decide) d_M_init_96 (by decide) rfl rfl rfl (fun _ => rfl) (fun _ => rfl) k_1038 d_M_init_98 (fun L12 H locs hst => ?_)
  refine W.cs (cells' := 12) (slots' := 710) rfl rfl ?_
  refine lv_aload_n hx hb d_M_init_101 rfl (lv_at hl 0 rfl) ?_
  refine lv_iconst (v := 3) hx hb d_M_init_102 (by decide) ?_
  refine ro_arr (at_ := .int) (ty := .int) 0 3 12 25 hx hb hown hin hG hg cM hst rfl rfl (uq (by decide)) rfl k_110 rfl (fun _ _ h9 => h9) (fun _ => rfl) (by decide) (by decide) (by decide) (by decide) (by decide) d_M_init_103 (by decide) rfl rfl rfl (fun _ => rfl) (fun _ => rfl) k_1039 d_M_init_105 (fun L13 H locs hst => ?_)
  refine W.cs (cells' := 13) (slots' := 713) rfl rfl ?_
  refine lv_aload_n hx hb d_M_init_108 rfl (lv_at hl 0 rfl) ?_
  refine lv_iconst (v := 3) hx hb d_M_init_109 (by decide) ?_
  refine ro_arr (at_ := .int) (ty := .int) 0 3 13 26 hx hb hown hin hG hg cM hst rfl rfl (uq (by decide)) rfl k_110 rfl (fun _ _ h9 => h9) (fun _ => rfl) (by decide) (by decide) (by decide) (by decide) (by decide) d_M_init_110 (by decide) rfl rfl rfl (fun _ => rfl) (fun _ => rfl) k_1040 d_M_init_112 (fun L14 H locs hst => ?_)
  refine W.cs (cells' := 14) (slots' := 716) rfl rfl ?_
  refine lv_aload_n hx hb d_M_init_115 rfl (lv_at hl 0 rfl) ?_
  refine lv_sipush (v := 180) hx hb d_M_init_116 (by decide) ?_
  refine ro_arr (at_ := .int) (ty := .int) 0 180 14 27 hx hb hown hin hG hg cM hst rfl rfl (uq (by decide)) rfl k_110 rfl (fun _ _ h9 => h9) (fun _ => rfl) (by decide) (by decide) (by decide) (by decide) (by decide) d_M_init_119 (by decide) rfl rfl rfl (fun _ => rfl) (fun _ => rfl) k_1041 d_M_init_121 (fun L15 H locs hst => ?_)
  refine W.cs (cells' := 15) (slots' := 896) rfl rfl ?_
  refine lv_aload_n hx hb d_M_init_124 rfl (lv_at hl 0 rfl) ?_
  refine lv_bipush (v := 60) hx hb d_M_init_125 (by decide) ?_
  refine ro_arr (at_ := .int) (ty := .int) 0 60 15 28 hx hb hown hin hG hg cM hst rfl rfl (uq (by decide)) rfl k_110 rfl (fun _ _ h9 => h9) (fun _ => rfl) (by decide) (by decide) (by decide) (by decide) (by decide) d_M_init_127 (by decide) rfl rfl rfl (fun _ => rfl) (fun _ => rfl) k_1042 d_M_init_129 (fun L16 H locs hst => ?_)
  refine W.cs (cells' := 16) (slots' := 956) rfl rfl ?_
  refine lv_aload_n hx hb d_M_init_132 rfl (lv_at hl 0 rfl) ?_
  refine lv_bipush (v := 8) hx hb d_M_init_133 (by decide) ?_
  refine ro_arr (at_ := .int) (ty := .int) 0 8 16 32 hx hb hown hin hG hg cM hst rfl rfl (uq (by decide)) rfl k_110 rfl (fun _ _ h9 => h9) (fun _ => rfl) (by decide) (by decide) (by decide) (by decide) (by decide) d_M_init_135 (by decide) rfl rfl rfl (fun _ => rfl) (fun _ => rfl) k_1046 d_M_init_137 (fun L17 H locs hst => ?_)
  refine W.cs (cells' := 17) (slots' := 964) rfl rfl ?_
  refine lv_aload_n hx hb d_M_init_140 rfl (lv_at hl 0 rfl) ?_
  refine lv_bipush (v := 8) hx hb d_M_init_141 (by decide) ?_
  refine ro_arr (at_ := .int) (ty := .int) 0 8 17 33 hx hb hown hin hG hg cM hst rfl rfl (uq (by decide)) rfl k_110 rfl (fun _ _ h9 => h9) (fun _ => rfl) (by decide) (by decide) (by decide) (by decide) (by decide) d_M_init_143 (by decide) rfl rfl rfl (fun _ => rfl) (fun _ => rfl) k_1047 d_M_init_145 (fun L18 H locs hst => ?_)
  refine W.cs (cells' := 18) (slots' := 972) rfl rfl ?_
  refine lv_aload_n hx hb d_M_init_148 rfl (lv_at hl 0 rfl) ?_
  refine lv_bipush (v := 8) hx hb d_M_init_149 (by decide) ?_
  refine ro_arr (at_ := .int) (ty := .int) 0 8 18 34 hx hb hown hin hG hg cM hst rfl rfl (uq (by decide)) rfl k_110 rfl (fun _ _ h9 => h9) (fun _ => rfl) (by decide) (by decide) (by decide) (by decide) (by decide) d_M_init_151 (by decide) rfl rfl rfl (fun _ => rfl) (fun _ => rfl) k_1048 d_M_init_153 (fun L19 H locs hst => ?_)
  refine W.cs (cells' := 19) (slots' := 980) rfl rfl ?_
  refine lv_aload_n hx hb d_M_init_156 rfl (lv_at hl 0 rfl) ?_
  refine lv_bipush (v := 8) hx hb d_M_init_157 (by decide) ?_
  refine ro_arr (at_ := .int) (ty := .int) 0 8 19 35 hx hb hown hin hG hg cM hst rfl rfl (uq (by decide)) rfl k_110 rfl (fun _ _ h9 => h9) (fun _ => rfl) (by decide) (by decide) (by decide) (by decide) (by decide) d_M_init_159 (by decide) rfl rfl rfl (fun _ => rfl) (fun _ => rfl) k_1049 d_M_init_161 (fun L20 H locs hst => ?_)
  refine W.cs (cells' := 20) (slots' := 988) rfl rfl ?_
  refine lv_aload_n hx hb d_M_init_164 rfl (lv_at hl 0 rfl) ?_
  refine lv_bipush (v := 8) hx hb d_M_init_165 (by decide) ?_
  refine ro_arr (at_ := .int) (ty := .int) 0 8 20 36 hx hb hown hin hG hg cM hst rfl rfl (uq (by decide)) rfl k_110 rfl (fun _ _ h9 => h9) (fun _ => rfl) (by decide) (by decide) (by decide) (by decide) (by decide) d_M_init_167 (by decide) rfl rfl rfl (fun _ => rfl) (fun _ => rfl) k_1050 d_M_init_169 (fun L21 H locs hst => ?_)
  refine W.cs (cells' := 21) (slots' := 996) rfl rfl ?_
  refine lv_aload_n hx hb d_M_init_172 rfl (lv_at hl 0 rfl) ?_
  refine lv_sipush (v := 480) hx hb d_M_init_173 (by decide) ?_
  refine ro_arr (at_ := .int) (ty := .int) 0 480 21 37 hx hb hown hin hG hg cM hst rfl rfl (uq (by decide)) rfl k_110 rfl (fun _ _ h9 => h9) (fun _ => rfl) (by decide) (by decide) (by decide) (by decide) (by decide) d_M_init_176 (by decide) rfl rfl rfl (fun _ => rfl) (fun _ => rfl) k_1051 d_M_init_178 (fun L22 H locs hst => ?_)
  refine W.cs (cells' := 22) (slots' := 1476) rfl rfl ?_
  refine lv_aload_n hx hb d_M_init_181 rfl (lv_at hl 0 rfl) ?_
  refine lv_bipush (v := 60) hx hb d_M_init_182 (by decide) ?_
  refine ro_arr (at_ := .int) (ty := .int) 0 60 22 39 hx hb hown hin hG hg cM hst rfl rfl (uq (by decide)) rfl k_110 rfl (fun _ _ h9 => h9) (fun _ => rfl) (by decide) (by decide) (by decide) (by decide) (by decide) d_M_init_184 (by decide) rfl rfl rfl (fun _ => rfl) (fun _ => rfl) k_1053 d_M_init_186 (fun L23 H locs hst => ?_)
  refine W.cs (cells' := 23) (slots' := 1536) rfl rfl ?_
  refine lv_aload_n hx hb d_M_init_189 rfl (lv_at hl 0 rfl) ?_
  refine lv_bipush (v := 60) hx hb d_M_init_190 (by decide) ?_
  refine ro_arr (at_ := .boolean) (ty := .boolean) 2 60 23 40 hx hb hown hin hG hg cM hst rfl rfl (uq (by decide)) rfl k_258 rfl (fun _ _ h9 => h9) (fun _ => rfl) (by decide) (by decide) (by decide) (by decide) (by decide) d_M_init_192 (by decide) rfl rfl rfl (fun _ => rfl) (fun _ => rfl) k_1054 d_M_init_194 (fun L24 H locs hst => ?_)
  refine W.cs (cells' := 24) (slots' := 1596) rfl rfl ?_
  refine lv_aload_n hx hb d_M_init_197 rfl (lv_at hl 0 rfl) ?_
  refine lv_bipush (v := 60) hx hb d_M_init_198 (by decide) ?_
  refine ro_arr (at_ := .boolean) (ty := .boolean) 2 60 24 41 hx hb hown hin hG hg cM hst rfl rfl (uq (by decide)) rfl k_258 rfl (fun _ _ h9 => h9) (fun _ => rfl) (by decide) (by decide) (by decide) (by decide) (by decide) d_M_init_200 (by decide) rfl rfl rfl (fun _ => rfl) (fun _ => rfl) k_1055 d_M_init_202 (fun L25 H locs hst => ?_)
  refine W.cs (cells' := 25) (slots' := 1656) rfl rfl ?_
  refine lv_aload_n hx hb d_M_init_205 rfl (lv_at hl 0 rfl) ?_
  refine lv_bipush (v := 60) hx hb d_M_init_206 (by decide) ?_
  refine ro_arr (at_ := .int) (ty := .int) 0 60 25 42 hx hb hown hin hG hg cM hst rfl rfl (uq (by decide)) rfl k_110 rfl (fun _ _ h9 => h9) (fun _ => rfl) (by decide) (by decide) (by decide) (by decide) (by decide) d_M_init_208 (by decide) rfl rfl rfl (fun _ => rfl) (fun _ => rfl) k_1056 d_M_init_210 (fun L26 H locs hst => ?_)
  refine W.cs (cells' := 26) (slots' := 1716) rfl rfl ?_
  refine lv_aload_n hx hb d_M_init_213 rfl (lv_at hl 0 rfl) ?_
  refine lv_bipush (v := 64) hx hb d_M_init_214 (by decide) ?_
  refine ro_arr (at_ := .int) (ty := .int) 0 64 26 43 hx hb hown hin hG hg cM hst rfl rfl (uq (by decide)) rfl k_110 rfl (fun _ _ h9 => h9) (fun _ => rfl) (by decide) (by decide) (by decide) (by decide) (by decide) d_M_init_216 (by decide) rfl rfl rfl (fun _ => rfl) (fun _ => rfl) k_1057 d_M_init_218 (fun L27 H locs hst => ?_)
  refine W.cs (cells' := 27) (slots' := 1780) rfl rfl ?_
  rw [oN_full (fl (by decide)) (by decide)] at hst
  exact rt_vn (u := L27) (wf := fun L => oW 0 h ksM spM tk L (fun _ => 0) (fun _ _ => 0) rw) hx hb hr hlk hst d_M_init_221
