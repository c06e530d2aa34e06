def mM_ignored (n : Nat) (g : aG) (a : aA) : Option (Int32 × aG) := lt (va_up g 45 0) (fun g1 => some (((g1 30), g1)))
theorem d_M_ignored_0 : decode prog_11_method_52_code 0 = .ok (.aload_n 0, 1) := by decide +kernel
theorem d_M_ignored_1 : decode prog_11_method_52_code 1 = .ok (.iconst 0, 1) := by decide +kernel
theorem d_M_ignored_2 : decode prog_11_method_52_code 2 = .ok (.putfield 92, 3) := by decide +kernel
theorem d_M_ignored_5 : decode prog_11_method_52_code 5 = .ok (.aload_n 0, 1) := by decide +kernel
theorem d_M_ignored_6 : decode prog_11_method_52_code 6 = .ok (.getfield 245, 3) := by decide +kernel
theorem d_M_ignored_9 : decode prog_11_method_52_code 9 = .ok (.ireturn, 1) := by decide +kernel
set_option maxHeartbeats 4000000 in
set_option maxRecDepth 100000 in
theorem cM_ignored (l : Launch) (dC : Nat → ClassId) (dI : Nat → Nat → Nat) (tk : Nat → ClassId) (A : Nat → Prop) (h : Nat) (L : Nat → Nat) (g : aG) (a : aA) (rw : va_W) (n : Nat) (r0 : Int32) (g0 : aG) (hm : mM_ignored n g a = some (r0, g0)) : CtI l dC dI tk A ⟨"EditorServerModel", "ignored", "()I"⟩ prog_11_method_52_code 1 (some .int) 0 0 [.ref h] (oW 0 h ksM spM tk L g a rw) r0 (oW 0 h ksM spM tk L g0 a rw) := by
  refine ent (by decide) (Nat.le_of_ble_eq_true rfl) ?_
  intro p e s m args below meth c hx hb hr hml hown hlk hG hg hst ls hl
  unfold mM_ignored at hm
  have hl : lv_has ls 1 [(0, .ref h)] := hl
  refine lv_aload_n hx hb d_M_ignored_0 rfl (lv_at hl 0 rfl) ?_
  refine lv_iconst (v := 0) hx hb d_M_ignored_1 (by decide) ?_
  refine ro_puti hx hb hown hG hg cM hst 45 (by decide) rfl rfl rfl rfl rfl k_1059 d_M_ignored_2 (fun g1 H locs eg1 hst => ?_)
  have hm := lt_u hm g1 eg1
  refine lv_aload_n hx hb d_M_ignored_5 rfl (lv_at hl 0 rfl) ?_
  refine ro_geti hx hb hown hG hg cM hst 30 (by decide) rfl rfl k_1044 d_M_ignored_6 ?_
  have he := (Option.some.inj hm)
  cases he
  exact rt_i hx hb hr hlk rfl hst rfl d_M_ignored_9
def mM_documents (n : Nat) (g : aG) (a : aA) : Option (Int32 × aG) := lt (va_up g 45 0) (fun g1 => some (((g1 22), g1)))
theorem d_M_documents_0 : decode prog_11_method_53_code 0 = .ok (.aload_n 0, 1) := by decide +kernel
theorem d_M_documents_1 : decode prog_11_method_53_code 1 = .ok (.iconst 0, 1) := by decide +kernel
theorem d_M_documents_2 : decode prog_11_method_53_code 2 = .ok (.putfield 92, 3) := by decide +kernel
theorem d_M_documents_5 : decode prog_11_method_53_code 5 = .ok (.aload_n 0, 1) := by decide +kernel
theorem d_M_documents_6 : decode prog_11_method_53_code 6 = .ok (.getfield 228, 3) := by decide +kernel
theorem d_M_documents_9 : decode prog_11_method_53_code 9 = .ok (.ireturn, 1) := by decide +kernel
set_option maxHeartbeats 4000000 in
set_option maxRecDepth 100000 in
theorem cM_documents (l : Launch) (dC : Nat → ClassId) (dI : Nat → Nat → Nat) (tk : Nat → ClassId) (A : Nat → Prop) (h : Nat) (L : Nat → Nat) (g : aG) (a : aA) (rw : va_W) (n : Nat) (r0 : Int32) (g0 : aG) (hm : mM_documents n g a = some (r0, g0)) : CtI l dC dI tk A ⟨"EditorServerModel", "documents", "()I"⟩ prog_11_method_53_code 1 (some .int) 0 0 [.ref h] (oW 0 h ksM spM tk L g a rw) r0 (oW 0 h ksM spM tk L g0 a rw) := by
  refine ent (by decide) (Nat.le_of_ble_eq_true rfl) ?_
  intro p e s m args below meth c hx hb hr hml hown hlk hG hg hst ls hl
  unfold mM_documents at hm
  have hl : lv_has ls 1 [(0, .ref h)] := hl
  refine lv_aload_n hx hb d_M_documents_0 rfl (lv_at hl 0 rfl) ?_
  refine lv_iconst (v := 0) hx hb d_M_documents_1 (by decide) ?_
  refine ro_puti hx hb hown hG hg cM hst 45 (by decide) rfl rfl rfl rfl rfl k_1059 d_M_documents_2 (fun g1 H locs eg1 hst => ?_)
  have hm := lt_u hm g1 eg1
  refine lv_aload_n hx hb d_M_documents_5 rfl (lv_at hl 0 rfl) ?_
  refine ro_geti hx hb hown hG hg cM hst 22 (by decide) rfl rfl k_1036 d_M_documents_6 ?_
  have he := (Option.some.inj hm)
  cases he
  exact rt_i hx hb hr hlk rfl hst rfl d_M_documents_9
def mM_isDocument (n : Nat) (v1 : Int32) (g : aG) (a : aA) : Option (Int32) := if v1 < 0 then (some (0)) else (if (g 22) ≤ v1 then (some (0)) else (some (1)))
theorem d_M_isDocument_0 : decode prog_11_method_54_code 0 = .ok (.iload_n 1, 1) := by decide +kernel
theorem d_M_isDocument_1 : decode prog_11_method_54_code 1 = .ok (.ifCond .lt 15, 3) := by decide +kernel
theorem d_M_isDocument_4 : decode prog_11_method_54_code 4 = .ok (.iload_n 1, 1) := by decide +kernel
theorem d_M_isDocument_5 : decode prog_11_method_54_code 5 = .ok (.aload_n 0, 1) := by decide +kernel
theorem d_M_isDocument_6 : decode prog_11_method_54_code 6 = .ok (.getfield 228, 3) := by decide +kernel
theorem d_M_isDocument_9 : decode prog_11_method_54_code 9 = .ok (.if_icmp .ge 7, 3) := by decide +kernel
theorem d_M_isDocument_12 : decode prog_11_method_54_code 12 = .ok (.iconst 1, 1) := by decide +kernel
theorem d_M_isDocument_13 : decode prog_11_method_54_code 13 = .ok (.goto 4, 3) := by decide +kernel
theorem d_M_isDocument_16 : decode prog_11_method_54_code 16 = .ok (.iconst 0, 1) := by decide +kernel
theorem d_M_isDocument_17 : decode prog_11_method_54_code 17 = .ok (.ireturn, 1) := by decide +kernel
set_option maxHeartbeats 4000000 in
set_option maxRecDepth 100000 in
theorem cM_isDocument (l : Launch) (dC : Nat → ClassId) (dI : Nat → Nat → Nat) (tk : Nat → ClassId) (A : Nat → Prop) (h : Nat) (L : Nat → Nat) (g : aG) (a : aA) (rw : va_W) (n : Nat) (v1 : Int32) (r0 : Int32) (hm : mM_isDocument n v1 g a = some r0) : CtI l dC dI tk A ⟨"EditorServerModel", "isDocument", "(I)Z"⟩ prog_11_method_54_code 2 (some .boolean) 0 0 [.ref h, .int v1] (oW 0 h ksM spM tk L g a rw) r0 (oW 0 h ksM spM tk L g a rw) := by
  refine ent (by decide) (Nat.le_of_ble_eq_true rfl) ?_
  intro p e s m args below meth c hx hb hr hml hown hlk hG hg hst ls hl
  unfold mM_isDocument at hm
  have hl : lv_has ls 2 [(0, .ref h), (1, .int v1)] := hl
  refine lv_iload_n hx hb d_M_isDocument_0 rfl (lv_at hl 1 rfl) ?_
  refine lv_if_lt (tgt := 16) hx hb d_M_isDocument_1 (by decide) (fun h1 => ?_) (fun h1 => ?_)
  · have hm := it_t hm h1
    refine lv_iconst (v := 0) hx hb d_M_isDocument_16 (by decide) ?_
    have he := (Option.some.inj hm)
    cases he
    exact rt_i hx hb hr hlk (by decide) hst rfl d_M_isDocument_17
  · have hm := it_f hm h1
    refine lv_iload_n hx hb d_M_isDocument_4 rfl (lv_at hl 1 rfl) ?_
    refine lv_aload_n hx hb d_M_isDocument_5 rfl (lv_at hl 0 rfl) ?_
    refine ro_geti hx hb hown hG hg cM hst 22 (by decide) rfl rfl k_1036 d_M_isDocument_6 ?_
    refine lv_icmp_ge (tgt := 16) hx hb d_M_isDocument_9 (by decide) (fun h2 => ?_) (fun h2 => ?_)
    · have hm := it_t hm h2
      refine lv_iconst (v := 0) hx hb d_M_isDocument_16 (by decide) ?_
      have he := (Option.some.inj hm)
      cases he
      exact rt_i hx hb hr hlk (by decide) hst rfl d_M_isDocument_17
    · have hm := it_f hm h2
      refine lv_iconst (v := 1) hx hb d_M_isDocument_12 (by decide) ?_
      refine lv_goto (tgt := 17) hx hb d_M_isDocument_13 (by decide) ?_
      have he := (Option.some.inj hm)
      cases he
      exact rt_i hx hb hr hlk (by decide) hst rfl d_M_isDocument_17
def mM_document (n : Nat) (v1 : Int32) (v2 : Int32) (g : aG) (a : aA) : Option (Int32 × aG) := lt (va_up g 45 0) (fun g1 => bd (mM_isDocument n v1 g1 a) (fun x3 => if x3 = 0 then (bd (mM_fail n 1 g1 a) (fun q25 => some ((q25.1, q25.2)))) else (if v2 = 0 then (gd (inb v1 3) (lt (a 12 v1.toNatClampNeg) (fun x8 => some ((x8, g1))))) else (if v2 = 1 then (gd (inb v1 3) (lt (a 13 v1.toNatClampNeg) (fun x11 => some ((x11, g1))))) else (if v2 = 2 then (gd (inb v1 3) (lt (a 10 v1.toNatClampNeg) (fun x14 => some ((x14, g1))))) else (if v2 = 3 then (gd (inb v1 3) (lt (a 13 v1.toNatClampNeg) (fun x17 => bd (mM_linesOf n (a 14) 180 (60 * v1) x17) (fun x19 => some ((x19, g1)))))) else (bd (mM_fail n 2 g1 a) (fun q21 => some ((q21.1, q21.2))))))))))
theorem d_M_document_0 : decode prog_11_method_55_code 0 = .ok (.aload_n 0, 1) := by decide +kernel
theorem d_M_document_1 : decode prog_11_method_55_code 1 = .ok (.iconst 0, 1) := by decide +kernel
theorem d_M_document_2 : decode prog_11_method_55_code 2 = .ok (.putfield 92, 3) := by decide +kernel
theorem d_M_document_5 : decode prog_11_method_55_code 5 = .ok (.aload_n 0, 1) := by decide +kernel
theorem d_M_document_6 : decode prog_11_method_55_code 6 = .ok (.iload_n 1, 1) := by decide +kernel
theorem d_M_document_7 : decode prog_11_method_55_code 7 = .ok (.invokevirtual 289, 3) := by decide +kernel
theorem d_M_document_10 : decode prog_11_method_55_code 10 = .ok (.ifCond .ne 9, 3) := by decide +kernel
theorem d_M_document_13 : decode prog_11_method_55_code 13 = .ok (.aload_n 0, 1) := by decide +kernel
theorem d_M_document_14 : decode prog_11_method_55_code 14 = .ok (.iconst 1, 1) := by decide +kernel
theorem d_M_document_15 : decode prog_11_method_55_code 15 = .ok (.invokevirtual 270, 3) := by decide +kernel
theorem d_M_document_18 : decode prog_11_method_55_code 18 = .ok (.ireturn, 1) := by decide +kernel
theorem d_M_document_19 : decode prog_11_method_55_code 19 = .ok (.iload_n 2, 1) := by decide +kernel
theorem d_M_document_20 : decode prog_11_method_55_code 20 = .ok (.tableswitch 71 0 3 #[32, 39, 46, 53], 32) := by decide +kernel
theorem d_M_document_52 : decode prog_11_method_55_code 52 = .ok (.aload_n 0, 1) := by decide +kernel
theorem d_M_document_53 : decode prog_11_method_55_code 53 = .ok (.getfield 46, 3) := by decide +kernel
theorem d_M_document_56 : decode prog_11_method_55_code 56 = .ok (.iload_n 1, 1) := by decide +kernel
theorem d_M_document_57 : decode prog_11_method_55_code 57 = .ok (.iaload, 1) := by decide +kernel
theorem d_M_document_58 : decode prog_11_method_55_code 58 = .ok (.ireturn, 1) := by decide +kernel
theorem d_M_document_59 : decode prog_11_method_55_code 59 = .ok (.aload_n 0, 1) := by decide +kernel
theorem d_M_document_60 : decode prog_11_method_55_code 60 = .ok (.getfield 49, 3) := by decide +kernel
theorem d_M_document_63 : decode prog_11_method_55_code 63 = .ok (.iload_n 1, 1) := by decide +kernel
theorem d_M_document_64 : decode prog_11_method_55_code 64 = .ok (.iaload, 1) := by decide +kernel
theorem d_M_document_65 : decode prog_11_method_55_code 65 = .ok (.ireturn, 1) := by decide +kernel
theorem d_M_document_66 : decode prog_11_method_55_code 66 = .ok (.aload_n 0, 1) := by decide +kernel
theorem d_M_document_67 : decode prog_11_method_55_code 67 = .ok (.getfield 40, 3) := by decide +kernel
theorem d_M_document_70 : decode prog_11_method_55_code 70 = .ok (.iload_n 1, 1) := by decide +kernel
theorem d_M_document_71 : decode prog_11_method_55_code 71 = .ok (.iaload, 1) := by decide +kernel
theorem d_M_document_72 : decode prog_11_method_55_code 72 = .ok (.ireturn, 1) := by decide +kernel
theorem d_M_document_73 : decode prog_11_method_55_code 73 = .ok (.aload_n 0, 1) := by decide +kernel
theorem d_M_document_74 : decode prog_11_method_55_code 74 = .ok (.getfield 52, 3) := by decide +kernel
theorem d_M_document_77 : decode prog_11_method_55_code 77 = .ok (.bipush 60, 2) := by decide +kernel
theorem d_M_document_79 : decode prog_11_method_55_code 79 = .ok (.iload_n 1, 1) := by decide +kernel
theorem d_M_document_80 : decode prog_11_method_55_code 80 = .ok (.imul, 1) := by decide +kernel
theorem d_M_document_81 : decode prog_11_method_55_code 81 = .ok (.aload_n 0, 1) := by decide +kernel
theorem d_M_document_82 : decode prog_11_method_55_code 82 = .ok (.getfield 49, 3) := by decide +kernel
theorem d_M_document_85 : decode prog_11_method_55_code 85 = .ok (.iload_n 1, 1) := by decide +kernel
theorem d_M_document_86 : decode prog_11_method_55_code 86 = .ok (.iaload, 1) := by decide +kernel
theorem d_M_document_87 : decode prog_11_method_55_code 87 = .ok (.invokestatic 266, 3) := by decide +kernel
theorem d_M_document_90 : decode prog_11_method_55_code 90 = .ok (.ireturn, 1) := by decide +kernel
theorem d_M_document_91 : decode prog_11_method_55_code 91 = .ok (.aload_n 0, 1) := by decide +kernel
theorem d_M_document_92 : decode prog_11_method_55_code 92 = .ok (.iconst 2, 1) := by decide +kernel
theorem d_M_document_93 : decode prog_11_method_55_code 93 = .ok (.invokevirtual 270, 3) := by decide +kernel
theorem d_M_document_96 : decode prog_11_method_55_code 96 = .ok (.ireturn, 1) := by decide +kernel
set_option maxHeartbeats 4000000 in
set_option maxRecDepth 100000 in
theorem cM_document (l : Launch) (dC : Nat → ClassId) (dI : Nat → Nat → Nat) (tk : Nat → ClassId) (A : Nat → Prop) (h : Nat) (L : Nat → Nat) (g : aG) (a : aA) (rw : va_W) (n : Nat) (v1 : Int32) (v2 : Int32) (r0 : Int32) (g0 : aG) (hm : mM_document n v1 v2 g a = some (r0, g0)) : CtI l dC dI tk A ⟨"EditorServerModel", "document", "(II)I"⟩ prog_11_method_55_code 3 (some .int) 1 24 [.ref h, .int v1, .int v2] (oW 0 h ksM spM tk L g a rw) r0 (oW 0 h ksM spM tk L g0 a rw) := by
  refine ent (by decide) (Nat.le_of_ble_eq_true rfl) ?_
  intro p e s m args below meth c hx hb hr hml hown hlk hG hg hst ls hl
  unfold mM_document at hm
  have hl : lv_has ls 3 [(0, .ref h), (1, .int v1), (2, .int v2)] := hl
  refine lv_aload_n hx hb d_M_document_0 rfl (lv_at hl 0 rfl) ?_
  refine lv_iconst (v := 0) hx hb d_M_document_1 (by decide) ?_
  refine ro_puti hx hb hown hG hg cM hst 45 (by decide) rfl rfl rfl rfl rfl k_1059 d_M_document_2 (fun g1 H locs eg1 hst => ?_)
  have hm := lt_u hm g1 eg1
  refine lv_aload_n hx hb d_M_document_5 rfl (lv_at hl 0 rfl) ?_
  refine lv_iload_n hx hb d_M_document_6 rfl (lv_at hl 1 rfl) ?_
  obtain ⟨x3, hc4, hm⟩ := bd_u hm
  refine cl_vi hx hb hml hown hG hg (cM_isDocument l dC dI tk A h L g1 a rw n v1 _ hc4) (cw_v 1 hG k_1363 k_1365 s_62 k_14 k_1366 (by decide +kernel) ⟨by decide, by decide⟩) hst rfl oW_0 rfl hl.1 rfl (Nat.le_of_ble_eq_true rfl) ⟨Nat.le_refl 0, Nat.le_refl 0⟩ d_M_document_7 (fun H locs hst => ?_)
  refine lv_if_ne (tgt := 19) hx hb d_M_document_10 (by decide) (fun h5 => ?_) (fun h5 => ?_)
  · have hm := it_f hm h5
    refine lv_iload_n hx hb d_M_document_19 rfl (lv_at hl 2 rfl) ?_
    by_cases h6 : v2 = 0
    · have hm := it_t hm h6
      refine lv_tableIn (off := 32) (tgt := 52) hx hb d_M_document_20 (by rw [h6]; decide) (by rw [h6]; decide) (by rw [h6]; rfl) (by decide) ?_
      refine lv_aload_n hx hb d_M_document_52 rfl (lv_at hl 0 rfl) ?_
      refine ro_geta hx hb hown hG hg cM hst 25 12 (by decide) rfl rfl k_1039 d_M_document_53 ?_
      refine lv_iload_n hx hb d_M_document_56 rfl (lv_at hl 1 rfl) ?_
      obtain ⟨hn7, hm⟩ := gd_u hm
      refine ro_iald hx hb hg hst 12 rfl hn7 d_M_document_57 ?_
      refine lv_topi (fun x8 ex8 => ?_)
      have hm := lt_u hm x8 ex8
      have he := (Option.some.inj hm)
      cases he
      exact rt_i hx hb hr hlk rfl hst rfl d_M_document_58
    have hm := it_f hm h6
    by_cases h9 : v2 = 1
    · have hm := it_t hm h9
      refine lv_tableIn (off := 39) (tgt := 59) hx hb d_M_document_20 (by rw [h9]; decide) (by rw [h9]; decide) (by rw [h9]; rfl) (by decide) ?_
      refine lv_aload_n hx hb d_M_document_59 rfl (lv_at hl 0 rfl) ?_
      refine ro_geta hx hb hown hG hg cM hst 26 13 (by decide) rfl rfl k_1040 d_M_document_60 ?_
      refine lv_iload_n hx hb d_M_document_63 rfl (lv_at hl 1 rfl) ?_
      obtain ⟨hn10, hm⟩ := gd_u hm
      refine ro_iald hx hb hg hst 13 rfl hn10 d_M_document_64 ?_
      refine lv_topi (fun x11 ex11 => ?_)
      have hm := lt_u hm x11 ex11
      have he := (Option.some.inj hm)
      cases he
      exact rt_i hx hb hr hlk rfl hst rfl d_M_document_65
    have hm := it_f hm h9
    by_cases h12 : v2 = 2
    · have hm := it_t hm h12
      refine lv_tableIn (off := 46) (tgt := 66) hx hb d_M_document_20 (by rw [h12]; decide) (by rw [h12]; decide) (by rw [h12]; rfl) (by decide) ?_
      refine lv_aload_n hx hb d_M_document_66 rfl (lv_at hl 0 rfl) ?_
      refine ro_geta hx hb hown hG hg cM hst 23 10 (by decide) rfl rfl k_1037 d_M_document_67 ?_
      refine lv_iload_n hx hb d_M_document_70 rfl (lv_at hl 1 rfl) ?_
      obtain ⟨hn13, hm⟩ := gd_u hm
      refine ro_iald hx hb hg hst 10 rfl hn13 d_M_document_71 ?_
      refine lv_topi (fun x14 ex14 => ?_)
      have hm := lt_u hm x14 ex14
      have he := (Option.some.inj hm)
      cases he
      exact rt_i hx hb hr hlk rfl hst rfl d_M_document_72
    have hm := it_f hm h12
    by_cases h15 : v2 = 3
    · have hm := it_t hm h15
      refine lv_tableIn (off := 53) (tgt := 73) hx hb d_M_document_20 (by rw [h15]; decide) (by rw [h15]; decide) (by rw [h15]; rfl) (by decide) ?_
      refine lv_aload_n hx hb d_M_document_73 rfl (lv_at hl 0 rfl) ?_
      refine ro_geta hx hb hown hG hg cM hst 27 14 (by decide) rfl rfl k_1041 d_M_document_74 ?_
      refine lv_bipush (v := 60) hx hb d_M_document_77 (by decide) ?_
      refine lv_iload_n hx hb d_M_document_79 rfl (lv_at hl 1 rfl) ?_
      refine lv_imul hx hb d_M_document_80 ?_
      refine lv_aload_n hx hb d_M_document_81 rfl (lv_at hl 0 rfl) ?_
      refine ro_geta hx hb hown hG hg cM hst 26 13 (by decide) rfl rfl k_1040 d_M_document_82 ?_
      refine lv_iload_n hx hb d_M_document_85 rfl (lv_at hl 1 rfl) ?_
      obtain ⟨hn16, hm⟩ := gd_u hm
      refine ro_iald hx hb hg hst 13 rfl hn16 d_M_document_86 ?_
      refine lv_topi (fun x17 ex17 => ?_)
      have hm := lt_u hm x17 ex17
      obtain ⟨x19, hc20, hm⟩ := bd_u hm
      refine cl_si hx hb hml hown hG hg (cM_linesOf l dC dI tk A h L g1 a rw n 14 180 rfl (60 * v1) x17 _ hc20) (cw_s 3 hG k_1287 k_1288 k_14 k_1289 (by decide +kernel) ⟨by decide, by decide⟩) hst rfl hl.1 rfl (Nat.le_of_ble_eq_true rfl) ⟨Nat.le_refl 0, Nat.le_refl 0⟩ d_M_document_87 (fun H locs hst => ?_)
      have he := (Option.some.inj hm)
      cases he
      exact rt_i hx hb hr hlk rfl hst rfl d_M_document_90
    have hm := it_f hm h15
    refine lv_tableOut (tgt := 91) hx hb d_M_document_20 (sw_out4 h6 h9 h12 h15) (by decide) ?_
    refine lv_aload_n hx hb d_M_document_91 rfl (lv_at hl 0 rfl) ?_
    refine lv_iconst (v := 2) hx hb d_M_document_92 (by decide) ?_
    obtain ⟨⟨x22, g23⟩, hc24, hm⟩ := bd_u hm
    dsimp only at hm
    refine cl_vi hx hb hml hown hG hg (cM_fail l dC dI tk A h L g1 a rw n 2 _ _ hc24) (cw_v 1 hG k_1307 k_1309 s_57 k_14 k_1310 (by decide +kernel) ⟨by decide, by decide⟩) hst rfl oW_0 rfl hl.1 rfl (Nat.le_of_ble_eq_true rfl) ⟨Nat.le_refl 0, Nat.le_refl 0⟩ d_M_document_93 (fun H locs hst => ?_)
    have he := (Option.some.inj hm)
    cases he
    exact rt_i hx hb hr hlk rfl hst rfl d_M_document_96
  · have hm := it_t hm h5
    refine lv_aload_n hx hb d_M_document_13 rfl (lv_at hl 0 rfl) ?_
    refine lv_iconst (v := 1) hx hb d_M_document_14 (by decide) ?_
    obtain ⟨⟨x26, g27⟩, hc28, hm⟩ := bd_u hm
    dsimp only at hm
    refine cl_vi hx hb hml hown hG hg (cM_fail l dC dI tk A h L g1 a rw n 1 _ _ hc28) (cw_v 1 hG k_1307 k_1309 s_57 k_14 k_1310 (by decide +kernel) ⟨by decide, by decide⟩) hst rfl oW_0 rfl hl.1 rfl (Nat.le_of_ble_eq_true rfl) ⟨Nat.le_refl 0, Nat.le_refl 0⟩ d_M_document_15 (fun H locs hst => ?_)
    have he := (Option.some.inj hm)
    cases he
    exact rt_i hx hb hr hlk rfl hst rfl d_M_document_18
def mM_text (n : Nat) (v1 : Int32) (v2 : Int32) (g : aG) (a : aA) : Option (Int32 × aG) := lt (va_up g 45 0) (fun g1 => bd (mM_isDocument n v1 g1 a) (fun x3 => jn (α := Unit) (if x3 = 0 then (some (.inl ())) else (if v2 < 0 then (some (.inl ())) else (gd (inb v1 3) (lt (a 13 v1.toNatClampNeg) (fun x16 => if x16 ≤ v2 then (some (.inl ())) else (gd (inb ((60 * v1) + v2) 180) (lt (a 14 ((60 * v1) + v2).toNatClampNeg) (fun x19 => gd (okc ((x19.toUInt32 % 65536).toInt32)) (some (.inr (((x19.toUInt32 % 65536).toInt32, g1)))))))))))) (fun _ => bd (mM_fail n 1 g1 a) (fun q8 => gd (okc ((q8.1.toUInt32 % 65536).toInt32)) (some (((q8.1.toUInt32 % 65536).toInt32, q8.2)))))))
theorem d_M_text_0 : decode prog_11_method_56_code 0 = .ok (.aload_n 0, 1) := by decide +kernel
theorem d_M_text_1 : decode prog_11_method_56_code 1 = .ok (.iconst 0, 1) := by decide +kernel
theorem d_M_text_2 : decode prog_11_method_56_code 2 = .ok (.putfield 92, 3) := by decide +kernel
theorem d_M_text_5 : decode prog_11_method_56_code 5 = .ok (.aload_n 0, 1) := by decide +kernel
theorem d_M_text_6 : decode prog_11_method_56_code 6 = .ok (.iload_n 1, 1) := by decide +kernel
theorem d_M_text_7 : decode prog_11_method_56_code 7 = .ok (.invokevirtual 289, 3) := by decide +kernel
theorem d_M_text_10 : decode prog_11_method_56_code 10 = .ok (.ifCond .eq 32, 3) := by decide +kernel
theorem d_M_text_13 : decode prog_11_method_56_code 13 = .ok (.iload_n 2, 1) := by decide +kernel
theorem d_M_text_14 : decode prog_11_method_56_code 14 = .ok (.ifCond .lt 28, 3) := by decide +kernel
theorem d_M_text_17 : decode prog_11_method_56_code 17 = .ok (.iload_n 2, 1) := by decide +kernel
theorem d_M_text_18 : decode prog_11_method_56_code 18 = .ok (.aload_n 0, 1) := by decide +kernel
theorem d_M_text_19 : decode prog_11_method_56_code 19 = .ok (.getfield 49, 3) := by decide +kernel
theorem d_M_text_22 : decode prog_11_method_56_code 22 = .ok (.iload_n 1, 1) := by decide +kernel
theorem d_M_text_23 : decode prog_11_method_56_code 23 = .ok (.iaload, 1) := by decide +kernel
theorem d_M_text_24 : decode prog_11_method_56_code 24 = .ok (.if_icmp .ge 18, 3) := by decide +kernel
theorem d_M_text_27 : decode prog_11_method_56_code 27 = .ok (.aload_n 0, 1) := by decide +kernel
theorem d_M_text_28 : decode prog_11_method_56_code 28 = .ok (.getfield 52, 3) := by decide +kernel
theorem d_M_text_31 : decode prog_11_method_56_code 31 = .ok (.bipush 60, 2) := by decide +kernel
theorem d_M_text_33 : decode prog_11_method_56_code 33 = .ok (.iload_n 1, 1) := by decide +kernel
theorem d_M_text_34 : decode prog_11_method_56_code 34 = .ok (.imul, 1) := by decide +kernel
theorem d_M_text_35 : decode prog_11_method_56_code 35 = .ok (.iload_n 2, 1) := by decide +kernel
theorem d_M_text_36 : decode prog_11_method_56_code 36 = .ok (.iadd, 1) := by decide +kernel
theorem d_M_text_37 : decode prog_11_method_56_code 37 = .ok (.iaload, 1) := by decide +kernel
theorem d_M_text_38 : decode prog_11_method_56_code 38 = .ok (.i2c, 1) := by decide +kernel
theorem d_M_text_39 : decode prog_11_method_56_code 39 = .ok (.goto 9, 3) := by decide +kernel
theorem d_M_text_42 : decode prog_11_method_56_code 42 = .ok (.aload_n 0, 1) := by decide +kernel
theorem d_M_text_43 : decode prog_11_method_56_code 43 = .ok (.iconst 1, 1) := by decide +kernel
theorem d_M_text_44 : decode prog_11_method_56_code 44 = .ok (.invokevirtual 270, 3) := by decide +kernel
theorem d_M_text_47 : decode prog_11_method_56_code 47 = .ok (.i2c, 1) := by decide +kernel
theorem d_M_text_48 : decode prog_11_method_56_code 48 = .ok (.ireturn, 1) := by decide +kernel
set_option maxHeartbeats 4000000 in
set_option maxRecDepth 100000 in
theorem cM_text (l : Launch) (dC : Nat → ClassId) (dI : Nat → Nat → Nat) (tk : Nat → ClassId) (A : Nat → Prop) (h : Nat) (L : Nat → Nat) (g : aG) (a : aA) (rw : va_W) (n : Nat) (v1 : Int32) (v2 : Int32) (r0 : Int32) (g0 : aG) (hm : mM_text n v1 v2 g a = some (r0, g0)) : CtI l dC dI tk A ⟨"EditorServerModel", "text", "(II)C"⟩ prog_11_method_56_code 3 (some .char) 1 21 [.ref h, .int v1, .int v2] (oW 0 h ksM spM tk L g a rw) r0 (oW 0 h ksM spM tk L g0 a rw) := by
  refine ent (by decide) (Nat.le_of_ble_eq_true rfl) ?_
  intro p e s m args below meth c hx hb hr hml hown hlk hG hg hst ls hl
  unfold mM_text at hm
  have hl : lv_has ls 3 [(0, .ref h), (1, .int v1), (2, .int v2)] := hl
  refine lv_aload_n hx hb d_M_text_0 rfl (lv_at hl 0 rfl) ?_
  refine lv_iconst (v := 0) hx hb d_M_text_1 (by decide) ?_
  refine ro_puti hx hb hown hG hg cM hst 45 (by decide) rfl rfl rfl rfl rfl k_1059 d_M_text_2 (fun g1 H locs eg1 hst => ?_)
  have hm := lt_u hm g1 eg1
  refine lv_aload_n hx hb d_M_text_5 rfl (lv_at hl 0 rfl) ?_
  refine lv_iload_n hx hb d_M_text_6 rfl (lv_at hl 1 rfl) ?_
  obtain ⟨x3, hc4, hm⟩ := bd_u hm
  refine cl_vi hx hb hml hown hG hg (cM_isDocument l dC dI tk A h L g1 a rw n v1 _ hc4) (cw_v 1 hG k_1363 k_1365 s_62 k_14 k_1366 (by decide +kernel) ⟨by decide, by decide⟩) hst rfl oW_0 rfl hl.1 rfl (Nat.le_of_ble_eq_true rfl) ⟨Nat.le_refl 0, Nat.le_refl 0⟩ d_M_text_7 (fun H locs hst => ?_)
  obtain ⟨qJ5, hm, hLJ5, hR6⟩ := jn_u hm
  have hJ5 : qJ5 = .inl () → ∀ (H : Heap) (locs : List Loc) (ls : Array Slot), lv_has ls 3 [(0, .ref h), (1, .int v1), (2, .int v2)] → St dC dI A s.heap H locs (oW 0 h ksM spM tk L g1 a rw) → W p l e (rmo 1 21) s m args below meth c H locs 0 0 (MQ below (QI dC dI A r0 (oW 0 h ksM spM tk L g0 a rw)) args s 0 0 A) (F0 m 42 ls []) := by
    intro hq H locs ls hl hst
    have hm := hLJ5 _ hq
    refine lv_aload_n hx hb d_M_text_42 rfl (lv_at hl 0 rfl) ?_
    refine lv_iconst (v := 1) hx hb d_M_text_43 (by decide) ?_
    obtain ⟨⟨x9, g10⟩, hc11, hm⟩ := bd_u hm
    dsimp only at hm
    refine cl_vi hx hb hml hown hG hg (cM_fail l dC dI tk A h L g1 a rw n 1 _ _ hc11) (cw_v 1 hG k_1307 k_1309 s_57 k_14 k_1310 (by decide +kernel) ⟨by decide, by decide⟩) hst rfl oW_0 rfl hl.1 rfl (Nat.le_of_ble_eq_true rfl) ⟨Nat.le_refl 0, Nat.le_refl 0⟩ d_M_text_44 (fun H locs hst => ?_)
    refine lv_i2c hx hb d_M_text_47 rfl ?_
    obtain ⟨hn12, hm⟩ := gd_u hm
    have he := (Option.some.inj hm)
    cases he
    exact rt_i hx hb hr hlk (okc_n hn12).1 hst rfl d_M_text_48
  refine lv_if_eq (tgt := 42) hx hb d_M_text_10 (by decide) (fun h13 => ?_) (fun h13 => ?_)
  · have hm := it_t hm h13
    exact hJ5  (Option.some.inj hm).symm _ _ _ (lv_sub hl [0, 1, 2] rfl) hst
  · have hm := it_f hm h13
    refine lv_iload_n hx hb d_M_text_13 rfl (lv_at hl 2 rfl) ?_
    refine lv_if_lt (tgt := 42) hx hb d_M_text_14 (by decide) (fun h14 => ?_) (fun h14 => ?_)
    · have hm := it_t hm h14
      exact hJ5  (Option.some.inj hm).symm _ _ _ (lv_sub hl [0, 1, 2] rfl) hst
    · have hm := it_f hm h14
      refine lv_iload_n hx hb d_M_text_17 rfl (lv_at hl 2 rfl) ?_
      refine lv_aload_n hx hb d_M_text_18 rfl (lv_at hl 0 rfl) ?_
      refine ro_geta hx hb hown hG hg cM hst 26 13 (by decide) rfl rfl k_1040 d_M_text_19 ?_
      refine lv_iload_n hx hb d_M_text_22 rfl (lv_at hl 1 rfl) ?_
      obtain ⟨hn15, hm⟩ := gd_u hm
      refine ro_iald hx hb hg hst 13 rfl hn15 d_M_text_23 ?_
      refine lv_topi (fun x16 ex16 => ?_)
      have hm := lt_u hm x16 ex16
      refine lv_icmp_ge (tgt := 42) hx hb d_M_text_24 (by decide) (fun h17 => ?_) (fun h17 => ?_)
      · have hm := it_t hm h17
        exact hJ5  (Option.some.inj hm).symm _ _ _ (lv_sub hl [0, 1, 2] rfl) hst
      · have hm := it_f hm h17
        refine lv_aload_n hx hb d_M_text_27 rfl (lv_at hl 0 rfl) ?_
        refine ro_geta hx hb hown hG hg cM hst 27 14 (by decide) rfl rfl k_1041 d_M_text_28 ?_
        refine lv_bipush (v := 60) hx hb d_M_text_31 (by decide) ?_
        refine lv_iload_n hx hb d_M_text_33 rfl (lv_at hl 1 rfl) ?_
        refine lv_imul hx hb d_M_text_34 ?_
        refine lv_iload_n hx hb d_M_text_35 rfl (lv_at hl 2 rfl) ?_
        refine lv_iadd hx hb d_M_text_36 ?_
        obtain ⟨hn18, hm⟩ := gd_u hm
        refine ro_iald hx hb hg hst 14 rfl hn18 d_M_text_37 ?_
        refine lv_topi (fun x19 ex19 => ?_)
        have hm := lt_u hm x19 ex19
        refine lv_i2c hx hb d_M_text_38 rfl ?_
        refine lv_goto (tgt := 48) hx hb d_M_text_39 (by decide) ?_
        obtain ⟨hn20, hm⟩ := gd_u hm
        have he := (hR6 _ (Option.some.inj hm).symm)
        cases he
        exact rt_i hx hb hr hlk (okc_n hn20).1 hst rfl d_M_text_48
def mM_name (n : Nat) (v1 : Int32) (v2 : Int32) (g : aG) (a : aA) : Option (Int32 × aG) := lt (va_up g 45 0) (fun g1 => bd (mM_isDocument n v1 g1 a) (fun x3 => jn (α := Unit) (if x3 = 0 then (some (.inl ())) else (if v2 < 0 then (some (.inl ())) else (gd (inb v1 3) (lt (a 10 v1.toNatClampNeg) (fun x16 => if x16 ≤ v2 then (some (.inl ())) else (gd (inb ((4 * v1) + v2) 12) (lt (a 11 ((4 * v1) + v2).toNatClampNeg) (fun x19 => gd (okc ((x19.toUInt32 % 65536).toInt32)) (some (.inr (((x19.toUInt32 % 65536).toInt32, g1)))))))))))) (fun _ => bd (mM_fail n 1 g1 a) (fun q8 => gd (okc ((q8.1.toUInt32 % 65536).toInt32)) (some (((q8.1.toUInt32 % 65536).toInt32, q8.2)))))))
theorem d_M_name_0 : decode prog_11_method_57_code 0 = .ok (.aload_n 0, 1) := by decide +kernel
theorem d_M_name_1 : decode prog_11_method_57_code 1 = .ok (.iconst 0, 1) := by decide +kernel
theorem d_M_name_2 : decode prog_11_method_57_code 2 = .ok (.putfield 92, 3) := by decide +kernel
theorem d_M_name_5 : decode prog_11_method_57_code 5 = .ok (.aload_n 0, 1) := by decide +kernel
theorem d_M_name_6 : decode prog_11_method_57_code 6 = .ok (.iload_n 1, 1) := by decide +kernel
theorem d_M_name_7 : decode prog_11_method_57_code 7 = .ok (.invokevirtual 289, 3) := by decide +kernel
theorem d_M_name_10 : decode prog_11_method_57_code 10 = .ok (.ifCond .eq 31, 3) := by decide +kernel
theorem d_M_name_13 : decode prog_11_method_57_code 13 = .ok (.iload_n 2, 1) := by decide +kernel
theorem d_M_name_14 : decode prog_11_method_57_code 14 = .ok (.ifCond .lt 27, 3) := by decide +kernel
theorem d_M_name_17 : decode prog_11_method_57_code 17 = .ok (.iload_n 2, 1) := by decide +kernel
theorem d_M_name_18 : decode prog_11_method_57_code 18 = .ok (.aload_n 0, 1) := by decide +kernel
theorem d_M_name_19 : decode prog_11_method_57_code 19 = .ok (.getfield 40, 3) := by decide +kernel
theorem d_M_name_22 : decode prog_11_method_57_code 22 = .ok (.iload_n 1, 1) := by decide +kernel
theorem d_M_name_23 : decode prog_11_method_57_code 23 = .ok (.iaload, 1) := by decide +kernel
theorem d_M_name_24 : decode prog_11_method_57_code 24 = .ok (.if_icmp .ge 17, 3) := by decide +kernel
theorem d_M_name_27 : decode prog_11_method_57_code 27 = .ok (.aload_n 0, 1) := by decide +kernel
theorem d_M_name_28 : decode prog_11_method_57_code 28 = .ok (.getfield 43, 3) := by decide +kernel
theorem d_M_name_31 : decode prog_11_method_57_code 31 = .ok (.iconst 4, 1) := by decide +kernel
theorem d_M_name_32 : decode prog_11_method_57_code 32 = .ok (.iload_n 1, 1) := by decide +kernel
theorem d_M_name_33 : decode prog_11_method_57_code 33 = .ok (.imul, 1) := by decide +kernel
theorem d_M_name_34 : decode prog_11_method_57_code 34 = .ok (.iload_n 2, 1) := by decide +kernel
theorem d_M_name_35 : decode prog_11_method_57_code 35 = .ok (.iadd, 1) := by decide +kernel
theorem d_M_name_36 : decode prog_11_method_57_code 36 = .ok (.iaload, 1) := by decide +kernel
theorem d_M_name_37 : decode prog_11_method_57_code 37 = .ok (.i2c, 1) := by decide +kernel
theorem d_M_name_38 : decode prog_11_method_57_code 38 = .ok (.goto 9, 3) := by decide +kernel
theorem d_M_name_41 : decode prog_11_method_57_code 41 = .ok (.aload_n 0, 1) := by decide +kernel
theorem d_M_name_42 : decode prog_11_method_57_code 42 = .ok (.iconst 1, 1) := by decide +kernel
theorem d_M_name_43 : decode prog_11_method_57_code 43 = .ok (.invokevirtual 270, 3) := by decide +kernel
theorem d_M_name_46 : decode prog_11_method_57_code 46 = .ok (.i2c, 1) := by decide +kernel
theorem d_M_name_47 : decode prog_11_method_57_code 47 = .ok (.ireturn, 1) := by decide +kernel
set_option maxHeartbeats 4000000 in
set_option maxRecDepth 100000 in
theorem cM_name (l : Launch) (dC : Nat → ClassId) (dI : Nat → Nat → Nat) (tk : Nat → ClassId) (A : Nat → Prop) (h : Nat) (L : Nat → Nat) (g : aG) (a : aA) (rw : va_W) (n : Nat) (v1 : Int32) (v2 : Int32) (r0 : Int32) (g0 : aG) (hm : mM_name n v1 v2 g a = some (r0, g0)) : CtI l dC dI tk A ⟨"EditorServerModel", "name", "(II)C"⟩ prog_11_method_57_code 3 (some .char) 1 21 [.ref h, .int v1, .int v2] (oW 0 h ksM spM tk L g a rw) r0 (oW 0 h ksM spM tk L g0 a rw) := by
  refine ent (by decide) (Nat.le_of_ble_eq_true rfl) ?_
  intro p e s m args below meth c hx hb hr hml hown hlk hG hg hst ls hl
  unfold mM_name at hm
  have hl : lv_has ls 3 [(0, .ref h), (1, .int v1), (2, .int v2)] := hl
  refine lv_aload_n hx hb d_M_name_0 rfl (lv_at hl 0 rfl) ?_
  refine lv_iconst (v := 0) hx hb d_M_name_1 (by decide) ?_
  refine ro_puti hx hb hown hG hg cM hst 45 (by decide) rfl rfl rfl rfl rfl k_1059 d_M_name_2 (fun g1 H locs eg1 hst => ?_)
  have hm := lt_u hm g1 eg1
  refine lv_aload_n hx hb d_M_name_5 rfl (lv_at hl 0 rfl) ?_
  refine lv_iload_n hx hb d_M_name_6 rfl (lv_at hl 1 rfl) ?_
  obtain ⟨x3, hc4, hm⟩ := bd_u hm
  refine cl_vi hx hb hml hown hG hg (cM_isDocument l dC dI tk A h L g1 a rw n v1 _ hc4) (cw_v 1 hG k_1363 k_1365 s_62 k_14 k_1366 (by decide +kernel) ⟨by decide, by decide⟩) hst rfl oW_0 rfl hl.1 rfl (Nat.le_of_ble_eq_true rfl) ⟨Nat.le_refl 0, Nat.le_refl 0⟩ d_M_name_7 (fun H locs hst => ?_)
  obtain ⟨qJ5, hm, hLJ5, hR6⟩ := jn_u hm
  have hJ5 : qJ5 = .inl () → ∀ (H : Heap) (locs : List Loc) (ls : Array Slot), lv_has ls 3 [(0, .ref h), (1, .int v1), (2, .int v2)] → St dC dI A s.heap H locs (oW 0 h ksM spM tk L g1 a rw) → W p l e (rmo 1 21) s m args below meth c H locs 0 0 (MQ below (QI dC dI A r0 (oW 0 h ksM spM tk L g0 a rw)) args s 0 0 A) (F0 m 41 ls []) := by
    intro hq H locs ls hl hst
    have hm := hLJ5 _ hq
    refine lv_aload_n hx hb d_M_name_41 rfl (lv_at hl 0 rfl) ?_
    refine lv_iconst (v := 1) hx hb d_M_name_42 (by decide) ?_
    obtain ⟨⟨x9, g10⟩, hc11, hm⟩ := bd_u hm
    dsimp only at hm
    refine cl_vi hx hb hml hown hG hg (cM_fail l dC dI tk A h L g1 a rw n 1 _ _ hc11) (cw_v 1 hG k_1307 k_1309 s_57 k_14 k_1310 (by decide +kernel) ⟨by decide, by decide⟩) hst rfl oW_0 rfl hl.1 rfl (Nat.le_of_ble_eq_true rfl) ⟨Nat.le_refl 0, Nat.le_refl 0⟩ d_M_name_43 (fun H locs hst => ?_)
    refine lv_i2c hx hb d_M_name_46 rfl ?_
    obtain ⟨hn12, hm⟩ := gd_u hm
    have he := (Option.some.inj hm)
    cases he
    exact rt_i hx hb hr hlk (okc_n hn12).1 hst rfl d_M_name_47
  refine lv_if_eq (tgt := 41) hx hb d_M_name_10 (by decide) (fun h13 => ?_) (fun h13 => ?_)
  · have hm := it_t hm h13
    exact hJ5  (Option.some.inj hm).symm _ _ _ (lv_sub hl [0, 1, 2] rfl) hst
  · have hm := it_f hm h13
    refine lv_iload_n hx hb d_M_name_13 rfl (lv_at hl 2 rfl) ?_
    refine lv_if_lt (tgt := 41) hx hb d_M_name_14 (by decide) (fun h14 => ?_) (fun h14 => ?_)
    · have hm := it_t hm h14
      exact hJ5  (Option.some.inj hm).symm _ _ _ (lv_sub hl [0, 1, 2] rfl) hst
    · have hm := it_f hm h14
      refine lv_iload_n hx hb d_M_name_17 rfl (lv_at hl 2 rfl) ?_
      refine lv_aload_n hx hb d_M_name_18 rfl (lv_at hl 0 rfl) ?_
      refine ro_geta hx hb hown hG hg cM hst 23 10 (by decide) rfl rfl k_1037 d_M_name_19 ?_
      refine lv_iload_n hx hb d_M_name_22 rfl (lv_at hl 1 rfl) ?_
      obtain ⟨hn15, hm⟩ := gd_u hm
      refine ro_iald hx hb hg hst 10 rfl hn15 d_M_name_23 ?_
      refine lv_topi (fun x16 ex16 => ?_)
      have hm := lt_u hm x16 ex16
      refine lv_icmp_ge (tgt := 41) hx hb d_M_name_24 (by decide) (fun h17 => ?_) (fun h17 => ?_)
      · have hm := it_t hm h17
        exact hJ5  (Option.some.inj hm).symm _ _ _ (lv_sub hl [0, 1, 2] rfl) hst
      · have hm := it_f hm h17
        refine lv_aload_n hx hb d_M_name_27 rfl (lv_at hl 0 rfl) ?_
        refine ro_geta hx hb hown hG hg cM hst 24 11 (by decide) rfl rfl k_1038 d_M_name_28 ?_
        refine lv_iconst (v := 4) hx hb d_M_name_31 (by decide) ?_
        refine lv_iload_n hx hb d_M_name_32 rfl (lv_at hl 1 rfl) ?_
        refine lv_imul hx hb d_M_name_33 ?_
        refine lv_iload_n hx hb d_M_name_34 rfl (lv_at hl 2 rfl) ?_
        refine lv_iadd hx hb d_M_name_35 ?_
        obtain ⟨hn18, hm⟩ := gd_u hm
        refine ro_iald hx hb hg hst 11 rfl hn18 d_M_name_36 ?_
        refine lv_topi (fun x19 ex19 => ?_)
        have hm := lt_u hm x19 ex19
        refine lv_i2c hx hb d_M_name_37 rfl ?_
        refine lv_goto (tgt := 47) hx hb d_M_name_38 (by decide) ?_
        obtain ⟨hn20, hm⟩ := gd_u hm
        have he := (hR6 _ (Option.some.inj hm).symm)
        cases he
        exact rt_i hx hb hr hlk (okc_n hn20).1 hst rfl d_M_name_47
def mM_place (n : Nat) (v1 : Int32) (v2 : Int32) (v3 : Int32) (g : aG) (a : aA) : Option (Int32 × aG) := lt (va_up g 45 0) (fun g1 => bd (mM_isDocument n v1 g1 a) (fun x3 => if x3 = 0 then (bd (mM_fail n 1 g1 a) (fun q6 => some ((q6.1, q6.2)))) else (gd (inb v1 3) (lt (a 13 v1.toNatClampNeg) (fun x11 => bd (mM_placeIn n (a 14) 180 (60 * v1) x11 v2 v3) (fun x13 => some ((x13, g1))))))))
theorem d_M_place_0 : decode prog_11_method_58_code 0 = .ok (.aload_n 0, 1) := by decide +kernel
theorem d_M_place_1 : decode prog_11_method_58_code 1 = .ok (.iconst 0, 1) := by decide +kernel
theorem d_M_place_2 : decode prog_11_method_58_code 2 = .ok (.putfield 92, 3) := by decide +kernel
theorem d_M_place_5 : decode prog_11_method_58_code 5 = .ok (.aload_n 0, 1) := by decide +kernel
theorem d_M_place_6 : decode prog_11_method_58_code 6 = .ok (.iload_n 1, 1) := by decide +kernel
theorem d_M_place_7 : decode prog_11_method_58_code 7 = .ok (.invokevirtual 289, 3) := by decide +kernel
theorem d_M_place_10 : decode prog_11_method_58_code 10 = .ok (.ifCond .eq 25, 3) := by decide +kernel
theorem d_M_place_13 : decode prog_11_method_58_code 13 = .ok (.aload_n 0, 1) := by decide +kernel
theorem d_M_place_14 : decode prog_11_method_58_code 14 = .ok (.getfield 52, 3) := by decide +kernel
theorem d_M_place_17 : decode prog_11_method_58_code 17 = .ok (.bipush 60, 2) := by decide +kernel
theorem d_M_place_19 : decode prog_11_method_58_code 19 = .ok (.iload_n 1, 1) := by decide +kernel
theorem d_M_place_20 : decode prog_11_method_58_code 20 = .ok (.imul, 1) := by decide +kernel
theorem d_M_place_21 : decode prog_11_method_58_code 21 = .ok (.aload_n 0, 1) := by decide +kernel
theorem d_M_place_22 : decode prog_11_method_58_code 22 = .ok (.getfield 49, 3) := by decide +kernel
theorem d_M_place_25 : decode prog_11_method_58_code 25 = .ok (.iload_n 1, 1) := by decide +kernel
theorem d_M_place_26 : decode prog_11_method_58_code 26 = .ok (.iaload, 1) := by decide +kernel
theorem d_M_place_27 : decode prog_11_method_58_code 27 = .ok (.iload_n 2, 1) := by decide +kernel
theorem d_M_place_28 : decode prog_11_method_58_code 28 = .ok (.iload_n 3, 1) := by decide +kernel
theorem d_M_place_29 : decode prog_11_method_58_code 29 = .ok (.invokestatic 258, 3) := by decide +kernel
theorem d_M_place_32 : decode prog_11_method_58_code 32 = .ok (.goto 8, 3) := by decide +kernel
theorem d_M_place_35 : decode prog_11_method_58_code 35 = .ok (.aload_n 0, 1) := by decide +kernel
theorem d_M_place_36 : decode prog_11_method_58_code 36 = .ok (.iconst 1, 1) := by decide +kernel
theorem d_M_place_37 : decode prog_11_method_58_code 37 = .ok (.invokevirtual 270, 3) := by decide +kernel
theorem d_M_place_40 : decode prog_11_method_58_code 40 = .ok (.ireturn, 1) := by decide +kernel
set_option maxHeartbeats 4000000 in
set_option maxRecDepth 100000 in
theorem cM_place (l : Launch) (dC : Nat → ClassId) (dI : Nat → Nat → Nat) (tk : Nat → ClassId) (A : Nat → Prop) (h : Nat) (L : Nat → Nat) (g : aG) (a : aA) (rw : va_W) (n : Nat) (v1 : Int32) (v2 : Int32) (v3 : Int32) (r0 : Int32) (g0 : aG) (hm : mM_place n v1 v2 v3 g a = some (r0, g0)) : CtI l dC dI tk A ⟨"EditorServerModel", "place", "(III)I"⟩ prog_11_method_58_code 4 (some .int) 2 51 [.ref h, .int v1, .int v2, .int v3] (oW 0 h ksM spM tk L g a rw) r0 (oW 0 h ksM spM tk L g0 a rw) := by
  refine ent (by decide) (Nat.le_of_ble_eq_true rfl) ?_
  intro p e s m args below meth c hx hb hr hml hown hlk hG hg hst ls hl
  unfold mM_place at hm
  have hl : lv_has ls 4 [(0, .ref h), (1, .int v1), (2, .int v2), (3, .int v3)] := hl
  refine lv_aload_n hx hb d_M_place_0 rfl (lv_at hl 0 rfl) ?_
  refine lv_iconst (v := 0) hx hb d_M_place_1 (by decide) ?_
  refine ro_puti hx hb hown hG hg cM hst 45 (by decide) rfl rfl rfl rfl rfl k_1059 d_M_place_2 (fun g1 H locs eg1 hst => ?_)
  have hm := lt_u hm g1 eg1
  refine lv_aload_n hx hb d_M_place_5 rfl (lv_at hl 0 rfl) ?_
  refine lv_iload_n hx hb d_M_place_6 rfl (lv_at hl 1 rfl) ?_
  obtain ⟨x3, hc4, hm⟩ := bd_u hm
  refine cl_vi hx hb hml hown hG hg (cM_isDocument l dC dI tk A h L g1 a rw n v1 _ hc4) (cw_v 1 hG k_1363 k_1365 s_62 k_14 k_1366 (by decide +kernel) ⟨by decide, by decide⟩) hst rfl oW_0 rfl hl.1 rfl (Nat.le_of_ble_eq_true rfl) ⟨Nat.le_refl 0, Nat.le_refl 0⟩ d_M_place_7 (fun H locs hst => ?_)
  refine lv_if_eq (tgt := 35) hx hb d_M_place_10 (by decide) (fun h5 => ?_) (fun h5 => ?_)
  · have hm := it_t hm h5
    refine lv_aload_n hx hb d_M_place_35 rfl (lv_at hl 0 rfl) ?_
    refine lv_iconst (v := 1) hx hb d_M_place_36 (by decide) ?_
    obtain ⟨⟨x7, g8⟩, hc9, hm⟩ := bd_u hm
    dsimp only at hm
    refine cl_vi hx hb hml hown hG hg (cM_fail l dC dI tk A h L g1 a rw n 1 _ _ hc9) (cw_v 1 hG k_1307 k_1309 s_57 k_14 k_1310 (by decide +kernel) ⟨by decide, by decide⟩) hst rfl oW_0 rfl hl.1 rfl (Nat.le_of_ble_eq_true rfl) ⟨Nat.le_refl 0, Nat.le_refl 0⟩ d_M_place_37 (fun H locs hst => ?_)
    have he := (Option.some.inj hm)
    cases he
    exact rt_i hx hb hr hlk rfl hst rfl d_M_place_40
  · have hm := it_f hm h5
    refine lv_aload_n hx hb d_M_place_13 rfl (lv_at hl 0 rfl) ?_
    refine ro_geta hx hb hown hG hg cM hst 27 14 (by decide) rfl rfl k_1041 d_M_place_14 ?_
    refine lv_bipush (v := 60) hx hb d_M_place_17 (by decide) ?_
    refine lv_iload_n hx hb d_M_place_19 rfl (lv_at hl 1 rfl) ?_
    refine lv_imul hx hb d_M_place_20 ?_
    refine lv_aload_n hx hb d_M_place_21 rfl (lv_at hl 0 rfl) ?_
    refine ro_geta hx hb hown hG hg cM hst 26 13 (by decide) rfl rfl k_1040 d_M_place_22 ?_
    refine lv_iload_n hx hb d_M_place_25 rfl (lv_at hl 1 rfl) ?_
    obtain ⟨hn10, hm⟩ := gd_u hm
    refine ro_iald hx hb hg hst 13 rfl hn10 d_M_place_26 ?_
    refine lv_topi (fun x11 ex11 => ?_)
    have hm := lt_u hm x11 ex11
    refine lv_iload_n hx hb d_M_place_27 rfl (lv_at hl 2 rfl) ?_
    refine lv_iload_n hx hb d_M_place_28 rfl (lv_at hl 3 rfl) ?_
    obtain ⟨x13, hc14, hm⟩ := bd_u hm
    refine cl_si hx hb hml hown hG hg (cM_placeIn l dC dI tk A h L g1 a rw n 14 180 rfl (60 * v1) x11 v2 v3 _ hc14) (cw_s 5 hG k_1284 k_1285 k_14 k_1286 (by decide +kernel) ⟨by decide, by decide⟩) hst rfl hl.1 rfl (Nat.le_of_ble_eq_true rfl) ⟨Nat.le_refl 0, Nat.le_refl 0⟩ d_M_place_29 (fun H locs hst => ?_)
    refine lv_goto (tgt := 40) hx hb d_M_place_32 (by decide) ?_
    have he := (Option.some.inj hm)
    cases he
    exact rt_i hx hb hr hlk rfl hst rfl d_M_place_40
