set_option maxHeartbeats 4000000 in
theorem lc_4 {p : Program} {l : Launch} {e : Env} {s : State} {m : MethodId} {args : Array Value} {below : List Frame} {meth : Method} {c : Code} {Q : State → Prop} {dC : Nat → ClassId} {dI : Nat → Nat → Nat} {tk : Nat → ClassId} {A : Nat → Prop} {b L : Nat} {xs : Nat → Int32} {I : aI} {hE : Nat} {LE : Nat → Nat} {LJ : Nat → Nat} {LV : Nat → Nat} {LN : Nat → Nat} {LS : Nat → Nat} {LZ : Nat → Nat} {LQ : Nat → Nat} {hO : Nat} {hM : Nat} {LM : Nat → Nat} {gE : aG} {gJ : aG} {gV : aG} {aV : aA} {gN : aG} {aN : aA} {gS : aG} {gZ : aG} {aZ : aA} {dP : aP} {gQ : aG} {dO : aP} {u : sbS} {nB : Nat} {fO : Nat → Int64} {gM : aG} {aM : aA} (hx : p.tables.exec = Jvm.exec) (hb : c.code = code) (hml : c.maxLocals = 7) (hown : s.vm.findClass "EditorServerLaw" = some m.cls) (hG : ∀ w ∈ gW, w.before args s = true) (hg : Gl dC dI tk A s) (hX : va_X b L xs s s.heap) (hbl : b < s.heap.size) (hbA : ¬ A b) (hNT : NoTr l) (hOK : lawOK I) (hI : I gE gJ gV aV gN aN gS gZ aZ dP gQ dO gM aM) (t : List Int32) (ht : sbT t u) (hnB : nB = t.length) (hsrc : LV 8 = LJ 0) (i : Nat) (hi : i + 4 ≤ L) (hL : L ≤ 2048) {H : Heap} {locs : List Loc} {ls : Array Slot} {cells slots : Nat} (hce : cells + 14 ≤ 601024) (hsl : slots + 476 ≤ 7293034) (hl : lv_has ls 7 [(0, .ref b), (1, .ref hE), (2, .ref hM), (3, .ref hO), (4, .int (nI i))]) (hst : St dC dI A s.heap H locs (fWd tk hE LE LJ LV LN LS LZ LQ hO hM LM gE gJ gV aV gN aN gS gZ aZ dP gQ dO u nB fO gM aM))
    (kk : ∀ (gE' : aG) (gJ' : aG) (gV' : aG) (aV' : aA) (gN' : aG) (aN' : aA) (gS' : aG) (gZ' : aG) (aZ' : aA) (dP' : aP) (gQ' : aG) (dO' : aP) (u' : sbS) (nB' : Nat) (fO' : Nat → Int64) (gM' : aG) (aM' : aA) (t' : List Int32) (H1 : Heap) (locs1 : List Loc) (ls1 : Array Slot), I gE' gJ' gV' aV' gN' aN' gS' gZ' aZ' dP' gQ' dO' gM' aM' → sbT t' u' → nB' = t'.length → lv_has ls1 7 [(0, .ref b), (1, .ref hE), (2, .ref hM), (3, .ref hO), (4, .int (nI i))] → St dC dI A s.heap H1 locs1 (fWd tk hE LE LJ LV LN LS LZ LQ hO hM LM gE' gJ' gV' aV' gN' aN' gS' gZ' aZ' dP' gQ' dO' u' nB' fO' gM' aM') → W p l e room_1 s m args below meth c H1 locs1 (cells + 14) (slots + 476) Q (F0 m 747 ls1 [])) : W p l e room_1 s m args below meth c H locs cells slots Q (F0 m 176 ls []) := by
  rcases (hOK gE gJ gV aV gN aN gS gZ aZ dP gQ dO gM aM hI).2.2.2.2.2.2.2.1 (xs (i + 1)) with ⟨n, n2, r, g2, hm1, hm2, h45, hI2⟩ | ⟨hm1, n2, r, g2, hm2, h45, hI2⟩
  · refine lv_aload_n hx hb d_law_176 rfl (lv_at hl 1 rfl) ?_
    refine lv_aload_n hx hb d_law_177 rfl (lv_at hl 0 rfl) ?_
    refine lv_iload hx hb d_law_178 (lv_at hl 4 rfl) ?_
    refine lv_iconst (v := 1) hx hb d_law_180 (by decide) ?_
    refine lv_iadd hx hb d_law_181 ?_
    refine W.eq (g2 := F0 m 182 ls [.int (nI (i + 1)), .ref b, .ref hE]) (by rw [show nI i + 1 = nI (i + 1) from nI_add i 1]) ?_
    refine va_sld hx hb hX hbl hbA hst.2.2 (inb_in (inb_n (n := L) (by omega) (by omega))) d_law_182 ?_
    refine W.eq (g2 := F0 m 183 ls [.int (xs (i + 1)), .ref hE]) (by rw [nI_clamp (by omega)]) ?_
    refine lv_aload_n hx hb d_law_183 rfl (lv_at hl 3 rfl) ?_
    refine cl_sw (As := [.ref hE, .int (xs (i + 1)), .ref hO]) (n := 3) hx hb hml hown hG hg (h_request l dC dI tk A hE LE LJ LV LN LS LZ LQ hO hM LM gE gJ gV aV gN aN gS gZ aZ dP gQ dO u nB fO gM aM n (xs (i + 1)) _ hm1) k_672 k_673 k_0 k_674 (by decide +kernel) ⟨by decide, by decide⟩ hst rfl hl.1 rfl (Nat.le_of_ble_eq_true rfl) ⟨by show cells + 0 ≤ 601024; omega, by show slots + 0 ≤ 7293034; omega⟩ d_law_184 (fun H locs hst => ?_)
    refine lv_istore (lv' := [(5, .int 0), (0, .ref b), (1, .ref hE), (2, .ref hM), (3, .ref hO), (4, .int (nI i))]) hx hb d_law_187 hl (by decide) rfl (fun ls hl => ?_)
    refine lv_aload_n hx hb d_law_189 rfl (lv_at hl 3 rfl) ?_
    refine lv_aload_n hx hb d_law_190 rfl (lv_at hl 1 rfl) ?_
    refine lv_iload hx hb d_law_191 (lv_at hl 5 rfl) ?_
    refine lv_iconst (v := 1) hx hb d_law_193 (by decide) ?_
    refine lv_iadd hx hb d_law_194 ?_
    refine W.eq (g2 := F0 m 195 ls [.int (nI (i + 1)), .ref b, .ref hM]) (by rw [show nI i + 1 = nI (i + 1) from nI_add i 1]) ?_
    refine va_sld hx hb hX hbl hbA hst.2.2 (inb_in (inb_n (n := L) (by omega) (by omega))) d_law_195 ?_
    refine W.eq (g2 := F0 m 196 ls [.int (xs (i + 1)), .ref hM]) (by rw [nI_clamp (by omega)]) ?_
    obtain ⟨q0, hq0⟩ := fW_M (tk := tk) (hE := hE) (LE := LE) (LJ := LJ) (LV := LV) (LN := LN) (LS := LS) (LZ := LZ) (LQ := LQ) (hO := hO) (hM := hM) (LM := LM) (gE := gE) (gJ := gJ) (gV := gV) (aV := aV) (gN := gN) (aN := aN) (gS := gS) (gZ := gZ) (aZ := aZ) (dP := dP) (gQ := gQ) (dO := dO) (u := u) (nB := nB) (fO := (vp_updL fO 0 r.toInt64)) (gM := gM) (aM := aM)
    refine cl_vi (As := [.int (xs (i + 1))]) hx hb hml hown hG hg (fM (fun rw => cM_request l dC dI tk A hM LM gM aM rw n2 ((xs (i + 1))) _ _ hm2)) (cw_v 1 hG k_1303 k_1304 k_1305 k_14 k_1306 (by decide +kernel) ⟨by decide, by decide⟩) hst cM.1 hq0 rfl hl.1 rfl (Nat.le_of_ble_eq_true rfl) ⟨by show cells + 0 ≤ 601024; omega, by show slots + 0 ≤ 7293034; omega⟩ d_law_196 (fun H locs hst => ?_)
    refine lv_istore (lv' := [(6, .int r), (5, .int 0), (0, .ref b), (1, .ref hE), (2, .ref hM), (3, .ref hO), (4, .int (nI i))]) hx hb d_law_199 hl (by decide) rfl (fun ls hl => ?_)
    refine lv_aload_n hx hb d_law_201 rfl (lv_at hl 4 rfl) ?_
    obtain ⟨q0, hq0⟩ := fW_M (tk := tk) (hE := hE) (LE := LE) (LJ := LJ) (LV := LV) (LN := LN) (LS := LS) (LZ := LZ) (LQ := LQ) (hO := hO) (hM := hM) (LM := LM) (gE := gE) (gJ := gJ) (gV := gV) (aV := aV) (gN := gN) (aN := aN) (gS := gS) (gZ := gZ) (aZ := aZ) (dP := dP) (gQ := gQ) (dO := dO) (u := u) (nB := nB) (fO := (vp_updL fO 0 r.toInt64)) (gM := g2) (aM := aM)
    refine cl_vi (As := []) hx hb hml hown hG hg (fM (fun rw => cM_thrown l dC dI tk A hM LM g2 aM rw 0 _ rfl)) (cw_v 0 hG k_1153 k_1154 k_1155 k_14 k_1156 (by decide +kernel) ⟨by decide, by decide⟩) hst cM.1 hq0 rfl hl.1 rfl (Nat.le_of_ble_eq_true rfl) ⟨by show cells + 0 ≤ 601024; omega, by show slots + 0 ≤ 7293034; omega⟩ d_law_202 (fun H locs hst => ?_)
    refine W.eq (g2 := F0 m 205 ls [.int 0]) (by rw [h45]) ?_
    refine lv_iload hx hb d_law_205 (lv_at hl 1 rfl) ?_
    refine lv_icmp_eq (tgt := 212) hx hb d_law_207 (by decide) (fun _ => ?_) (fun h9 => absurd rfl h9)
    refine lv_iload hx hb d_law_212 (lv_at hl 1 rfl) ?_
    refine lv_if_ne (tgt := 229) hx hb d_law_214 (by decide) (fun h9 => absurd rfl h9) (fun _ => ?_)
    refine lv_aload_n hx hb d_law_217 rfl (lv_at hl 5 rfl) ?_
    refine lv_iconst (v := 0) hx hb d_law_218 (by decide) ?_
    refine ro_lald hx hb hg hst d_law_219 ?_
    refine W.eq (g2 := F0 m 220 ls [.long r.toInt64]) rfl ?_
    refine lv_iload hx hb d_law_220 (lv_at hl 0 rfl) ?_
    refine lv_i2l hx hb d_law_222 rfl ?_
    refine W.lcmp hx hb d_law_223 ?_
    rw [lcmp_0]
    refine lv_if_eq (tgt := 229) hx hb d_law_224 (by decide) (fun _ => ?_) (fun h9 => absurd rfl h9)
    refine lv_goto (tgt := 747) hx hb d_law_229 (by decide) ?_
    refine W.widen (k := cells + 14) (n := slots + 476) (by omega) (by omega) ?_
    exact kk _ _ _ _ _ _ _ _ _ _ _ _ _ _ (vp_updL fO 0 r.toInt64) g2 _ t _ _ _ hI2 ht hnB (lv_sub hl [2, 3, 4, 5, 6] rfl) hst
  · refine lv_aload_n hx hb d_law_176 rfl (lv_at hl 1 rfl) ?_
    refine lv_aload_n hx hb d_law_177 rfl (lv_at hl 0 rfl) ?_
    refine lv_iload hx hb d_law_178 (lv_at hl 4 rfl) ?_
    refine lv_iconst (v := 1) hx hb d_law_180 (by decide) ?_
    refine lv_iadd hx hb d_law_181 ?_
    refine W.eq (g2 := F0 m 182 ls [.int (nI (i + 1)), .ref b, .ref hE]) (by rw [show nI i + 1 = nI (i + 1) from nI_add i 1]) ?_
    refine va_sld hx hb hX hbl hbA hst.2.2 (inb_in (inb_n (n := L) (by omega) (by omega))) d_law_182 ?_
    refine W.eq (g2 := F0 m 183 ls [.int (xs (i + 1)), .ref hE]) (by rw [nI_clamp (by omega)]) ?_
    refine lv_aload_n hx hb d_law_183 rfl (lv_at hl 3 rfl) ?_
    refine cl_sw (As := [.ref hE, .int (xs (i + 1)), .ref hO]) (n := 3) hx hb hml hown hG hg (h_request_i l dC dI tk A hE LE LJ LV LN LS LZ LQ hO hM LM gE gJ gV aV gN aN gS gZ aZ dP gQ dO u nB fO gM aM (xs (i + 1)) hNT hm1) k_672 k_673 k_0 k_674 (by decide +kernel) ⟨by decide, by decide⟩ hst rfl hl.1 rfl (Nat.le_of_ble_eq_true rfl) ⟨by show cells + 1 ≤ 601024; omega, by show slots + 6 ≤ 7293034; omega⟩ d_law_184 (fun H locs hst => ?_)
    refine lv_istore (lv' := [(5, .int 1), (0, .ref b), (1, .ref hE), (2, .ref hM), (3, .ref hO), (4, .int (nI i))]) hx hb d_law_187 hl (by decide) rfl (fun ls hl => ?_)
    refine lv_aload_n hx hb d_law_189 rfl (lv_at hl 3 rfl) ?_
    refine lv_aload_n hx hb d_law_190 rfl (lv_at hl 1 rfl) ?_
    refine lv_iload hx hb d_law_191 (lv_at hl 5 rfl) ?_
    refine lv_iconst (v := 1) hx hb d_law_193 (by decide) ?_
    refine lv_iadd hx hb d_law_194 ?_
    refine W.eq (g2 := F0 m 195 ls [.int (nI (i + 1)), .ref b, .ref hM]) (by rw [show nI i + 1 = nI (i + 1) from nI_add i 1]) ?_
    refine va_sld hx hb hX hbl hbA hst.2.2 (inb_in (inb_n (n := L) (by omega) (by omega))) d_law_195 ?_
    refine W.eq (g2 := F0 m 196 ls [.int (xs (i + 1)), .ref hM]) (by rw [nI_clamp (by omega)]) ?_
    obtain ⟨q0, hq0⟩ := fW_M (tk := tk) (hE := hE) (LE := LE) (LJ := LJ) (LV := LV) (LN := LN) (LS := LS) (LZ := LZ) (LQ := LQ) (hO := hO) (hM := hM) (LM := LM) (gE := gE) (gJ := gJ) (gV := gV) (aV := aV) (gN := gN) (aN := aN) (gS := gS) (gZ := gZ) (aZ := aZ) (dP := dP) (gQ := gQ) (dO := dO) (u := u) (nB := nB) (fO := fO) (gM := gM) (aM := aM)
    refine cl_vi (As := [.int (xs (i + 1))]) hx hb hml hown hG hg (fM (fun rw => cM_request l dC dI tk A hM LM gM aM rw n2 ((xs (i + 1))) _ _ hm2)) (cw_v 1 hG k_1303 k_1304 k_1305 k_14 k_1306 (by decide +kernel) ⟨by decide, by decide⟩) hst cM.1 hq0 rfl hl.1 rfl (Nat.le_of_ble_eq_true rfl) ⟨by show cells + 1 ≤ 601024; omega, by show slots + 6 ≤ 7293034; omega⟩ d_law_196 (fun H locs hst => ?_)
    refine lv_istore (lv' := [(6, .int r), (5, .int 1), (0, .ref b), (1, .ref hE), (2, .ref hM), (3, .ref hO), (4, .int (nI i))]) hx hb d_law_199 hl (by decide) rfl (fun ls hl => ?_)
    refine lv_aload_n hx hb d_law_201 rfl (lv_at hl 4 rfl) ?_
    obtain ⟨q0, hq0⟩ := fW_M (tk := tk) (hE := hE) (LE := LE) (LJ := LJ) (LV := LV) (LN := LN) (LS := LS) (LZ := LZ) (LQ := LQ) (hO := hO) (hM := hM) (LM := LM) (gE := gE) (gJ := gJ) (gV := gV) (aV := aV) (gN := gN) (aN := aN) (gS := gS) (gZ := gZ) (aZ := aZ) (dP := dP) (gQ := gQ) (dO := dO) (u := u) (nB := nB) (fO := fO) (gM := g2) (aM := aM)
    refine cl_vi (As := []) hx hb hml hown hG hg (fM (fun rw => cM_thrown l dC dI tk A hM LM g2 aM rw 0 _ rfl)) (cw_v 0 hG k_1153 k_1154 k_1155 k_14 k_1156 (by decide +kernel) ⟨by decide, by decide⟩) hst cM.1 hq0 rfl hl.1 rfl (Nat.le_of_ble_eq_true rfl) ⟨by show cells + 1 ≤ 601024; omega, by show slots + 6 ≤ 7293034; omega⟩ d_law_202 (fun H locs hst => ?_)
    refine W.eq (g2 := F0 m 205 ls [.int 1]) (by rw [h45]) ?_
    refine lv_iload hx hb d_law_205 (lv_at hl 1 rfl) ?_
    refine lv_icmp_eq (tgt := 212) hx hb d_law_207 (by decide) (fun _ => ?_) (fun h9 => absurd rfl h9)
    refine lv_iload hx hb d_law_212 (lv_at hl 1 rfl) ?_
    refine lv_if_ne (tgt := 229) hx hb d_law_214 (by decide) (fun _ => ?_) (fun h9 => absurd h9 (by decide))
    refine lv_goto (tgt := 747) hx hb d_law_229 (by decide) ?_
    refine W.widen (k := cells + 14) (n := slots + 476) (by omega) (by omega) ?_
    exact kk _ _ _ _ _ _ _ _ _ _ _ _ _ _ _ g2 _ t _ _ _ hI2 ht hnB (lv_sub hl [2, 3, 4, 5, 6] rfl) hst
set_option maxHeartbeats 4000000 in
theorem lc_5 {p : Program} {l : Launch} {e : Env} {s : State} {m : MethodId} {args : Array Value} {below : List Frame} {meth : Method} {c : Code} {Q : State → Prop} {dC : Nat → ClassId} {dI : Nat → Nat → Nat} {tk : Nat → ClassId} {A : Nat → Prop} {b L : Nat} {xs : Nat → Int32} {I : aI} {hE : Nat} {LE : Nat → Nat} {LJ : Nat → Nat} {LV : Nat → Nat} {LN : Nat → Nat} {LS : Nat → Nat} {LZ : Nat → Nat} {LQ : Nat → Nat} {hO : Nat} {hM : Nat} {LM : Nat → Nat} {gE : aG} {gJ : aG} {gV : aG} {aV : aA} {gN : aG} {aN : aA} {gS : aG} {gZ : aG} {aZ : aA} {dP : aP} {gQ : aG} {dO : aP} {u : sbS} {nB : Nat} {fO : Nat → Int64} {gM : aG} {aM : aA} (hx : p.tables.exec = Jvm.exec) (hb : c.code = code) (hml : c.maxLocals = 7) (hown : s.vm.findClass "EditorServerLaw" = some m.cls) (hG : ∀ w ∈ gW, w.before args s = true) (hg : Gl dC dI tk A s) (hX : va_X b L xs s s.heap) (hbl : b < s.heap.size) (hbA : ¬ A b) (hNT : NoTr l) (hOK : lawOK I) (hI : I gE gJ gV aV gN aN gS gZ aZ dP gQ dO gM aM) (t : List Int32) (ht : sbT t u) (hnB : nB = t.length) (hsrc : LV 8 = LJ 0) (i : Nat) (hi : i + 4 ≤ L) (hL : L ≤ 2048) {H : Heap} {locs : List Loc} {ls : Array Slot} {cells slots : Nat} (hce : cells + 14 ≤ 601024) (hsl : slots + 476 ≤ 7293034) (hl : lv_has ls 7 [(0, .ref b), (1, .ref hE), (2, .ref hM), (3, .ref hO), (4, .int (nI i))]) (hst : St dC dI A s.heap H locs (fWd tk hE LE LJ LV LN LS LZ LQ hO hM LM gE gJ gV aV gN aN gS gZ aZ dP gQ dO u nB fO gM aM))
    (kk : ∀ (gE' : aG) (gJ' : aG) (gV' : aG) (aV' : aA) (gN' : aG) (aN' : aA) (gS' : aG) (gZ' : aG) (aZ' : aA) (dP' : aP) (gQ' : aG) (dO' : aP) (u' : sbS) (nB' : Nat) (fO' : Nat → Int64) (gM' : aG) (aM' : aA) (t' : List Int32) (H1 : Heap) (locs1 : List Loc) (ls1 : Array Slot), I gE' gJ' gV' aV' gN' aN' gS' gZ' aZ' dP' gQ' dO' gM' aM' → sbT t' u' → nB' = t'.length → lv_has ls1 7 [(0, .ref b), (1, .ref hE), (2, .ref hM), (3, .ref hO), (4, .int (nI i))] → St dC dI A s.heap H1 locs1 (fWd tk hE LE LJ LV LN LS LZ LQ hO hM LM gE' gJ' gV' aV' gN' aN' gS' gZ' aZ' dP' gQ' dO' u' nB' fO' gM' aM') → W p l e room_1 s m args below meth c H1 locs1 (cells + 14) (slots + 476) Q (F0 m 747 ls1 [])) : W p l e room_1 s m args below meth c H locs cells slots Q (F0 m 232 ls []) := by
  rcases (hOK gE gJ gV aV gN aN gS gZ aZ dP gQ dO gM aM hI).2.2.2.2.2.2.2.2.1 (xs (i + 1)) with ⟨n, n2, r, ogN, oaN, ogQ, odO, g2, a2, hm1, hm2, h45, hI2⟩ | ⟨hm1, n2, r, g2, a2, hm2, h45, hI2⟩
  · refine lv_aload_n hx hb d_law_232 rfl (lv_at hl 1 rfl) ?_
    refine lv_aload_n hx hb d_law_233 rfl (lv_at hl 0 rfl) ?_
    refine lv_iload hx hb d_law_234 (lv_at hl 4 rfl) ?_
    refine lv_iconst (v := 1) hx hb d_law_236 (by decide) ?_
    refine lv_iadd hx hb d_law_237 ?_
    refine W.eq (g2 := F0 m 238 ls [.int (nI (i + 1)), .ref b, .ref hE]) (by rw [show nI i + 1 = nI (i + 1) from nI_add i 1]) ?_
    refine va_sld hx hb hX hbl hbA hst.2.2 (inb_in (inb_n (n := L) (by omega) (by omega))) d_law_238 ?_
    refine W.eq (g2 := F0 m 239 ls [.int (xs (i + 1)), .ref hE]) (by rw [nI_clamp (by omega)]) ?_
    refine lv_aload_n hx hb d_law_239 rfl (lv_at hl 3 rfl) ?_
    refine cl_sw (As := [.ref hE, .int (xs (i + 1)), .ref hO]) (n := 3) hx hb hml hown hG hg (h_run l dC dI tk A hE LE LJ LV LN LS LZ LQ hO hM LM gE gJ gV aV gN aN gS gZ aZ dP gQ dO u nB fO gM aM n (xs (i + 1)) _ _ _ _ _ hm1) k_742 k_743 k_0 k_744 (by decide +kernel) ⟨by decide, by decide⟩ hst rfl hl.1 rfl (Nat.le_of_ble_eq_true rfl) ⟨by show cells + 0 ≤ 601024; omega, by show slots + 0 ≤ 7293034; omega⟩ d_law_240 (fun H locs hst => ?_)
    refine lv_istore (lv' := [(5, .int 0), (0, .ref b), (1, .ref hE), (2, .ref hM), (3, .ref hO), (4, .int (nI i))]) hx hb d_law_243 hl (by decide) rfl (fun ls hl => ?_)
    refine lv_aload_n hx hb d_law_245 rfl (lv_at hl 3 rfl) ?_
    refine lv_aload_n hx hb d_law_246 rfl (lv_at hl 1 rfl) ?_
    refine lv_iload hx hb d_law_247 (lv_at hl 5 rfl) ?_
    refine lv_iconst (v := 1) hx hb d_law_249 (by decide) ?_
    refine lv_iadd hx hb d_law_250 ?_
    refine W.eq (g2 := F0 m 251 ls [.int (nI (i + 1)), .ref b, .ref hM]) (by rw [show nI i + 1 = nI (i + 1) from nI_add i 1]) ?_
    refine va_sld hx hb hX hbl hbA hst.2.2 (inb_in (inb_n (n := L) (by omega) (by omega))) d_law_251 ?_
    refine W.eq (g2 := F0 m 252 ls [.int (xs (i + 1)), .ref hM]) (by rw [nI_clamp (by omega)]) ?_
    obtain ⟨q0, hq0⟩ := fW_M (tk := tk) (hE := hE) (LE := LE) (LJ := LJ) (LV := LV) (LN := LN) (LS := LS) (LZ := LZ) (LQ := LQ) (hO := hO) (hM := hM) (LM := LM) (gE := gE) (gJ := gJ) (gV := gV) (aV := aV) (gN := ogN) (aN := oaN) (gS := gS) (gZ := gZ) (aZ := aZ) (dP := dP) (gQ := ogQ) (dO := odO) (u := u) (nB := nB) (fO := (vp_updL fO 0 r.toInt64)) (gM := gM) (aM := aM)
    refine cl_vi (As := [.int (xs (i + 1))]) hx hb hml hown hG hg (fM (fun rw => cM_run l dC dI tk A hM LM gM aM rw n2 ((xs (i + 1))) _ _ _ hm2)) (cw_v 1 hG k_1311 k_1312 k_1313 k_14 k_1314 (by decide +kernel) ⟨by decide, by decide⟩) hst cM.1 hq0 rfl hl.1 rfl (Nat.le_of_ble_eq_true rfl) ⟨by show cells + 0 ≤ 601024; omega, by show slots + 0 ≤ 7293034; omega⟩ d_law_252 (fun H locs hst => ?_)
    refine lv_istore (lv' := [(6, .int r), (5, .int 0), (0, .ref b), (1, .ref hE), (2, .ref hM), (3, .ref hO), (4, .int (nI i))]) hx hb d_law_255 hl (by decide) rfl (fun ls hl => ?_)
    refine lv_aload_n hx hb d_law_257 rfl (lv_at hl 4 rfl) ?_
    obtain ⟨q0, hq0⟩ := fW_M (tk := tk) (hE := hE) (LE := LE) (LJ := LJ) (LV := LV) (LN := LN) (LS := LS) (LZ := LZ) (LQ := LQ) (hO := hO) (hM := hM) (LM := LM) (gE := gE) (gJ := gJ) (gV := gV) (aV := aV) (gN := ogN) (aN := oaN) (gS := gS) (gZ := gZ) (aZ := aZ) (dP := dP) (gQ := ogQ) (dO := odO) (u := u) (nB := nB) (fO := (vp_updL fO 0 r.toInt64)) (gM := g2) (aM := a2)
    refine cl_vi (As := []) hx hb hml hown hG hg (fM (fun rw => cM_thrown l dC dI tk A hM LM g2 a2 rw 0 _ rfl)) (cw_v 0 hG k_1153 k_1154 k_1155 k_14 k_1156 (by decide +kernel) ⟨by decide, by decide⟩) hst cM.1 hq0 rfl hl.1 rfl (Nat.le_of_ble_eq_true rfl) ⟨by show cells + 0 ≤ 601024; omega, by show slots + 0 ≤ 7293034; omega⟩ d_law_258 (fun H locs hst => ?_)
    refine W.eq (g2 := F0 m 261 ls [.int 0]) (by rw [h45]) ?_
    refine lv_iload hx hb d_law_261 (lv_at hl 1 rfl) ?_
    refine lv_icmp_eq (tgt := 268) hx hb d_law_263 (by decide) (fun _ => ?_) (fun h9 => absurd rfl h9)
    refine lv_iload hx hb d_law_268 (lv_at hl 1 rfl) ?_
    refine lv_if_ne (tgt := 285) hx hb d_law_270 (by decide) (fun h9 => absurd rfl h9) (fun _ => ?_)
    refine lv_aload_n hx hb d_law_273 rfl (lv_at hl 5 rfl) ?_
    refine lv_iconst (v := 0) hx hb d_law_274 (by decide) ?_
    refine ro_lald hx hb hg hst d_law_275 ?_
    refine W.eq (g2 := F0 m 276 ls [.long r.toInt64]) rfl ?_
    refine lv_iload hx hb d_law_276 (lv_at hl 0 rfl) ?_
    refine lv_i2l hx hb d_law_278 rfl ?_
    refine W.lcmp hx hb d_law_279 ?_
    rw [lcmp_0]
    refine lv_if_eq (tgt := 285) hx hb d_law_280 (by decide) (fun _ => ?_) (fun h9 => absurd rfl h9)
    refine lv_goto (tgt := 747) hx hb d_law_285 (by decide) ?_
    refine W.widen (k := cells + 14) (n := slots + 476) (by omega) (by omega) ?_
    exact kk _ _ _ _ ogN oaN _ _ _ _ ogQ odO _ _ (vp_updL fO 0 r.toInt64) g2 a2 t _ _ _ hI2 ht hnB (lv_sub hl [2, 3, 4, 5, 6] rfl) hst
  · refine lv_aload_n hx hb d_law_232 rfl (lv_at hl 1 rfl) ?_
    refine lv_aload_n hx hb d_law_233 rfl (lv_at hl 0 rfl) ?_
    refine lv_iload hx hb d_law_234 (lv_at hl 4 rfl) ?_
    refine lv_iconst (v := 1) hx hb d_law_236 (by decide) ?_
    refine lv_iadd hx hb d_law_237 ?_
    refine W.eq (g2 := F0 m 238 ls [.int (nI (i + 1)), .ref b, .ref hE]) (by rw [show nI i + 1 = nI (i + 1) from nI_add i 1]) ?_
    refine va_sld hx hb hX hbl hbA hst.2.2 (inb_in (inb_n (n := L) (by omega) (by omega))) d_law_238 ?_
    refine W.eq (g2 := F0 m 239 ls [.int (xs (i + 1)), .ref hE]) (by rw [nI_clamp (by omega)]) ?_
    refine lv_aload_n hx hb d_law_239 rfl (lv_at hl 3 rfl) ?_
    refine cl_sw (As := [.ref hE, .int (xs (i + 1)), .ref hO]) (n := 3) hx hb hml hown hG hg (h_run_i l dC dI tk A hE LE LJ LV LN LS LZ LQ hO hM LM gE gJ gV aV gN aN gS gZ aZ dP gQ dO u nB fO gM aM (xs (i + 1)) hNT hm1) k_742 k_743 k_0 k_744 (by decide +kernel) ⟨by decide, by decide⟩ hst rfl hl.1 rfl (Nat.le_of_ble_eq_true rfl) ⟨by show cells + 1 ≤ 601024; omega, by show slots + 6 ≤ 7293034; omega⟩ d_law_240 (fun H locs hst => ?_)
    refine lv_istore (lv' := [(5, .int 1), (0, .ref b), (1, .ref hE), (2, .ref hM), (3, .ref hO), (4, .int (nI i))]) hx hb d_law_243 hl (by decide) rfl (fun ls hl => ?_)
    refine lv_aload_n hx hb d_law_245 rfl (lv_at hl 3 rfl) ?_
    refine lv_aload_n hx hb d_law_246 rfl (lv_at hl 1 rfl) ?_
    refine lv_iload hx hb d_law_247 (lv_at hl 5 rfl) ?_
    refine lv_iconst (v := 1) hx hb d_law_249 (by decide) ?_
    refine lv_iadd hx hb d_law_250 ?_
    refine W.eq (g2 := F0 m 251 ls [.int (nI (i + 1)), .ref b, .ref hM]) (by rw [show nI i + 1 = nI (i + 1) from nI_add i 1]) ?_
    refine va_sld hx hb hX hbl hbA hst.2.2 (inb_in (inb_n (n := L) (by omega) (by omega))) d_law_251 ?_
    refine W.eq (g2 := F0 m 252 ls [.int (xs (i + 1)), .ref hM]) (by rw [nI_clamp (by omega)]) ?_
    obtain ⟨q0, hq0⟩ := fW_M (tk := tk) (hE := hE) (LE := LE) (LJ := LJ) (LV := LV) (LN := LN) (LS := LS) (LZ := LZ) (LQ := LQ) (hO := hO) (hM := hM) (LM := LM) (gE := gE) (gJ := gJ) (gV := gV) (aV := aV) (gN := gN) (aN := aN) (gS := gS) (gZ := gZ) (aZ := aZ) (dP := dP) (gQ := gQ) (dO := dO) (u := u) (nB := nB) (fO := fO) (gM := gM) (aM := aM)
    refine cl_vi (As := [.int (xs (i + 1))]) hx hb hml hown hG hg (fM (fun rw => cM_run l dC dI tk A hM LM gM aM rw n2 ((xs (i + 1))) _ _ _ hm2)) (cw_v 1 hG k_1311 k_1312 k_1313 k_14 k_1314 (by decide +kernel) ⟨by decide, by decide⟩) hst cM.1 hq0 rfl hl.1 rfl (Nat.le_of_ble_eq_true rfl) ⟨by show cells + 1 ≤ 601024; omega, by show slots + 6 ≤ 7293034; omega⟩ d_law_252 (fun H locs hst => ?_)
    refine lv_istore (lv' := [(6, .int r), (5, .int 1), (0, .ref b), (1, .ref hE), (2, .ref hM), (3, .ref hO), (4, .int (nI i))]) hx hb d_law_255 hl (by decide) rfl (fun ls hl => ?_)
    refine lv_aload_n hx hb d_law_257 rfl (lv_at hl 4 rfl) ?_
    obtain ⟨q0, hq0⟩ := fW_M (tk := tk) (hE := hE) (LE := LE) (LJ := LJ) (LV := LV) (LN := LN) (LS := LS) (LZ := LZ) (LQ := LQ) (hO := hO) (hM := hM) (LM := LM) (gE := gE) (gJ := gJ) (gV := gV) (aV := aV) (gN := gN) (aN := aN) (gS := gS) (gZ := gZ) (aZ := aZ) (dP := dP) (gQ := gQ) (dO := dO) (u := u) (nB := nB) (fO := fO) (gM := g2) (aM := a2)
    refine cl_vi (As := []) hx hb hml hown hG hg (fM (fun rw => cM_thrown l dC dI tk A hM LM g2 a2 rw 0 _ rfl)) (cw_v 0 hG k_1153 k_1154 k_1155 k_14 k_1156 (by decide +kernel) ⟨by decide, by decide⟩) hst cM.1 hq0 rfl hl.1 rfl (Nat.le_of_ble_eq_true rfl) ⟨by show cells + 1 ≤ 601024; omega, by show slots + 6 ≤ 7293034; omega⟩ d_law_258 (fun H locs hst => ?_)
    refine W.eq (g2 := F0 m 261 ls [.int 1]) (by rw [h45]) ?_
    refine lv_iload hx hb d_law_261 (lv_at hl 1 rfl) ?_
    refine lv_icmp_eq (tgt := 268) hx hb d_law_263 (by decide) (fun _ => ?_) (fun h9 => absurd rfl h9)
    refine lv_iload hx hb d_law_268 (lv_at hl 1 rfl) ?_
    refine lv_if_ne (tgt := 285) hx hb d_law_270 (by decide) (fun _ => ?_) (fun h9 => absurd h9 (by decide))
    refine lv_goto (tgt := 747) hx hb d_law_285 (by decide) ?_
    refine W.widen (k := cells + 14) (n := slots + 476) (by omega) (by omega) ?_
    exact kk _ _ _ _ _ _ _ _ _ _ _ _ _ _ _ g2 a2 t _ _ _ hI2 ht hnB (lv_sub hl [2, 3, 4, 5, 6] rfl) hst
