set_option maxHeartbeats 4000000 in
theorem lc_7 {p : Program} {l : Launch} {e : Env} {s : State} {m : MethodId} {args : Array Value} {below : List Frame} {meth : Method} {c : Code} {Q : State → Prop} {dC : Nat → ClassId} {dI : Nat → Nat → Nat} {tk : Nat → ClassId} {A : Nat → Prop} {b L : Nat} {xs : Nat → Int32} {I : aI} {hE : Nat} {LE : Nat → Nat} {LJ : Nat → Nat} {LV : Nat → Nat} {LN : Nat → Nat} {LS : Nat → Nat} {LZ : Nat → Nat} {LQ : Nat → Nat} {hO : Nat} {hM : Nat} {LM : Nat → Nat} {gE : aG} {gJ : aG} {gV : aG} {aV : aA} {gN : aG} {aN : aA} {gS : aG} {gZ : aG} {aZ : aA} {dP : aP} {gQ : aG} {dO : aP} {u : sbS} {nB : Nat} {fO : Nat → Int64} {gM : aG} {aM : aA} (hx : p.tables.exec = Jvm.exec) (hb : c.code = code) (hml : c.maxLocals = 7) (hown : s.vm.findClass "EditorServerLaw" = some m.cls) (hG : ∀ w ∈ gW, w.before args s = true) (hg : Gl dC dI tk A s) (hX : va_X b L xs s s.heap) (hbl : b < s.heap.size) (hbA : ¬ A b) (hNT : NoTr l) (hOK : lawOK I) (hI : I gE gJ gV aV gN aN gS gZ aZ dP gQ dO gM aM) (t : List Int32) (ht : sbT t u) (hnB : nB = t.length) (hsrc : LV 8 = LJ 0) (i : Nat) (hi : i + 4 ≤ L) (hL : L ≤ 2048) {H : Heap} {locs : List Loc} {ls : Array Slot} {cells slots : Nat} (hce : cells + 14 ≤ 601024) (hsl : slots + 476 ≤ 7293034) (hl : lv_has ls 7 [(0, .ref b), (1, .ref hE), (2, .ref hM), (3, .ref hO), (4, .int (nI i))]) (hst : St dC dI A s.heap H locs (fWd tk hE LE LJ LV LN LS LZ LQ hO hM LM gE gJ gV aV gN aN gS gZ aZ dP gQ dO u nB fO gM aM))
    (kk : ∀ (gE' : aG) (gJ' : aG) (gV' : aG) (aV' : aA) (gN' : aG) (aN' : aA) (gS' : aG) (gZ' : aG) (aZ' : aA) (dP' : aP) (gQ' : aG) (dO' : aP) (u' : sbS) (nB' : Nat) (fO' : Nat → Int64) (gM' : aG) (aM' : aA) (t' : List Int32) (H1 : Heap) (locs1 : List Loc) (ls1 : Array Slot), I gE' gJ' gV' aV' gN' aN' gS' gZ' aZ' dP' gQ' dO' gM' aM' → sbT t' u' → nB' = t'.length → lv_has ls1 7 [(0, .ref b), (1, .ref hE), (2, .ref hM), (3, .ref hO), (4, .int (nI i))] → St dC dI A s.heap H1 locs1 (fWd tk hE LE LJ LV LN LS LZ LQ hO hM LM gE' gJ' gV' aV' gN' aN' gS' gZ' aZ' dP' gQ' dO' u' nB' fO' gM' aM') → W p l e room_1 s m args below meth c H1 locs1 (cells + 14) (slots + 476) Q (F0 m 747 ls1 [])) : W p l e room_1 s m args below meth c H locs cells slots Q (F0 m 301 ls []) := by
  rcases (hOK gE gJ gV aV gN aN gS gZ aZ dP gQ dO gM aM hI).2.2.2.2.2.2.2.2.2.1 (xs (i + 1)) (xs (i + 2)) with ⟨n, n2, r, g2, hm1, hm2, h45, hI2⟩ | ⟨hm1, n2, r, g2, hm2, h45, hI2⟩ | ⟨hm1, n2, r, g2, hm2, h45, hI2⟩
  · refine lv_aload_n hx hb d_law_301 rfl (lv_at hl 1 rfl) ?_
    refine lv_aload_n hx hb d_law_302 rfl (lv_at hl 0 rfl) ?_
    refine lv_iload hx hb d_law_303 (lv_at hl 4 rfl) ?_
    refine lv_iconst (v := 1) hx hb d_law_305 (by decide) ?_
    refine lv_iadd hx hb d_law_306 ?_
    refine W.eq (g2 := F0 m 307 ls [.int (nI (i + 1)), .ref b, .ref hE]) (by rw [show nI i + 1 = nI (i + 1) from nI_add i 1]) ?_
    refine va_sld hx hb hX hbl hbA hst.2.2 (inb_in (inb_n (n := L) (by omega) (by omega))) d_law_307 ?_
    refine W.eq (g2 := F0 m 308 ls [.int (xs (i + 1)), .ref hE]) (by rw [nI_clamp (by omega)]) ?_
    refine lv_aload_n hx hb d_law_308 rfl (lv_at hl 0 rfl) ?_
    refine lv_iload hx hb d_law_309 (lv_at hl 4 rfl) ?_
    refine lv_iconst (v := 2) hx hb d_law_311 (by decide) ?_
    refine lv_iadd hx hb d_law_312 ?_
    refine W.eq (g2 := F0 m 313 ls [.int (nI (i + 2)), .ref b, .int (xs (i + 1)), .ref hE]) (by rw [show nI i + 2 = nI (i + 2) from nI_add i 2]) ?_
    refine va_sld hx hb hX hbl hbA hst.2.2 (inb_in (inb_n (n := L) (by omega) (by omega))) d_law_313 ?_
    refine W.eq (g2 := F0 m 314 ls [.int (xs (i + 2)), .int (xs (i + 1)), .ref hE]) (by rw [nI_clamp (by omega)]) ?_
    refine lv_aload_n hx hb d_law_314 rfl (lv_at hl 3 rfl) ?_
    refine cl_sw (As := [.ref hE, .int (xs (i + 1)), .int (xs (i + 2)), .ref hO]) (n := 4) hx hb hml hown hG hg (h_response l dC dI tk A hE LE LJ LV LN LS LZ LQ hO hM LM gE gJ gV aV gN aN gS gZ aZ dP gQ dO u nB fO gM aM n (xs (i + 1)) (xs (i + 2)) _ hm1) k_766 k_767 k_0 k_768 (by decide +kernel) ⟨by decide, by decide⟩ hst rfl hl.1 rfl (Nat.le_of_ble_eq_true rfl) ⟨by show cells + 0 ≤ 601024; omega, by show slots + 0 ≤ 7293034; omega⟩ d_law_315 (fun H locs hst => ?_)
    refine lv_istore (lv' := [(5, .int 0), (0, .ref b), (1, .ref hE), (2, .ref hM), (3, .ref hO), (4, .int (nI i))]) hx hb d_law_318 hl (by decide) rfl (fun ls hl => ?_)
    refine lv_aload_n hx hb d_law_320 rfl (lv_at hl 3 rfl) ?_
    refine lv_aload_n hx hb d_law_321 rfl (lv_at hl 1 rfl) ?_
    refine lv_iload hx hb d_law_322 (lv_at hl 5 rfl) ?_
    refine lv_iconst (v := 1) hx hb d_law_324 (by decide) ?_
    refine lv_iadd hx hb d_law_325 ?_
    refine W.eq (g2 := F0 m 326 ls [.int (nI (i + 1)), .ref b, .ref hM]) (by rw [show nI i + 1 = nI (i + 1) from nI_add i 1]) ?_
    refine va_sld hx hb hX hbl hbA hst.2.2 (inb_in (inb_n (n := L) (by omega) (by omega))) d_law_326 ?_
    refine W.eq (g2 := F0 m 327 ls [.int (xs (i + 1)), .ref hM]) (by rw [nI_clamp (by omega)]) ?_
    refine lv_aload_n hx hb d_law_327 rfl (lv_at hl 1 rfl) ?_
    refine lv_iload hx hb d_law_328 (lv_at hl 5 rfl) ?_
    refine lv_iconst (v := 2) hx hb d_law_330 (by decide) ?_
    refine lv_iadd hx hb d_law_331 ?_
    refine W.eq (g2 := F0 m 332 ls [.int (nI (i + 2)), .ref b, .int (xs (i + 1)), .ref hM]) (by rw [show nI i + 2 = nI (i + 2) from nI_add i 2]) ?_
    refine va_sld hx hb hX hbl hbA hst.2.2 (inb_in (inb_n (n := L) (by omega) (by omega))) d_law_332 ?_
    refine W.eq (g2 := F0 m 333 ls [.int (xs (i + 2)), .int (xs (i + 1)), .ref hM]) (by rw [nI_clamp (by omega)]) ?_
    obtain ⟨q0, hq0⟩ := fW_M (tk := tk) (hE := hE) (LE := LE) (LJ := LJ) (LV := LV) (LN := LN) (LS := LS) (LZ := LZ) (LQ := LQ) (hO := hO) (hM := hM) (LM := LM) (gE := gE) (gJ := gJ) (gV := gV) (aV := aV) (gN := gN) (aN := aN) (gS := gS) (gZ := gZ) (aZ := aZ) (dP := dP) (gQ := gQ) (dO := dO) (u := u) (nB := nB) (fO := (vp_updL fO 0 r.toInt64)) (gM := gM) (aM := aM)
    refine cl_vi (As := [.int (xs (i + 1)), .int (xs (i + 2))]) hx hb hml hown hG hg (fM (fun rw => cM_response l dC dI tk A hM LM gM aM rw n2 ((xs (i + 1))) ((xs (i + 2))) _ _ hm2)) (cw_v 2 hG k_1327 k_1328 k_1329 k_14 k_1330 (by decide +kernel) ⟨by decide, by decide⟩) hst cM.1 hq0 rfl hl.1 rfl (Nat.le_of_ble_eq_true rfl) ⟨by show cells + 0 ≤ 601024; omega, by show slots + 0 ≤ 7293034; omega⟩ d_law_333 (fun H locs hst => ?_)
    refine lv_istore (lv' := [(6, .int r), (5, .int 0), (0, .ref b), (1, .ref hE), (2, .ref hM), (3, .ref hO), (4, .int (nI i))]) hx hb d_law_336 hl (by decide) rfl (fun ls hl => ?_)
    refine lv_aload_n hx hb d_law_338 rfl (lv_at hl 4 rfl) ?_
    obtain ⟨q0, hq0⟩ := fW_M (tk := tk) (hE := hE) (LE := LE) (LJ := LJ) (LV := LV) (LN := LN) (LS := LS) (LZ := LZ) (LQ := LQ) (hO := hO) (hM := hM) (LM := LM) (gE := gE) (gJ := gJ) (gV := gV) (aV := aV) (gN := gN) (aN := aN) (gS := gS) (gZ := gZ) (aZ := aZ) (dP := dP) (gQ := gQ) (dO := dO) (u := u) (nB := nB) (fO := (vp_updL fO 0 r.toInt64)) (gM := g2) (aM := aM)
    refine cl_vi (As := []) hx hb hml hown hG hg (fM (fun rw => cM_thrown l dC dI tk A hM LM g2 aM rw 0 _ rfl)) (cw_v 0 hG k_1153 k_1154 k_1155 k_14 k_1156 (by decide +kernel) ⟨by decide, by decide⟩) hst cM.1 hq0 rfl hl.1 rfl (Nat.le_of_ble_eq_true rfl) ⟨by show cells + 0 ≤ 601024; omega, by show slots + 0 ≤ 7293034; omega⟩ d_law_339 (fun H locs hst => ?_)
    refine W.eq (g2 := F0 m 342 ls [.int 0]) (by rw [h45]) ?_
    refine lv_iload hx hb d_law_342 (lv_at hl 1 rfl) ?_
    refine lv_icmp_eq (tgt := 349) hx hb d_law_344 (by decide) (fun _ => ?_) (fun h9 => absurd rfl h9)
    refine lv_iload hx hb d_law_349 (lv_at hl 1 rfl) ?_
    refine lv_if_ne (tgt := 366) hx hb d_law_351 (by decide) (fun h9 => absurd rfl h9) (fun _ => ?_)
    refine lv_aload_n hx hb d_law_354 rfl (lv_at hl 5 rfl) ?_
    refine lv_iconst (v := 0) hx hb d_law_355 (by decide) ?_
    refine ro_lald hx hb hg hst d_law_356 ?_
    refine W.eq (g2 := F0 m 357 ls [.long r.toInt64]) rfl ?_
    refine lv_iload hx hb d_law_357 (lv_at hl 0 rfl) ?_
    refine lv_i2l hx hb d_law_359 rfl ?_
    refine W.lcmp hx hb d_law_360 ?_
    rw [lcmp_0]
    refine lv_if_eq (tgt := 366) hx hb d_law_361 (by decide) (fun _ => ?_) (fun h9 => absurd rfl h9)
    refine lv_goto (tgt := 747) hx hb d_law_366 (by decide) ?_
    refine W.widen (k := cells + 14) (n := slots + 476) (by omega) (by omega) ?_
    exact kk _ _ _ _ _ _ _ _ _ _ _ _ _ _ (vp_updL fO 0 r.toInt64) g2 _ t _ _ _ hI2 ht hnB (lv_sub hl [2, 3, 4, 5, 6] rfl) hst
  · refine lv_aload_n hx hb d_law_301 rfl (lv_at hl 1 rfl) ?_
    refine lv_aload_n hx hb d_law_302 rfl (lv_at hl 0 rfl) ?_
    refine lv_iload hx hb d_law_303 (lv_at hl 4 rfl) ?_
    refine lv_iconst (v := 1) hx hb d_law_305 (by decide) ?_
    refine lv_iadd hx hb d_law_306 ?_
    refine W.eq (g2 := F0 m 307 ls [.int (nI (i + 1)), .ref b, .ref hE]) (by rw [show nI i + 1 = nI (i + 1) from nI_add i 1]) ?_
    refine va_sld hx hb hX hbl hbA hst.2.2 (inb_in (inb_n (n := L) (by omega) (by omega))) d_law_307 ?_
    refine W.eq (g2 := F0 m 308 ls [.int (xs (i + 1)), .ref hE]) (by rw [nI_clamp (by omega)]) ?_
    refine lv_aload_n hx hb d_law_308 rfl (lv_at hl 0 rfl) ?_
    refine lv_iload hx hb d_law_309 (lv_at hl 4 rfl) ?_
    refine lv_iconst (v := 2) hx hb d_law_311 (by decide) ?_
    refine lv_iadd hx hb d_law_312 ?_
    refine W.eq (g2 := F0 m 313 ls [.int (nI (i + 2)), .ref b, .int (xs (i + 1)), .ref hE]) (by rw [show nI i + 2 = nI (i + 2) from nI_add i 2]) ?_
    refine va_sld hx hb hX hbl hbA hst.2.2 (inb_in (inb_n (n := L) (by omega) (by omega))) d_law_313 ?_
    refine W.eq (g2 := F0 m 314 ls [.int (xs (i + 2)), .int (xs (i + 1)), .ref hE]) (by rw [nI_clamp (by omega)]) ?_
    refine lv_aload_n hx hb d_law_314 rfl (lv_at hl 3 rfl) ?_
    refine cl_sw (As := [.ref hE, .int (xs (i + 1)), .int (xs (i + 2)), .ref hO]) (n := 4) hx hb hml hown hG hg (h_response_i l dC dI tk A hE LE LJ LV LN LS LZ LQ hO hM LM gE gJ gV aV gN aN gS gZ aZ dP gQ dO u nB fO gM aM (xs (i + 1)) (xs (i + 2)) hNT hm1) k_766 k_767 k_0 k_768 (by decide +kernel) ⟨by decide, by decide⟩ hst rfl hl.1 rfl (Nat.le_of_ble_eq_true rfl) ⟨by show cells + 1 ≤ 601024; omega, by show slots + 6 ≤ 7293034; omega⟩ d_law_315 (fun H locs hst => ?_)
    refine lv_istore (lv' := [(5, .int 1), (0, .ref b), (1, .ref hE), (2, .ref hM), (3, .ref hO), (4, .int (nI i))]) hx hb d_law_318 hl (by decide) rfl (fun ls hl => ?_)
    refine lv_aload_n hx hb d_law_320 rfl (lv_at hl 3 rfl) ?_
    refine lv_aload_n hx hb d_law_321 rfl (lv_at hl 1 rfl) ?_
    refine lv_iload hx hb d_law_322 (lv_at hl 5 rfl) ?_
    refine lv_iconst (v := 1) hx hb d_law_324 (by decide) ?_
    refine lv_iadd hx hb d_law_325 ?_
    refine W.eq (g2 := F0 m 326 ls [.int (nI (i + 1)), .ref b, .ref hM]) (by rw [show nI i + 1 = nI (i + 1) from nI_add i 1]) ?_
    refine va_sld hx hb hX hbl hbA hst.2.2 (inb_in (inb_n (n := L) (by omega) (by omega))) d_law_326 ?_
    refine W.eq (g2 := F0 m 327 ls [.int (xs (i + 1)), .ref hM]) (by rw [nI_clamp (by omega)]) ?_
    refine lv_aload_n hx hb d_law_327 rfl (lv_at hl 1 rfl) ?_
    refine lv_iload hx hb d_law_328 (lv_at hl 5 rfl) ?_
    refine lv_iconst (v := 2) hx hb d_law_330 (by decide) ?_
    refine lv_iadd hx hb d_law_331 ?_
    refine W.eq (g2 := F0 m 332 ls [.int (nI (i + 2)), .ref b, .int (xs (i + 1)), .ref hM]) (by rw [show nI i + 2 = nI (i + 2) from nI_add i 2]) ?_
    refine va_sld hx hb hX hbl hbA hst.2.2 (inb_in (inb_n (n := L) (by omega) (by omega))) d_law_332 ?_
    refine W.eq (g2 := F0 m 333 ls [.int (xs (i + 2)), .int (xs (i + 1)), .ref hM]) (by rw [nI_clamp (by omega)]) ?_
    obtain ⟨q0, hq0⟩ := fW_M (tk := tk) (hE := hE) (LE := LE) (LJ := LJ) (LV := LV) (LN := LN) (LS := LS) (LZ := LZ) (LQ := LQ) (hO := hO) (hM := hM) (LM := LM) (gE := gE) (gJ := gJ) (gV := gV) (aV := aV) (gN := gN) (aN := aN) (gS := gS) (gZ := gZ) (aZ := aZ) (dP := dP) (gQ := gQ) (dO := dO) (u := u) (nB := nB) (fO := fO) (gM := gM) (aM := aM)
    refine cl_vi (As := [.int (xs (i + 1)), .int (xs (i + 2))]) hx hb hml hown hG hg (fM (fun rw => cM_response l dC dI tk A hM LM gM aM rw n2 ((xs (i + 1))) ((xs (i + 2))) _ _ hm2)) (cw_v 2 hG k_1327 k_1328 k_1329 k_14 k_1330 (by decide +kernel) ⟨by decide, by decide⟩) hst cM.1 hq0 rfl hl.1 rfl (Nat.le_of_ble_eq_true rfl) ⟨by show cells + 1 ≤ 601024; omega, by show slots + 6 ≤ 7293034; omega⟩ d_law_333 (fun H locs hst => ?_)
    refine lv_istore (lv' := [(6, .int r), (5, .int 1), (0, .ref b), (1, .ref hE), (2, .ref hM), (3, .ref hO), (4, .int (nI i))]) hx hb d_law_336 hl (by decide) rfl (fun ls hl => ?_)
    refine lv_aload_n hx hb d_law_338 rfl (lv_at hl 4 rfl) ?_
    obtain ⟨q0, hq0⟩ := fW_M (tk := tk) (hE := hE) (LE := LE) (LJ := LJ) (LV := LV) (LN := LN) (LS := LS) (LZ := LZ) (LQ := LQ) (hO := hO) (hM := hM) (LM := LM) (gE := gE) (gJ := gJ) (gV := gV) (aV := aV) (gN := gN) (aN := aN) (gS := gS) (gZ := gZ) (aZ := aZ) (dP := dP) (gQ := gQ) (dO := dO) (u := u) (nB := nB) (fO := fO) (gM := g2) (aM := aM)
    refine cl_vi (As := []) hx hb hml hown hG hg (fM (fun rw => cM_thrown l dC dI tk A hM LM g2 aM rw 0 _ rfl)) (cw_v 0 hG k_1153 k_1154 k_1155 k_14 k_1156 (by decide +kernel) ⟨by decide, by decide⟩) hst cM.1 hq0 rfl hl.1 rfl (Nat.le_of_ble_eq_true rfl) ⟨by show cells + 1 ≤ 601024; omega, by show slots + 6 ≤ 7293034; omega⟩ d_law_339 (fun H locs hst => ?_)
    refine W.eq (g2 := F0 m 342 ls [.int 1]) (by rw [h45]) ?_
    refine lv_iload hx hb d_law_342 (lv_at hl 1 rfl) ?_
    refine lv_icmp_eq (tgt := 349) hx hb d_law_344 (by decide) (fun _ => ?_) (fun h9 => absurd rfl h9)
    refine lv_iload hx hb d_law_349 (lv_at hl 1 rfl) ?_
    refine lv_if_ne (tgt := 366) hx hb d_law_351 (by decide) (fun _ => ?_) (fun h9 => absurd h9 (by decide))
    refine lv_goto (tgt := 747) hx hb d_law_366 (by decide) ?_
    refine W.widen (k := cells + 14) (n := slots + 476) (by omega) (by omega) ?_
    exact kk _ _ _ _ _ _ _ _ _ _ _ _ _ _ _ g2 _ t _ _ _ hI2 ht hnB (lv_sub hl [2, 3, 4, 5, 6] rfl) hst
  · refine lv_aload_n hx hb d_law_301 rfl (lv_at hl 1 rfl) ?_
    refine lv_aload_n hx hb d_law_302 rfl (lv_at hl 0 rfl) ?_
    refine lv_iload hx hb d_law_303 (lv_at hl 4 rfl) ?_
    refine lv_iconst (v := 1) hx hb d_law_305 (by decide) ?_
    refine lv_iadd hx hb d_law_306 ?_
    refine W.eq (g2 := F0 m 307 ls [.int (nI (i + 1)), .ref b, .ref hE]) (by rw [show nI i + 1 = nI (i + 1) from nI_add i 1]) ?_
    refine va_sld hx hb hX hbl hbA hst.2.2 (inb_in (inb_n (n := L) (by omega) (by omega))) d_law_307 ?_
    refine W.eq (g2 := F0 m 308 ls [.int (xs (i + 1)), .ref hE]) (by rw [nI_clamp (by omega)]) ?_
    refine lv_aload_n hx hb d_law_308 rfl (lv_at hl 0 rfl) ?_
    refine lv_iload hx hb d_law_309 (lv_at hl 4 rfl) ?_
    refine lv_iconst (v := 2) hx hb d_law_311 (by decide) ?_
    refine lv_iadd hx hb d_law_312 ?_
    refine W.eq (g2 := F0 m 313 ls [.int (nI (i + 2)), .ref b, .int (xs (i + 1)), .ref hE]) (by rw [show nI i + 2 = nI (i + 2) from nI_add i 2]) ?_
    refine va_sld hx hb hX hbl hbA hst.2.2 (inb_in (inb_n (n := L) (by omega) (by omega))) d_law_313 ?_
    refine W.eq (g2 := F0 m 314 ls [.int (xs (i + 2)), .int (xs (i + 1)), .ref hE]) (by rw [nI_clamp (by omega)]) ?_
    refine lv_aload_n hx hb d_law_314 rfl (lv_at hl 3 rfl) ?_
    refine cl_sw (As := [.ref hE, .int (xs (i + 1)), .int (xs (i + 2)), .ref hO]) (n := 4) hx hb hml hown hG hg (h_response_a l dC dI tk A hE LE LJ LV LN LS LZ LQ hO hM LM gE gJ gV aV gN aN gS gZ aZ dP gQ dO u nB fO gM aM (xs (i + 1)) (xs (i + 2)) hNT hm1) k_766 k_767 k_0 k_768 (by decide +kernel) ⟨by decide, by decide⟩ hst rfl hl.1 rfl (Nat.le_of_ble_eq_true rfl) ⟨by show cells + 1 ≤ 601024; omega, by show slots + 6 ≤ 7293034; omega⟩ d_law_315 (fun H locs hst => ?_)
    refine lv_istore (lv' := [(5, .int 2), (0, .ref b), (1, .ref hE), (2, .ref hM), (3, .ref hO), (4, .int (nI i))]) hx hb d_law_318 hl (by decide) rfl (fun ls hl => ?_)
    refine lv_aload_n hx hb d_law_320 rfl (lv_at hl 3 rfl) ?_
    refine lv_aload_n hx hb d_law_321 rfl (lv_at hl 1 rfl) ?_
    refine lv_iload hx hb d_law_322 (lv_at hl 5 rfl) ?_
    refine lv_iconst (v := 1) hx hb d_law_324 (by decide) ?_
    refine lv_iadd hx hb d_law_325 ?_
    refine W.eq (g2 := F0 m 326 ls [.int (nI (i + 1)), .ref b, .ref hM]) (by rw [show nI i + 1 = nI (i + 1) from nI_add i 1]) ?_
    refine va_sld hx hb hX hbl hbA hst.2.2 (inb_in (inb_n (n := L) (by omega) (by omega))) d_law_326 ?_
    refine W.eq (g2 := F0 m 327 ls [.int (xs (i + 1)), .ref hM]) (by rw [nI_clamp (by omega)]) ?_
    refine lv_aload_n hx hb d_law_327 rfl (lv_at hl 1 rfl) ?_
    refine lv_iload hx hb d_law_328 (lv_at hl 5 rfl) ?_
    refine lv_iconst (v := 2) hx hb d_law_330 (by decide) ?_
    refine lv_iadd hx hb d_law_331 ?_
    refine W.eq (g2 := F0 m 332 ls [.int (nI (i + 2)), .ref b, .int (xs (i + 1)), .ref hM]) (by rw [show nI i + 2 = nI (i + 2) from nI_add i 2]) ?_
    refine va_sld hx hb hX hbl hbA hst.2.2 (inb_in (inb_n (n := L) (by omega) (by omega))) d_law_332 ?_
    refine W.eq (g2 := F0 m 333 ls [.int (xs (i + 2)), .int (xs (i + 1)), .ref hM]) (by rw [nI_clamp (by omega)]) ?_
    obtain ⟨q0, hq0⟩ := fW_M (tk := tk) (hE := hE) (LE := LE) (LJ := LJ) (LV := LV) (LN := LN) (LS := LS) (LZ := LZ) (LQ := LQ) (hO := hO) (hM := hM) (LM := LM) (gE := gE) (gJ := gJ) (gV := gV) (aV := aV) (gN := gN) (aN := aN) (gS := gS) (gZ := gZ) (aZ := aZ) (dP := dP) (gQ := gQ) (dO := dO) (u := u) (nB := nB) (fO := fO) (gM := gM) (aM := aM)
    refine cl_vi (As := [.int (xs (i + 1)), .int (xs (i + 2))]) hx hb hml hown hG hg (fM (fun rw => cM_response l dC dI tk A hM LM gM aM rw n2 ((xs (i + 1))) ((xs (i + 2))) _ _ hm2)) (cw_v 2 hG k_1327 k_1328 k_1329 k_14 k_1330 (by decide +kernel) ⟨by decide, by decide⟩) hst cM.1 hq0 rfl hl.1 rfl (Nat.le_of_ble_eq_true rfl) ⟨by show cells + 1 ≤ 601024; omega, by show slots + 6 ≤ 7293034; omega⟩ d_law_333 (fun H locs hst => ?_)
    refine lv_istore (lv' := [(6, .int r), (5, .int 2), (0, .ref b), (1, .ref hE), (2, .ref hM), (3, .ref hO), (4, .int (nI i))]) hx hb d_law_336 hl (by decide) rfl (fun ls hl => ?_)
    refine lv_aload_n hx hb d_law_338 rfl (lv_at hl 4 rfl) ?_
    obtain ⟨q0, hq0⟩ := fW_M (tk := tk) (hE := hE) (LE := LE) (LJ := LJ) (LV := LV) (LN := LN) (LS := LS) (LZ := LZ) (LQ := LQ) (hO := hO) (hM := hM) (LM := LM) (gE := gE) (gJ := gJ) (gV := gV) (aV := aV) (gN := gN) (aN := aN) (gS := gS) (gZ := gZ) (aZ := aZ) (dP := dP) (gQ := gQ) (dO := dO) (u := u) (nB := nB) (fO := fO) (gM := g2) (aM := aM)
    refine cl_vi (As := []) hx hb hml hown hG hg (fM (fun rw => cM_thrown l dC dI tk A hM LM g2 aM rw 0 _ rfl)) (cw_v 0 hG k_1153 k_1154 k_1155 k_14 k_1156 (by decide +kernel) ⟨by decide, by decide⟩) hst cM.1 hq0 rfl hl.1 rfl (Nat.le_of_ble_eq_true rfl) ⟨by show cells + 1 ≤ 601024; omega, by show slots + 6 ≤ 7293034; omega⟩ d_law_339 (fun H locs hst => ?_)
    refine W.eq (g2 := F0 m 342 ls [.int 2]) (by rw [h45]) ?_
    refine lv_iload hx hb d_law_342 (lv_at hl 1 rfl) ?_
    refine lv_icmp_eq (tgt := 349) hx hb d_law_344 (by decide) (fun _ => ?_) (fun h9 => absurd rfl h9)
    refine lv_iload hx hb d_law_349 (lv_at hl 1 rfl) ?_
    refine lv_if_ne (tgt := 366) hx hb d_law_351 (by decide) (fun _ => ?_) (fun h9 => absurd h9 (by decide))
    refine lv_goto (tgt := 747) hx hb d_law_366 (by decide) ?_
    refine W.widen (k := cells + 14) (n := slots + 476) (by omega) (by omega) ?_
    exact kk _ _ _ _ _ _ _ _ _ _ _ _ _ _ _ g2 _ t _ _ _ hI2 ht hnB (lv_sub hl [2, 3, 4, 5, 6] rfl) hst
set_option maxHeartbeats 4000000 in
theorem lc_8 {p : Program} {l : Launch} {e : Env} {s : State} {m : MethodId} {args : Array Value} {below : List Frame} {meth : Method} {c : Code} {Q : State → Prop} {dC : Nat → ClassId} {dI : Nat → Nat → Nat} {tk : Nat → ClassId} {A : Nat → Prop} {b L : Nat} {xs : Nat → Int32} {I : aI} {hE : Nat} {LE : Nat → Nat} {LJ : Nat → Nat} {LV : Nat → Nat} {LN : Nat → Nat} {LS : Nat → Nat} {LZ : Nat → Nat} {LQ : Nat → Nat} {hO : Nat} {hM : Nat} {LM : Nat → Nat} {gE : aG} {gJ : aG} {gV : aG} {aV : aA} {gN : aG} {aN : aA} {gS : aG} {gZ : aG} {aZ : aA} {dP : aP} {gQ : aG} {dO : aP} {u : sbS} {nB : Nat} {fO : Nat → Int64} {gM : aG} {aM : aA} (hx : p.tables.exec = Jvm.exec) (hb : c.code = code) (hml : c.maxLocals = 7) (hown : s.vm.findClass "EditorServerLaw" = some m.cls) (hG : ∀ w ∈ gW, w.before args s = true) (hg : Gl dC dI tk A s) (hX : va_X b L xs s s.heap) (hbl : b < s.heap.size) (hbA : ¬ A b) (hNT : NoTr l) (hOK : lawOK I) (hI : I gE gJ gV aV gN aN gS gZ aZ dP gQ dO gM aM) (t : List Int32) (ht : sbT t u) (hnB : nB = t.length) (hsrc : LV 8 = LJ 0) (i : Nat) (hi : i + 4 ≤ L) (hL : L ≤ 2048) {H : Heap} {locs : List Loc} {ls : Array Slot} {cells slots : Nat} (hce : cells + 14 ≤ 601024) (hsl : slots + 476 ≤ 7293034) (hl : lv_has ls 7 [(0, .ref b), (1, .ref hE), (2, .ref hM), (3, .ref hO), (4, .int (nI i))]) (hst : St dC dI A s.heap H locs (fWd tk hE LE LJ LV LN LS LZ LQ hO hM LM gE gJ gV aV gN aN gS gZ aZ dP gQ dO u nB fO gM aM))
    (kk : ∀ (gE' : aG) (gJ' : aG) (gV' : aG) (aV' : aA) (gN' : aG) (aN' : aA) (gS' : aG) (gZ' : aG) (aZ' : aA) (dP' : aP) (gQ' : aG) (dO' : aP) (u' : sbS) (nB' : Nat) (fO' : Nat → Int64) (gM' : aG) (aM' : aA) (t' : List Int32) (H1 : Heap) (locs1 : List Loc) (ls1 : Array Slot), I gE' gJ' gV' aV' gN' aN' gS' gZ' aZ' dP' gQ' dO' gM' aM' → sbT t' u' → nB' = t'.length → lv_has ls1 7 [(0, .ref b), (1, .ref hE), (2, .ref hM), (3, .ref hO), (4, .int (nI i))] → St dC dI A s.heap H1 locs1 (fWd tk hE LE LJ LV LN LS LZ LQ hO hM LM gE' gJ' gV' aV' gN' aN' gS' gZ' aZ' dP' gQ' dO' u' nB' fO' gM' aM') → W p l e room_1 s m args below meth c H1 locs1 (cells + 14) (slots + 476) Q (F0 m 747 ls1 [])) : W p l e room_1 s m args below meth c H locs cells slots Q (F0 m 369 ls []) := by
  rcases (hOK gE gJ gV aV gN aN gS gZ aZ dP gQ dO gM aM hI).2.2.2.2.2.2.2.2.2.2.1 (xs (i + 1)) (xs (i + 2)) with ⟨n2, k, b1, b2, w1, w2, B0, F, kn, g2, a2, e0, hk, hw1, hw2, hb1, hb2, e1, e2, hB0, hF, hc, hasc, hgn, hkn, hkn2, hm2, h45, hI2⟩ | ⟨hm1, n2, r, g2, a2, hm2, h45, hI2⟩
  · refine lv_aload_n hx hb d_law_369 rfl (lv_at hl 1 rfl) ?_
    refine lv_aload_n hx hb d_law_370 rfl (lv_at hl 0 rfl) ?_
    refine lv_iload hx hb d_law_371 (lv_at hl 4 rfl) ?_
    refine lv_iconst (v := 1) hx hb d_law_373 (by decide) ?_
    refine lv_iadd hx hb d_law_374 ?_
    refine W.eq (g2 := F0 m 375 ls [.int (nI (i + 1)), .ref b, .ref hE]) (by rw [show nI i + 1 = nI (i + 1) from nI_add i 1]) ?_
    refine va_sld hx hb hX hbl hbA hst.2.2 (inb_in (inb_n (n := L) (by omega) (by omega))) d_law_375 ?_
    refine W.eq (g2 := F0 m 376 ls [.int (xs (i + 1)), .ref hE]) (by rw [nI_clamp (by omega)]) ?_
    refine lv_aload_n hx hb d_law_376 rfl (lv_at hl 0 rfl) ?_
    refine lv_iload hx hb d_law_377 (lv_at hl 4 rfl) ?_
    refine lv_iconst (v := 2) hx hb d_law_379 (by decide) ?_
    refine lv_iadd hx hb d_law_380 ?_
    refine W.eq (g2 := F0 m 381 ls [.int (nI (i + 2)), .ref b, .int (xs (i + 1)), .ref hE]) (by rw [show nI i + 2 = nI (i + 2) from nI_add i 2]) ?_
    refine va_sld hx hb hX hbl hbA hst.2.2 (inb_in (inb_n (n := L) (by omega) (by omega))) d_law_381 ?_
    refine W.eq (g2 := F0 m 382 ls [.int (xs (i + 2)), .int (xs (i + 1)), .ref hE]) (by rw [nI_clamp (by omega)]) ?_
    refine lv_aload_n hx hb d_law_382 rfl (lv_at hl 3 rfl) ?_
    refine W.eq (g2 := F0 m 383 ls [.ref hO, .int (xs (i + 2)), .int (nI k), .ref hE]) (by rw [e0]) ?_
    refine cl_swp (As := [.ref hE, .int (nI k), .int (xs (i + 2)), .ref hO]) (n := 4) hx hb hml hown hG hg (h_written l dC dI tk A hE LE LJ LV LN LS LZ LQ hO hM LM gE gJ gV aV gN aN gS gZ aZ dP gQ dO u nB fO gM aM t ht hnB (xs (i + 2)) k hk b1 b2 w1 w2 hw1 hw2 hb1 hb2 e1 e2 B0 F hB0 hF hc hasc kn hgn hkn hkn2) k_789 k_790 k_0 k_791 (by decide +kernel) ⟨by decide, by decide⟩ hst rfl hl.1 rfl (Nat.le_of_ble_eq_true rfl) ⟨by show cells + 14 ≤ 601024; omega, by show slots + 476 ≤ 7293034; omega⟩ d_law_383 (fun u2 H locs ht2 hst => ?_)
    refine lv_istore (lv' := [(5, .int 0), (0, .ref b), (1, .ref hE), (2, .ref hM), (3, .ref hO), (4, .int (nI i))]) hx hb d_law_386 hl (by decide) rfl (fun ls hl => ?_)
    refine lv_aload_n hx hb d_law_388 rfl (lv_at hl 3 rfl) ?_
    refine lv_aload_n hx hb d_law_389 rfl (lv_at hl 1 rfl) ?_
    refine lv_iload hx hb d_law_390 (lv_at hl 5 rfl) ?_
    refine lv_iconst (v := 1) hx hb d_law_392 (by decide) ?_
    refine lv_iadd hx hb d_law_393 ?_
    refine W.eq (g2 := F0 m 394 ls [.int (nI (i + 1)), .ref b, .ref hM]) (by rw [show nI i + 1 = nI (i + 1) from nI_add i 1]) ?_
    refine va_sld hx hb hX hbl hbA hst.2.2 (inb_in (inb_n (n := L) (by omega) (by omega))) d_law_394 ?_
    refine W.eq (g2 := F0 m 395 ls [.int (xs (i + 1)), .ref hM]) (by rw [nI_clamp (by omega)]) ?_
    refine lv_aload_n hx hb d_law_395 rfl (lv_at hl 1 rfl) ?_
    refine lv_iload hx hb d_law_396 (lv_at hl 5 rfl) ?_
    refine lv_iconst (v := 2) hx hb d_law_398 (by decide) ?_
    refine lv_iadd hx hb d_law_399 ?_
    refine W.eq (g2 := F0 m 400 ls [.int (nI (i + 2)), .ref b, .int (xs (i + 1)), .ref hM]) (by rw [show nI i + 2 = nI (i + 2) from nI_add i 2]) ?_
    refine va_sld hx hb hX hbl hbA hst.2.2 (inb_in (inb_n (n := L) (by omega) (by omega))) d_law_400 ?_
    refine W.eq (g2 := F0 m 401 ls [.int (xs (i + 2)), .int (xs (i + 1)), .ref hM]) (by rw [nI_clamp (by omega)]) ?_
    obtain ⟨q0, hq0⟩ := fW_M (tk := tk) (hE := hE) (LE := LE) (LJ := LJ) (LV := LV) (LN := LN) (LS := LS) (LZ := LZ) (LQ := LQ) (hO := hO) (hM := hM) (LM := LM) (gE := gE) (gJ := gJ) (gV := gV) (aV := aV) (gN := gN) (aN := aN) (gS := gS) (gZ := gZ) (aZ := aZ) (dP := dP) (gQ := gQ) (dO := dO) (u := u2) (nB := F.length) (fO := (vp_updL fO 0 (fchr F (xs (i + 2))).toInt64)) (gM := gM) (aM := aM)
    refine cl_vi (As := [.int (xs (i + 1)), .int (xs (i + 2))]) hx hb hml hown hG hg (fM (fun rw => cM_written l dC dI tk A hM LM gM aM rw n2 ((xs (i + 1))) ((xs (i + 2))) _ _ _ hm2)) (cw_v 2 hG k_1331 k_1332 k_1333 k_14 k_1334 (by decide +kernel) ⟨by decide, by decide⟩) hst cM.1 hq0 rfl hl.1 rfl (Nat.le_of_ble_eq_true rfl) ⟨by show cells + 14 ≤ 601024; omega, by show slots + 476 ≤ 7293034; omega⟩ d_law_401 (fun H locs hst => ?_)
    refine lv_istore (lv' := [(6, .int (fchr F (xs (i + 2)))), (5, .int 0), (0, .ref b), (1, .ref hE), (2, .ref hM), (3, .ref hO), (4, .int (nI i))]) hx hb d_law_404 hl (by decide) rfl (fun ls hl => ?_)
    refine lv_aload_n hx hb d_law_406 rfl (lv_at hl 4 rfl) ?_
    obtain ⟨q0, hq0⟩ := fW_M (tk := tk) (hE := hE) (LE := LE) (LJ := LJ) (LV := LV) (LN := LN) (LS := LS) (LZ := LZ) (LQ := LQ) (hO := hO) (hM := hM) (LM := LM) (gE := gE) (gJ := gJ) (gV := gV) (aV := aV) (gN := gN) (aN := aN) (gS := gS) (gZ := gZ) (aZ := aZ) (dP := dP) (gQ := gQ) (dO := dO) (u := u2) (nB := F.length) (fO := (vp_updL fO 0 (fchr F (xs (i + 2))).toInt64)) (gM := g2) (aM := a2)
    refine cl_vi (As := []) hx hb hml hown hG hg (fM (fun rw => cM_thrown l dC dI tk A hM LM g2 a2 rw 0 _ rfl)) (cw_v 0 hG k_1153 k_1154 k_1155 k_14 k_1156 (by decide +kernel) ⟨by decide, by decide⟩) hst cM.1 hq0 rfl hl.1 rfl (Nat.le_of_ble_eq_true rfl) ⟨by show cells + 14 ≤ 601024; omega, by show slots + 476 ≤ 7293034; omega⟩ d_law_407 (fun H locs hst => ?_)
    refine W.eq (g2 := F0 m 410 ls [.int 0]) (by rw [h45]) ?_
    refine lv_iload hx hb d_law_410 (lv_at hl 1 rfl) ?_
    refine lv_icmp_eq (tgt := 417) hx hb d_law_412 (by decide) (fun _ => ?_) (fun h9 => absurd rfl h9)
    refine lv_iload hx hb d_law_417 (lv_at hl 1 rfl) ?_
    refine lv_if_ne (tgt := 434) hx hb d_law_419 (by decide) (fun h9 => absurd rfl h9) (fun _ => ?_)
    refine lv_aload_n hx hb d_law_422 rfl (lv_at hl 5 rfl) ?_
    refine lv_iconst (v := 0) hx hb d_law_423 (by decide) ?_
    refine ro_lald hx hb hg hst d_law_424 ?_
    refine W.eq (g2 := F0 m 425 ls [.long (fchr F (xs (i + 2))).toInt64]) rfl ?_
    refine lv_iload hx hb d_law_425 (lv_at hl 0 rfl) ?_
    refine lv_i2l hx hb d_law_427 rfl ?_
    refine W.lcmp hx hb d_law_428 ?_
    rw [lcmp_0]
    refine lv_if_eq (tgt := 434) hx hb d_law_429 (by decide) (fun _ => ?_) (fun h9 => absurd rfl h9)
    refine lv_goto (tgt := 747) hx hb d_law_434 (by decide) ?_
    refine W.widen (k := cells + 14) (n := slots + 476) (by omega) (by omega) ?_
    exact kk _ _ _ _ _ _ _ _ _ _ _ _ u2 F.length (vp_updL fO 0 (fchr F (xs (i + 2))).toInt64) g2 a2 F _ _ _ hI2 ht2 rfl (lv_sub hl [2, 3, 4, 5, 6] rfl) hst
  · refine lv_aload_n hx hb d_law_369 rfl (lv_at hl 1 rfl) ?_
    refine lv_aload_n hx hb d_law_370 rfl (lv_at hl 0 rfl) ?_
    refine lv_iload hx hb d_law_371 (lv_at hl 4 rfl) ?_
    refine lv_iconst (v := 1) hx hb d_law_373 (by decide) ?_
    refine lv_iadd hx hb d_law_374 ?_
    refine W.eq (g2 := F0 m 375 ls [.int (nI (i + 1)), .ref b, .ref hE]) (by rw [show nI i + 1 = nI (i + 1) from nI_add i 1]) ?_
    refine va_sld hx hb hX hbl hbA hst.2.2 (inb_in (inb_n (n := L) (by omega) (by omega))) d_law_375 ?_
    refine W.eq (g2 := F0 m 376 ls [.int (xs (i + 1)), .ref hE]) (by rw [nI_clamp (by omega)]) ?_
    refine lv_aload_n hx hb d_law_376 rfl (lv_at hl 0 rfl) ?_
    refine lv_iload hx hb d_law_377 (lv_at hl 4 rfl) ?_
    refine lv_iconst (v := 2) hx hb d_law_379 (by decide) ?_
    refine lv_iadd hx hb d_law_380 ?_
    refine W.eq (g2 := F0 m 381 ls [.int (nI (i + 2)), .ref b, .int (xs (i + 1)), .ref hE]) (by rw [show nI i + 2 = nI (i + 2) from nI_add i 2]) ?_
    refine va_sld hx hb hX hbl hbA hst.2.2 (inb_in (inb_n (n := L) (by omega) (by omega))) d_law_381 ?_
    refine W.eq (g2 := F0 m 382 ls [.int (xs (i + 2)), .int (xs (i + 1)), .ref hE]) (by rw [nI_clamp (by omega)]) ?_
    refine lv_aload_n hx hb d_law_382 rfl (lv_at hl 3 rfl) ?_
    refine cl_sw (As := [.ref hE, .int (xs (i + 1)), .int (xs (i + 2)), .ref hO]) (n := 4) hx hb hml hown hG hg (h_written_i l dC dI tk A hE LE LJ LV LN LS LZ LQ hO hM LM gE gJ gV aV gN aN gS gZ aZ dP gQ dO u nB fO gM aM (xs (i + 1)) (xs (i + 2)) hNT hm1) k_789 k_790 k_0 k_791 (by decide +kernel) ⟨by decide, by decide⟩ hst rfl hl.1 rfl (Nat.le_of_ble_eq_true rfl) ⟨by show cells + 1 ≤ 601024; omega, by show slots + 6 ≤ 7293034; omega⟩ d_law_383 (fun H locs hst => ?_)
    refine lv_istore (lv' := [(5, .int 1), (0, .ref b), (1, .ref hE), (2, .ref hM), (3, .ref hO), (4, .int (nI i))]) hx hb d_law_386 hl (by decide) rfl (fun ls hl => ?_)
    refine lv_aload_n hx hb d_law_388 rfl (lv_at hl 3 rfl) ?_
    refine lv_aload_n hx hb d_law_389 rfl (lv_at hl 1 rfl) ?_
    refine lv_iload hx hb d_law_390 (lv_at hl 5 rfl) ?_
    refine lv_iconst (v := 1) hx hb d_law_392 (by decide) ?_
    refine lv_iadd hx hb d_law_393 ?_
    refine W.eq (g2 := F0 m 394 ls [.int (nI (i + 1)), .ref b, .ref hM]) (by rw [show nI i + 1 = nI (i + 1) from nI_add i 1]) ?_
    refine va_sld hx hb hX hbl hbA hst.2.2 (inb_in (inb_n (n := L) (by omega) (by omega))) d_law_394 ?_
    refine W.eq (g2 := F0 m 395 ls [.int (xs (i + 1)), .ref hM]) (by rw [nI_clamp (by omega)]) ?_
    refine lv_aload_n hx hb d_law_395 rfl (lv_at hl 1 rfl) ?_
    refine lv_iload hx hb d_law_396 (lv_at hl 5 rfl) ?_
    refine lv_iconst (v := 2) hx hb d_law_398 (by decide) ?_
    refine lv_iadd hx hb d_law_399 ?_
    refine W.eq (g2 := F0 m 400 ls [.int (nI (i + 2)), .ref b, .int (xs (i + 1)), .ref hM]) (by rw [show nI i + 2 = nI (i + 2) from nI_add i 2]) ?_
    refine va_sld hx hb hX hbl hbA hst.2.2 (inb_in (inb_n (n := L) (by omega) (by omega))) d_law_400 ?_
    refine W.eq (g2 := F0 m 401 ls [.int (xs (i + 2)), .int (xs (i + 1)), .ref hM]) (by rw [nI_clamp (by omega)]) ?_
    obtain ⟨q0, hq0⟩ := fW_M (tk := tk) (hE := hE) (LE := LE) (LJ := LJ) (LV := LV) (LN := LN) (LS := LS) (LZ := LZ) (LQ := LQ) (hO := hO) (hM := hM) (LM := LM) (gE := gE) (gJ := gJ) (gV := gV) (aV := aV) (gN := gN) (aN := aN) (gS := gS) (gZ := gZ) (aZ := aZ) (dP := dP) (gQ := gQ) (dO := dO) (u := u) (nB := nB) (fO := fO) (gM := gM) (aM := aM)
    refine cl_vi (As := [.int (xs (i + 1)), .int (xs (i + 2))]) hx hb hml hown hG hg (fM (fun rw => cM_written l dC dI tk A hM LM gM aM rw n2 ((xs (i + 1))) ((xs (i + 2))) _ _ _ hm2)) (cw_v 2 hG k_1331 k_1332 k_1333 k_14 k_1334 (by decide +kernel) ⟨by decide, by decide⟩) hst cM.1 hq0 rfl hl.1 rfl (Nat.le_of_ble_eq_true rfl) ⟨by show cells + 1 ≤ 601024; omega, by show slots + 6 ≤ 7293034; omega⟩ d_law_401 (fun H locs hst => ?_)
    refine lv_istore (lv' := [(6, .int r), (5, .int 1), (0, .ref b), (1, .ref hE), (2, .ref hM), (3, .ref hO), (4, .int (nI i))]) hx hb d_law_404 hl (by decide) rfl (fun ls hl => ?_)
    refine lv_aload_n hx hb d_law_406 rfl (lv_at hl 4 rfl) ?_
    obtain ⟨q0, hq0⟩ := fW_M (tk := tk) (hE := hE) (LE := LE) (LJ := LJ) (LV := LV) (LN := LN) (LS := LS) (LZ := LZ) (LQ := LQ) (hO := hO) (hM := hM) (LM := LM) (gE := gE) (gJ := gJ) (gV := gV) (aV := aV) (gN := gN) (aN := aN) (gS := gS) (gZ := gZ) (aZ := aZ) (dP := dP) (gQ := gQ) (dO := dO) (u := u) (nB := nB) (fO := fO) (gM := g2) (aM := a2)
    refine cl_vi (As := []) hx hb hml hown hG hg (fM (fun rw => cM_thrown l dC dI tk A hM LM g2 a2 rw 0 _ rfl)) (cw_v 0 hG k_1153 k_1154 k_1155 k_14 k_1156 (by decide +kernel) ⟨by decide, by decide⟩) hst cM.1 hq0 rfl hl.1 rfl (Nat.le_of_ble_eq_true rfl) ⟨by show cells + 1 ≤ 601024; omega, by show slots + 6 ≤ 7293034; omega⟩ d_law_407 (fun H locs hst => ?_)
    refine W.eq (g2 := F0 m 410 ls [.int 1]) (by rw [h45]) ?_
    refine lv_iload hx hb d_law_410 (lv_at hl 1 rfl) ?_
    refine lv_icmp_eq (tgt := 417) hx hb d_law_412 (by decide) (fun _ => ?_) (fun h9 => absurd rfl h9)
    refine lv_iload hx hb d_law_417 (lv_at hl 1 rfl) ?_
    refine lv_if_ne (tgt := 434) hx hb d_law_419 (by decide) (fun _ => ?_) (fun h9 => absurd h9 (by decide))
    refine lv_goto (tgt := 747) hx hb d_law_434 (by decide) ?_
    refine W.widen (k := cells + 14) (n := slots + 476) (by omega) (by omega) ?_
    exact kk _ _ _ _ _ _ _ _ _ _ _ _ _ _ _ g2 a2 t _ _ _ hI2 ht hnB (lv_sub hl [2, 3, 4, 5, 6] rfl) hst
