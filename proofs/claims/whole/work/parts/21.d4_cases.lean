set_option maxHeartbeats 4000000 in
theorem lc_11 {p : Program} {l : Launch} {e : Env} {s : State} {m : MethodId} {args : Array Value} {below : List Frame} {meth : Method} {c : Code} {Q : State → Prop} {dC : Nat → ClassId} {dI : Nat → Nat → Nat} {tk : Nat → ClassId} {A : Nat → Prop} {b L : Nat} {xs : Nat → Int32} {I : aI} {hE : Nat} {LE : Nat → Nat} {LJ : Nat → Nat} {LV : Nat → Nat} {LN : Nat → Nat} {LS : Nat → Nat} {LZ : Nat → Nat} {LQ : Nat → Nat} {hO : Nat} {hM : Nat} {LM : Nat → Nat} {gE : aG} {gJ : aG} {gV : aG} {aV : aA} {gN : aG} {aN : aA} {gS : aG} {gZ : aG} {aZ : aA} {dP : aP} {gQ : aG} {dO : aP} {u : sbS} {nB : Nat} {fO : Nat → Int64} {gM : aG} {aM : aA} (hx : p.tables.exec = Jvm.exec) (hb : c.code = code) (hml : c.maxLocals = 7) (hown : s.vm.findClass "EditorServerLaw" = some m.cls) (hG : ∀ w ∈ gW, w.before args s = true) (hg : Gl dC dI tk A s) (hX : va_X b L xs s s.heap) (hbl : b < s.heap.size) (hbA : ¬ A b) (hNT : NoTr l) (hOK : lawOK I) (hI : I gE gJ gV aV gN aN gS gZ aZ dP gQ dO gM aM) (t : List Int32) (ht : sbT t u) (hnB : nB = t.length) (hsrc : LV 8 = LJ 0) (i : Nat) (hi : i + 4 ≤ L) (hL : L ≤ 2048) {H : Heap} {locs : List Loc} {ls : Array Slot} {cells slots : Nat} (hce : cells + 14 ≤ 601024) (hsl : slots + 476 ≤ 7293034) (hl : lv_has ls 7 [(0, .ref b), (1, .ref hE), (2, .ref hM), (3, .ref hO), (4, .int (nI i))]) (hst : St dC dI A s.heap H locs (fWd tk hE LE LJ LV LN LS LZ LQ hO hM LM gE gJ gV aV gN aN gS gZ aZ dP gQ dO u nB fO gM aM))
    (kk : ∀ (gE' : aG) (gJ' : aG) (gV' : aG) (aV' : aA) (gN' : aG) (aN' : aA) (gS' : aG) (gZ' : aG) (aZ' : aA) (dP' : aP) (gQ' : aG) (dO' : aP) (u' : sbS) (nB' : Nat) (fO' : Nat → Int64) (gM' : aG) (aM' : aA) (t' : List Int32) (H1 : Heap) (locs1 : List Loc) (ls1 : Array Slot), I gE' gJ' gV' aV' gN' aN' gS' gZ' aZ' dP' gQ' dO' gM' aM' → sbT t' u' → nB' = t'.length → lv_has ls1 7 [(0, .ref b), (1, .ref hE), (2, .ref hM), (3, .ref hO), (4, .int (nI i))] → St dC dI A s.heap H1 locs1 (fWd tk hE LE LJ LV LN LS LZ LQ hO hM LM gE' gJ' gV' aV' gN' aN' gS' gZ' aZ' dP' gQ' dO' u' nB' fO' gM' aM') → W p l e room_1 s m args below meth c H1 locs1 (cells + 14) (slots + 476) Q (F0 m 747 ls1 [])) : W p l e room_1 s m args below meth c H locs cells slots Q (F0 m 463 ls []) := by
  rcases (hOK gE gJ gV aV gN aN gS gZ aZ dP gQ dO gM aM hI).2.2.2.2.2.2.2.2.2.2.2.1 (xs (i + 1)) (xs (i + 2)) with ⟨n, n2, r, g2, hm1, hm2, h45, hI2⟩ | ⟨hm1, n2, r, g2, hm2, h45, hI2⟩ | ⟨hm1, n2, r, g2, hm2, h45, hI2⟩
  · refine lv_aload_n hx hb d_law_463 rfl (lv_at hl 1 rfl) ?_
    refine lv_aload_n hx hb d_law_464 rfl (lv_at hl 0 rfl) ?_
    refine lv_iload hx hb d_law_465 (lv_at hl 4 rfl) ?_
    refine lv_iconst (v := 1) hx hb d_law_467 (by decide) ?_
    refine lv_iadd hx hb d_law_468 ?_
    refine W.eq (g2 := F0 m 469 ls [.int (nI (i + 1)), .ref b, .ref hE]) (by rw [show nI i + 1 = nI (i + 1) from nI_add i 1]) ?_
    refine va_sld hx hb hX hbl hbA hst.2.2 (inb_in (inb_n (n := L) (by omega) (by omega))) d_law_469 ?_
    refine W.eq (g2 := F0 m 470 ls [.int (xs (i + 1)), .ref hE]) (by rw [nI_clamp (by omega)]) ?_
    refine lv_aload_n hx hb d_law_470 rfl (lv_at hl 0 rfl) ?_
    refine lv_iload hx hb d_law_471 (lv_at hl 4 rfl) ?_
    refine lv_iconst (v := 2) hx hb d_law_473 (by decide) ?_
    refine lv_iadd hx hb d_law_474 ?_
    refine W.eq (g2 := F0 m 475 ls [.int (nI (i + 2)), .ref b, .int (xs (i + 1)), .ref hE]) (by rw [show nI i + 2 = nI (i + 2) from nI_add i 2]) ?_
    refine va_sld hx hb hX hbl hbA hst.2.2 (inb_in (inb_n (n := L) (by omega) (by omega))) d_law_475 ?_
    refine W.eq (g2 := F0 m 476 ls [.int (xs (i + 2)), .int (xs (i + 1)), .ref hE]) (by rw [nI_clamp (by omega)]) ?_
    refine lv_aload_n hx hb d_law_476 rfl (lv_at hl 3 rfl) ?_
    refine cl_sw (As := [.ref hE, .int (xs (i + 1)), .int (xs (i + 2)), .ref hO]) (n := 4) hx hb hml hown hG hg (h_document l dC dI tk A hE LE LJ LV LN LS LZ LQ hO hM LM gE gJ gV aV gN aN gS gZ aZ dP gQ dO u nB fO gM aM n (xs (i + 1)) (xs (i + 2)) _ hm1) k_978 k_979 k_0 k_980 (by decide +kernel) ⟨by decide, by decide⟩ hst rfl hl.1 rfl (Nat.le_of_ble_eq_true rfl) ⟨by show cells + 0 ≤ 601024; omega, by show slots + 0 ≤ 7293034; omega⟩ d_law_477 (fun H locs hst => ?_)
    refine lv_istore (lv' := [(5, .int 0), (0, .ref b), (1, .ref hE), (2, .ref hM), (3, .ref hO), (4, .int (nI i))]) hx hb d_law_480 hl (by decide) rfl (fun ls hl => ?_)
    refine lv_aload_n hx hb d_law_482 rfl (lv_at hl 3 rfl) ?_
    refine lv_aload_n hx hb d_law_483 rfl (lv_at hl 1 rfl) ?_
    refine lv_iload hx hb d_law_484 (lv_at hl 5 rfl) ?_
    refine lv_iconst (v := 1) hx hb d_law_486 (by decide) ?_
    refine lv_iadd hx hb d_law_487 ?_
    refine W.eq (g2 := F0 m 488 ls [.int (nI (i + 1)), .ref b, .ref hM]) (by rw [show nI i + 1 = nI (i + 1) from nI_add i 1]) ?_
    refine va_sld hx hb hX hbl hbA hst.2.2 (inb_in (inb_n (n := L) (by omega) (by omega))) d_law_488 ?_
    refine W.eq (g2 := F0 m 489 ls [.int (xs (i + 1)), .ref hM]) (by rw [nI_clamp (by omega)]) ?_
    refine lv_aload_n hx hb d_law_489 rfl (lv_at hl 1 rfl) ?_
    refine lv_iload hx hb d_law_490 (lv_at hl 5 rfl) ?_
    refine lv_iconst (v := 2) hx hb d_law_492 (by decide) ?_
    refine lv_iadd hx hb d_law_493 ?_
    refine W.eq (g2 := F0 m 494 ls [.int (nI (i + 2)), .ref b, .int (xs (i + 1)), .ref hM]) (by rw [show nI i + 2 = nI (i + 2) from nI_add i 2]) ?_
    refine va_sld hx hb hX hbl hbA hst.2.2 (inb_in (inb_n (n := L) (by omega) (by omega))) d_law_494 ?_
    refine W.eq (g2 := F0 m 495 ls [.int (xs (i + 2)), .int (xs (i + 1)), .ref hM]) (by rw [nI_clamp (by omega)]) ?_
    obtain ⟨q0, hq0⟩ := fW_M (tk := tk) (hE := hE) (LE := LE) (LJ := LJ) (LV := LV) (LN := LN) (LS := LS) (LZ := LZ) (LQ := LQ) (hO := hO) (hM := hM) (LM := LM) (gE := gE) (gJ := gJ) (gV := gV) (aV := aV) (gN := gN) (aN := aN) (gS := gS) (gZ := gZ) (aZ := aZ) (dP := dP) (gQ := gQ) (dO := dO) (u := u) (nB := nB) (fO := (vp_updL fO 0 r.toInt64)) (gM := gM) (aM := aM)
    refine cl_vi (As := [.int (xs (i + 1)), .int (xs (i + 2))]) hx hb hml hown hG hg (fM (fun rw => cM_document l dC dI tk A hM LM gM aM rw n2 ((xs (i + 1))) ((xs (i + 2))) _ _ hm2)) (cw_v 2 hG k_1359 k_1360 k_1361 k_14 k_1362 (by decide +kernel) ⟨by decide, by decide⟩) hst cM.1 hq0 rfl hl.1 rfl (Nat.le_of_ble_eq_true rfl) ⟨by show cells + 0 ≤ 601024; omega, by show slots + 0 ≤ 7293034; omega⟩ d_law_495 (fun H locs hst => ?_)
    refine lv_istore (lv' := [(6, .int r), (5, .int 0), (0, .ref b), (1, .ref hE), (2, .ref hM), (3, .ref hO), (4, .int (nI i))]) hx hb d_law_498 hl (by decide) rfl (fun ls hl => ?_)
    refine lv_aload_n hx hb d_law_500 rfl (lv_at hl 4 rfl) ?_
    obtain ⟨q0, hq0⟩ := fW_M (tk := tk) (hE := hE) (LE := LE) (LJ := LJ) (LV := LV) (LN := LN) (LS := LS) (LZ := LZ) (LQ := LQ) (hO := hO) (hM := hM) (LM := LM) (gE := gE) (gJ := gJ) (gV := gV) (aV := aV) (gN := gN) (aN := aN) (gS := gS) (gZ := gZ) (aZ := aZ) (dP := dP) (gQ := gQ) (dO := dO) (u := u) (nB := nB) (fO := (vp_updL fO 0 r.toInt64)) (gM := g2) (aM := aM)
    refine cl_vi (As := []) hx hb hml hown hG hg (fM (fun rw => cM_thrown l dC dI tk A hM LM g2 aM rw 0 _ rfl)) (cw_v 0 hG k_1153 k_1154 k_1155 k_14 k_1156 (by decide +kernel) ⟨by decide, by decide⟩) hst cM.1 hq0 rfl hl.1 rfl (Nat.le_of_ble_eq_true rfl) ⟨by show cells + 0 ≤ 601024; omega, by show slots + 0 ≤ 7293034; omega⟩ d_law_501 (fun H locs hst => ?_)
    refine W.eq (g2 := F0 m 504 ls [.int 0]) (by rw [h45]) ?_
    refine lv_iload hx hb d_law_504 (lv_at hl 1 rfl) ?_
    refine lv_icmp_eq (tgt := 511) hx hb d_law_506 (by decide) (fun _ => ?_) (fun h9 => absurd rfl h9)
    refine lv_iload hx hb d_law_511 (lv_at hl 1 rfl) ?_
    refine lv_if_ne (tgt := 528) hx hb d_law_513 (by decide) (fun h9 => absurd rfl h9) (fun _ => ?_)
    refine lv_aload_n hx hb d_law_516 rfl (lv_at hl 5 rfl) ?_
    refine lv_iconst (v := 0) hx hb d_law_517 (by decide) ?_
    refine ro_lald hx hb hg hst d_law_518 ?_
    refine W.eq (g2 := F0 m 519 ls [.long r.toInt64]) rfl ?_
    refine lv_iload hx hb d_law_519 (lv_at hl 0 rfl) ?_
    refine lv_i2l hx hb d_law_521 rfl ?_
    refine W.lcmp hx hb d_law_522 ?_
    rw [lcmp_0]
    refine lv_if_eq (tgt := 528) hx hb d_law_523 (by decide) (fun _ => ?_) (fun h9 => absurd rfl h9)
    refine lv_goto (tgt := 747) hx hb d_law_528 (by decide) ?_
    refine W.widen (k := cells + 14) (n := slots + 476) (by omega) (by omega) ?_
    exact kk _ _ _ _ _ _ _ _ _ _ _ _ _ _ (vp_updL fO 0 r.toInt64) g2 _ t _ _ _ hI2 ht hnB (lv_sub hl [2, 3, 4, 5, 6] rfl) hst
  · refine lv_aload_n hx hb d_law_463 rfl (lv_at hl 1 rfl) ?_
    refine lv_aload_n hx hb d_law_464 rfl (lv_at hl 0 rfl) ?_
    refine lv_iload hx hb d_law_465 (lv_at hl 4 rfl) ?_
    refine lv_iconst (v := 1) hx hb d_law_467 (by decide) ?_
    refine lv_iadd hx hb d_law_468 ?_
    refine W.eq (g2 := F0 m 469 ls [.int (nI (i + 1)), .ref b, .ref hE]) (by rw [show nI i + 1 = nI (i + 1) from nI_add i 1]) ?_
    refine va_sld hx hb hX hbl hbA hst.2.2 (inb_in (inb_n (n := L) (by omega) (by omega))) d_law_469 ?_
    refine W.eq (g2 := F0 m 470 ls [.int (xs (i + 1)), .ref hE]) (by rw [nI_clamp (by omega)]) ?_
    refine lv_aload_n hx hb d_law_470 rfl (lv_at hl 0 rfl) ?_
    refine lv_iload hx hb d_law_471 (lv_at hl 4 rfl) ?_
    refine lv_iconst (v := 2) hx hb d_law_473 (by decide) ?_
    refine lv_iadd hx hb d_law_474 ?_
    refine W.eq (g2 := F0 m 475 ls [.int (nI (i + 2)), .ref b, .int (xs (i + 1)), .ref hE]) (by rw [show nI i + 2 = nI (i + 2) from nI_add i 2]) ?_
    refine va_sld hx hb hX hbl hbA hst.2.2 (inb_in (inb_n (n := L) (by omega) (by omega))) d_law_475 ?_
    refine W.eq (g2 := F0 m 476 ls [.int (xs (i + 2)), .int (xs (i + 1)), .ref hE]) (by rw [nI_clamp (by omega)]) ?_
    refine lv_aload_n hx hb d_law_476 rfl (lv_at hl 3 rfl) ?_
    refine cl_sw (As := [.ref hE, .int (xs (i + 1)), .int (xs (i + 2)), .ref hO]) (n := 4) hx hb hml hown hG hg (h_document_i l dC dI tk A hE LE LJ LV LN LS LZ LQ hO hM LM gE gJ gV aV gN aN gS gZ aZ dP gQ dO u nB fO gM aM (xs (i + 1)) (xs (i + 2)) hNT hm1) k_978 k_979 k_0 k_980 (by decide +kernel) ⟨by decide, by decide⟩ hst rfl hl.1 rfl (Nat.le_of_ble_eq_true rfl) ⟨by show cells + 1 ≤ 601024; omega, by show slots + 6 ≤ 7293034; omega⟩ d_law_477 (fun H locs hst => ?_)
    refine lv_istore (lv' := [(5, .int 1), (0, .ref b), (1, .ref hE), (2, .ref hM), (3, .ref hO), (4, .int (nI i))]) hx hb d_law_480 hl (by decide) rfl (fun ls hl => ?_)
    refine lv_aload_n hx hb d_law_482 rfl (lv_at hl 3 rfl) ?_
    refine lv_aload_n hx hb d_law_483 rfl (lv_at hl 1 rfl) ?_
    refine lv_iload hx hb d_law_484 (lv_at hl 5 rfl) ?_
    refine lv_iconst (v := 1) hx hb d_law_486 (by decide) ?_
    refine lv_iadd hx hb d_law_487 ?_
    refine W.eq (g2 := F0 m 488 ls [.int (nI (i + 1)), .ref b, .ref hM]) (by rw [show nI i + 1 = nI (i + 1) from nI_add i 1]) ?_
    refine va_sld hx hb hX hbl hbA hst.2.2 (inb_in (inb_n (n := L) (by omega) (by omega))) d_law_488 ?_
    refine W.eq (g2 := F0 m 489 ls [.int (xs (i + 1)), .ref hM]) (by rw [nI_clamp (by omega)]) ?_
    refine lv_aload_n hx hb d_law_489 rfl (lv_at hl 1 rfl) ?_
    refine lv_iload hx hb d_law_490 (lv_at hl 5 rfl) ?_
    refine lv_iconst (v := 2) hx hb d_law_492 (by decide) ?_
    refine lv_iadd hx hb d_law_493 ?_
    refine W.eq (g2 := F0 m 494 ls [.int (nI (i + 2)), .ref b, .int (xs (i + 1)), .ref hM]) (by rw [show nI i + 2 = nI (i + 2) from nI_add i 2]) ?_
    refine va_sld hx hb hX hbl hbA hst.2.2 (inb_in (inb_n (n := L) (by omega) (by omega))) d_law_494 ?_
    refine W.eq (g2 := F0 m 495 ls [.int (xs (i + 2)), .int (xs (i + 1)), .ref hM]) (by rw [nI_clamp (by omega)]) ?_
    obtain ⟨q0, hq0⟩ := fW_M (tk := tk) (hE := hE) (LE := LE) (LJ := LJ) (LV := LV) (LN := LN) (LS := LS) (LZ := LZ) (LQ := LQ) (hO := hO) (hM := hM) (LM := LM) (gE := gE) (gJ := gJ) (gV := gV) (aV := aV) (gN := gN) (aN := aN) (gS := gS) (gZ := gZ) (aZ := aZ) (dP := dP) (gQ := gQ) (dO := dO) (u := u) (nB := nB) (fO := fO) (gM := gM) (aM := aM)
    refine cl_vi (As := [.int (xs (i + 1)), .int (xs (i + 2))]) hx hb hml hown hG hg (fM (fun rw => cM_document l dC dI tk A hM LM gM aM rw n2 ((xs (i + 1))) ((xs (i + 2))) _ _ hm2)) (cw_v 2 hG k_1359 k_1360 k_1361 k_14 k_1362 (by decide +kernel) ⟨by decide, by decide⟩) hst cM.1 hq0 rfl hl.1 rfl (Nat.le_of_ble_eq_true rfl) ⟨by show cells + 1 ≤ 601024; omega, by show slots + 6 ≤ 7293034; omega⟩ d_law_495 (fun H locs hst => ?_)
    refine lv_istore (lv' := [(6, .int r), (5, .int 1), (0, .ref b), (1, .ref hE), (2, .ref hM), (3, .ref hO), (4, .int (nI i))]) hx hb d_law_498 hl (by decide) rfl (fun ls hl => ?_)
    refine lv_aload_n hx hb d_law_500 rfl (lv_at hl 4 rfl) ?_
    obtain ⟨q0, hq0⟩ := fW_M (tk := tk) (hE := hE) (LE := LE) (LJ := LJ) (LV := LV) (LN := LN) (LS := LS) (LZ := LZ) (LQ := LQ) (hO := hO) (hM := hM) (LM := LM) (gE := gE) (gJ := gJ) (gV := gV) (aV := aV) (gN := gN) (aN := aN) (gS := gS) (gZ := gZ) (aZ := aZ) (dP := dP) (gQ := gQ) (dO := dO) (u := u) (nB := nB) (fO := fO) (gM := g2) (aM := aM)
    refine cl_vi (As := []) hx hb hml hown hG hg (fM (fun rw => cM_thrown l dC dI tk A hM LM g2 aM rw 0 _ rfl)) (cw_v 0 hG k_1153 k_1154 k_1155 k_14 k_1156 (by decide +kernel) ⟨by decide, by decide⟩) hst cM.1 hq0 rfl hl.1 rfl (Nat.le_of_ble_eq_true rfl) ⟨by show cells + 1 ≤ 601024; omega, by show slots + 6 ≤ 7293034; omega⟩ d_law_501 (fun H locs hst => ?_)
    refine W.eq (g2 := F0 m 504 ls [.int 1]) (by rw [h45]) ?_
    refine lv_iload hx hb d_law_504 (lv_at hl 1 rfl) ?_
    refine lv_icmp_eq (tgt := 511) hx hb d_law_506 (by decide) (fun _ => ?_) (fun h9 => absurd rfl h9)
    refine lv_iload hx hb d_law_511 (lv_at hl 1 rfl) ?_
    refine lv_if_ne (tgt := 528) hx hb d_law_513 (by decide) (fun _ => ?_) (fun h9 => absurd h9 (by decide))
    refine lv_goto (tgt := 747) hx hb d_law_528 (by decide) ?_
    refine W.widen (k := cells + 14) (n := slots + 476) (by omega) (by omega) ?_
    exact kk _ _ _ _ _ _ _ _ _ _ _ _ _ _ _ g2 _ t _ _ _ hI2 ht hnB (lv_sub hl [2, 3, 4, 5, 6] rfl) hst
  · refine lv_aload_n hx hb d_law_463 rfl (lv_at hl 1 rfl) ?_
    refine lv_aload_n hx hb d_law_464 rfl (lv_at hl 0 rfl) ?_
    refine lv_iload hx hb d_law_465 (lv_at hl 4 rfl) ?_
    refine lv_iconst (v := 1) hx hb d_law_467 (by decide) ?_
    refine lv_iadd hx hb d_law_468 ?_
    refine W.eq (g2 := F0 m 469 ls [.int (nI (i + 1)), .ref b, .ref hE]) (by rw [show nI i + 1 = nI (i + 1) from nI_add i 1]) ?_
    refine va_sld hx hb hX hbl hbA hst.2.2 (inb_in (inb_n (n := L) (by omega) (by omega))) d_law_469 ?_
    refine W.eq (g2 := F0 m 470 ls [.int (xs (i + 1)), .ref hE]) (by rw [nI_clamp (by omega)]) ?_
    refine lv_aload_n hx hb d_law_470 rfl (lv_at hl 0 rfl) ?_
    refine lv_iload hx hb d_law_471 (lv_at hl 4 rfl) ?_
    refine lv_iconst (v := 2) hx hb d_law_473 (by decide) ?_
    refine lv_iadd hx hb d_law_474 ?_
    refine W.eq (g2 := F0 m 475 ls [.int (nI (i + 2)), .ref b, .int (xs (i + 1)), .ref hE]) (by rw [show nI i + 2 = nI (i + 2) from nI_add i 2]) ?_
    refine va_sld hx hb hX hbl hbA hst.2.2 (inb_in (inb_n (n := L) (by omega) (by omega))) d_law_475 ?_
    refine W.eq (g2 := F0 m 476 ls [.int (xs (i + 2)), .int (xs (i + 1)), .ref hE]) (by rw [nI_clamp (by omega)]) ?_
    refine lv_aload_n hx hb d_law_476 rfl (lv_at hl 3 rfl) ?_
    refine cl_sw (As := [.ref hE, .int (xs (i + 1)), .int (xs (i + 2)), .ref hO]) (n := 4) hx hb hml hown hG hg (h_document_a l dC dI tk A hE LE LJ LV LN LS LZ LQ hO hM LM gE gJ gV aV gN aN gS gZ aZ dP gQ dO u nB fO gM aM (xs (i + 1)) (xs (i + 2)) hNT hm1) k_978 k_979 k_0 k_980 (by decide +kernel) ⟨by decide, by decide⟩ hst rfl hl.1 rfl (Nat.le_of_ble_eq_true rfl) ⟨by show cells + 1 ≤ 601024; omega, by show slots + 6 ≤ 7293034; omega⟩ d_law_477 (fun H locs hst => ?_)
    refine lv_istore (lv' := [(5, .int 2), (0, .ref b), (1, .ref hE), (2, .ref hM), (3, .ref hO), (4, .int (nI i))]) hx hb d_law_480 hl (by decide) rfl (fun ls hl => ?_)
    refine lv_aload_n hx hb d_law_482 rfl (lv_at hl 3 rfl) ?_
    refine lv_aload_n hx hb d_law_483 rfl (lv_at hl 1 rfl) ?_
    refine lv_iload hx hb d_law_484 (lv_at hl 5 rfl) ?_
    refine lv_iconst (v := 1) hx hb d_law_486 (by decide) ?_
    refine lv_iadd hx hb d_law_487 ?_
    refine W.eq (g2 := F0 m 488 ls [.int (nI (i + 1)), .ref b, .ref hM]) (by rw [show nI i + 1 = nI (i + 1) from nI_add i 1]) ?_
    refine va_sld hx hb hX hbl hbA hst.2.2 (inb_in (inb_n (n := L) (by omega) (by omega))) d_law_488 ?_
    refine W.eq (g2 := F0 m 489 ls [.int (xs (i + 1)), .ref hM]) (by rw [nI_clamp (by omega)]) ?_
    refine lv_aload_n hx hb d_law_489 rfl (lv_at hl 1 rfl) ?_
    refine lv_iload hx hb d_law_490 (lv_at hl 5 rfl) ?_
    refine lv_iconst (v := 2) hx hb d_law_492 (by decide) ?_
    refine lv_iadd hx hb d_law_493 ?_
    refine W.eq (g2 := F0 m 494 ls [.int (nI (i + 2)), .ref b, .int (xs (i + 1)), .ref hM]) (by rw [show nI i + 2 = nI (i + 2) from nI_add i 2]) ?_
    refine va_sld hx hb hX hbl hbA hst.2.2 (inb_in (inb_n (n := L) (by omega) (by omega))) d_law_494 ?_
    refine W.eq (g2 := F0 m 495 ls [.int (xs (i + 2)), .int (xs (i + 1)), .ref hM]) (by rw [nI_clamp (by omega)]) ?_
    obtain ⟨q0, hq0⟩ := fW_M (tk := tk) (hE := hE) (LE := LE) (LJ := LJ) (LV := LV) (LN := LN) (LS := LS) (LZ := LZ) (LQ := LQ) (hO := hO) (hM := hM) (LM := LM) (gE := gE) (gJ := gJ) (gV := gV) (aV := aV) (gN := gN) (aN := aN) (gS := gS) (gZ := gZ) (aZ := aZ) (dP := dP) (gQ := gQ) (dO := dO) (u := u) (nB := nB) (fO := fO) (gM := gM) (aM := aM)
    refine cl_vi (As := [.int (xs (i + 1)), .int (xs (i + 2))]) hx hb hml hown hG hg (fM (fun rw => cM_document l dC dI tk A hM LM gM aM rw n2 ((xs (i + 1))) ((xs (i + 2))) _ _ hm2)) (cw_v 2 hG k_1359 k_1360 k_1361 k_14 k_1362 (by decide +kernel) ⟨by decide, by decide⟩) hst cM.1 hq0 rfl hl.1 rfl (Nat.le_of_ble_eq_true rfl) ⟨by show cells + 1 ≤ 601024; omega, by show slots + 6 ≤ 7293034; omega⟩ d_law_495 (fun H locs hst => ?_)
    refine lv_istore (lv' := [(6, .int r), (5, .int 2), (0, .ref b), (1, .ref hE), (2, .ref hM), (3, .ref hO), (4, .int (nI i))]) hx hb d_law_498 hl (by decide) rfl (fun ls hl => ?_)
    refine lv_aload_n hx hb d_law_500 rfl (lv_at hl 4 rfl) ?_
    obtain ⟨q0, hq0⟩ := fW_M (tk := tk) (hE := hE) (LE := LE) (LJ := LJ) (LV := LV) (LN := LN) (LS := LS) (LZ := LZ) (LQ := LQ) (hO := hO) (hM := hM) (LM := LM) (gE := gE) (gJ := gJ) (gV := gV) (aV := aV) (gN := gN) (aN := aN) (gS := gS) (gZ := gZ) (aZ := aZ) (dP := dP) (gQ := gQ) (dO := dO) (u := u) (nB := nB) (fO := fO) (gM := g2) (aM := aM)
    refine cl_vi (As := []) hx hb hml hown hG hg (fM (fun rw => cM_thrown l dC dI tk A hM LM g2 aM rw 0 _ rfl)) (cw_v 0 hG k_1153 k_1154 k_1155 k_14 k_1156 (by decide +kernel) ⟨by decide, by decide⟩) hst cM.1 hq0 rfl hl.1 rfl (Nat.le_of_ble_eq_true rfl) ⟨by show cells + 1 ≤ 601024; omega, by show slots + 6 ≤ 7293034; omega⟩ d_law_501 (fun H locs hst => ?_)
    refine W.eq (g2 := F0 m 504 ls [.int 2]) (by rw [h45]) ?_
    refine lv_iload hx hb d_law_504 (lv_at hl 1 rfl) ?_
    refine lv_icmp_eq (tgt := 511) hx hb d_law_506 (by decide) (fun _ => ?_) (fun h9 => absurd rfl h9)
    refine lv_iload hx hb d_law_511 (lv_at hl 1 rfl) ?_
    refine lv_if_ne (tgt := 528) hx hb d_law_513 (by decide) (fun _ => ?_) (fun h9 => absurd h9 (by decide))
    refine lv_goto (tgt := 747) hx hb d_law_528 (by decide) ?_
    refine W.widen (k := cells + 14) (n := slots + 476) (by omega) (by omega) ?_
    exact kk _ _ _ _ _ _ _ _ _ _ _ _ _ _ _ g2 _ t _ _ _ hI2 ht hnB (lv_sub hl [2, 3, 4, 5, 6] rfl) hst
set_option maxHeartbeats 4000000 in
theorem lc_12 {p : Program} {l : Launch} {e : Env} {s : State} {m : MethodId} {args : Array Value} {below : List Frame} {meth : Method} {c : Code} {Q : State → Prop} {dC : Nat → ClassId} {dI : Nat → Nat → Nat} {tk : Nat → ClassId} {A : Nat → Prop} {b L : Nat} {xs : Nat → Int32} {I : aI} {hE : Nat} {LE : Nat → Nat} {LJ : Nat → Nat} {LV : Nat → Nat} {LN : Nat → Nat} {LS : Nat → Nat} {LZ : Nat → Nat} {LQ : Nat → Nat} {hO : Nat} {hM : Nat} {LM : Nat → Nat} {gE : aG} {gJ : aG} {gV : aG} {aV : aA} {gN : aG} {aN : aA} {gS : aG} {gZ : aG} {aZ : aA} {dP : aP} {gQ : aG} {dO : aP} {u : sbS} {nB : Nat} {fO : Nat → Int64} {gM : aG} {aM : aA} (hx : p.tables.exec = Jvm.exec) (hb : c.code = code) (hml : c.maxLocals = 7) (hown : s.vm.findClass "EditorServerLaw" = some m.cls) (hG : ∀ w ∈ gW, w.before args s = true) (hg : Gl dC dI tk A s) (hX : va_X b L xs s s.heap) (hbl : b < s.heap.size) (hbA : ¬ A b) (hNT : NoTr l) (hOK : lawOK I) (hI : I gE gJ gV aV gN aN gS gZ aZ dP gQ dO gM aM) (t : List Int32) (ht : sbT t u) (hnB : nB = t.length) (hsrc : LV 8 = LJ 0) (i : Nat) (hi : i + 4 ≤ L) (hL : L ≤ 2048) {H : Heap} {locs : List Loc} {ls : Array Slot} {cells slots : Nat} (hce : cells + 14 ≤ 601024) (hsl : slots + 476 ≤ 7293034) (hl : lv_has ls 7 [(0, .ref b), (1, .ref hE), (2, .ref hM), (3, .ref hO), (4, .int (nI i))]) (hst : St dC dI A s.heap H locs (fWd tk hE LE LJ LV LN LS LZ LQ hO hM LM gE gJ gV aV gN aN gS gZ aZ dP gQ dO u nB fO gM aM))
    (kk : ∀ (gE' : aG) (gJ' : aG) (gV' : aG) (aV' : aA) (gN' : aG) (aN' : aA) (gS' : aG) (gZ' : aG) (aZ' : aA) (dP' : aP) (gQ' : aG) (dO' : aP) (u' : sbS) (nB' : Nat) (fO' : Nat → Int64) (gM' : aG) (aM' : aA) (t' : List Int32) (H1 : Heap) (locs1 : List Loc) (ls1 : Array Slot), I gE' gJ' gV' aV' gN' aN' gS' gZ' aZ' dP' gQ' dO' gM' aM' → sbT t' u' → nB' = t'.length → lv_has ls1 7 [(0, .ref b), (1, .ref hE), (2, .ref hM), (3, .ref hO), (4, .int (nI i))] → St dC dI A s.heap H1 locs1 (fWd tk hE LE LJ LV LN LS LZ LQ hO hM LM gE' gJ' gV' aV' gN' aN' gS' gZ' aZ' dP' gQ' dO' u' nB' fO' gM' aM') → W p l e room_1 s m args below meth c H1 locs1 (cells + 14) (slots + 476) Q (F0 m 747 ls1 [])) : W p l e room_1 s m args below meth c H locs cells slots Q (F0 m 531 ls []) := by
  rcases (hOK gE gJ gV aV gN aN gS gZ aZ dP gQ dO gM aM hI).2.2.2.2.2.2.2.2.2.2.2.2.1 (xs (i + 1)) (xs (i + 2)) with ⟨n, n2, r, g2, hm1, hm2, h45, hI2⟩ | ⟨hm1, n2, r, g2, hm2, h45, hI2⟩
  · refine lv_aload_n hx hb d_law_531 rfl (lv_at hl 1 rfl) ?_
    refine lv_aload_n hx hb d_law_532 rfl (lv_at hl 0 rfl) ?_
    refine lv_iload hx hb d_law_533 (lv_at hl 4 rfl) ?_
    refine lv_iconst (v := 1) hx hb d_law_535 (by decide) ?_
    refine lv_iadd hx hb d_law_536 ?_
    refine W.eq (g2 := F0 m 537 ls [.int (nI (i + 1)), .ref b, .ref hE]) (by rw [show nI i + 1 = nI (i + 1) from nI_add i 1]) ?_
    refine va_sld hx hb hX hbl hbA hst.2.2 (inb_in (inb_n (n := L) (by omega) (by omega))) d_law_537 ?_
    refine W.eq (g2 := F0 m 538 ls [.int (xs (i + 1)), .ref hE]) (by rw [nI_clamp (by omega)]) ?_
    refine lv_aload_n hx hb d_law_538 rfl (lv_at hl 0 rfl) ?_
    refine lv_iload hx hb d_law_539 (lv_at hl 4 rfl) ?_
    refine lv_iconst (v := 2) hx hb d_law_541 (by decide) ?_
    refine lv_iadd hx hb d_law_542 ?_
    refine W.eq (g2 := F0 m 543 ls [.int (nI (i + 2)), .ref b, .int (xs (i + 1)), .ref hE]) (by rw [show nI i + 2 = nI (i + 2) from nI_add i 2]) ?_
    refine va_sld hx hb hX hbl hbA hst.2.2 (inb_in (inb_n (n := L) (by omega) (by omega))) d_law_543 ?_
    refine W.eq (g2 := F0 m 544 ls [.int (xs (i + 2)), .int (xs (i + 1)), .ref hE]) (by rw [nI_clamp (by omega)]) ?_
    refine lv_aload_n hx hb d_law_544 rfl (lv_at hl 3 rfl) ?_
    refine cl_sw (As := [.ref hE, .int (xs (i + 1)), .int (xs (i + 2)), .ref hO]) (n := 4) hx hb hml hown hG hg (h_text l dC dI tk A hE LE LJ LV LN LS LZ LQ hO hM LM gE gJ gV aV gN aN gS gZ aZ dP gQ dO u nB fO gM aM n (xs (i + 1)) (xs (i + 2)) _ hm1) k_986 k_987 k_0 k_988 (by decide +kernel) ⟨by decide, by decide⟩ hst rfl hl.1 rfl (Nat.le_of_ble_eq_true rfl) ⟨by show cells + 0 ≤ 601024; omega, by show slots + 0 ≤ 7293034; omega⟩ d_law_545 (fun H locs hst => ?_)
    refine lv_istore (lv' := [(5, .int 0), (0, .ref b), (1, .ref hE), (2, .ref hM), (3, .ref hO), (4, .int (nI i))]) hx hb d_law_548 hl (by decide) rfl (fun ls hl => ?_)
    refine lv_aload_n hx hb d_law_550 rfl (lv_at hl 3 rfl) ?_
    refine lv_aload_n hx hb d_law_551 rfl (lv_at hl 1 rfl) ?_
    refine lv_iload hx hb d_law_552 (lv_at hl 5 rfl) ?_
    refine lv_iconst (v := 1) hx hb d_law_554 (by decide) ?_
    refine lv_iadd hx hb d_law_555 ?_
    refine W.eq (g2 := F0 m 556 ls [.int (nI (i + 1)), .ref b, .ref hM]) (by rw [show nI i + 1 = nI (i + 1) from nI_add i 1]) ?_
    refine va_sld hx hb hX hbl hbA hst.2.2 (inb_in (inb_n (n := L) (by omega) (by omega))) d_law_556 ?_
    refine W.eq (g2 := F0 m 557 ls [.int (xs (i + 1)), .ref hM]) (by rw [nI_clamp (by omega)]) ?_
    refine lv_aload_n hx hb d_law_557 rfl (lv_at hl 1 rfl) ?_
    refine lv_iload hx hb d_law_558 (lv_at hl 5 rfl) ?_
    refine lv_iconst (v := 2) hx hb d_law_560 (by decide) ?_
    refine lv_iadd hx hb d_law_561 ?_
    refine W.eq (g2 := F0 m 562 ls [.int (nI (i + 2)), .ref b, .int (xs (i + 1)), .ref hM]) (by rw [show nI i + 2 = nI (i + 2) from nI_add i 2]) ?_
    refine va_sld hx hb hX hbl hbA hst.2.2 (inb_in (inb_n (n := L) (by omega) (by omega))) d_law_562 ?_
    refine W.eq (g2 := F0 m 563 ls [.int (xs (i + 2)), .int (xs (i + 1)), .ref hM]) (by rw [nI_clamp (by omega)]) ?_
    obtain ⟨q0, hq0⟩ := fW_M (tk := tk) (hE := hE) (LE := LE) (LJ := LJ) (LV := LV) (LN := LN) (LS := LS) (LZ := LZ) (LQ := LQ) (hO := hO) (hM := hM) (LM := LM) (gE := gE) (gJ := gJ) (gV := gV) (aV := aV) (gN := gN) (aN := aN) (gS := gS) (gZ := gZ) (aZ := aZ) (dP := dP) (gQ := gQ) (dO := dO) (u := u) (nB := nB) (fO := (vp_updL fO 0 r.toInt64)) (gM := gM) (aM := aM)
    refine cl_vi (As := [.int (xs (i + 1)), .int (xs (i + 2))]) hx hb hml hown hG hg (fM (fun rw => cM_text l dC dI tk A hM LM gM aM rw n2 ((xs (i + 1))) ((xs (i + 2))) _ _ hm2)) (cw_v 2 hG k_1367 k_1368 k_1369 k_14 k_1370 (by decide +kernel) ⟨by decide, by decide⟩) hst cM.1 hq0 rfl hl.1 rfl (Nat.le_of_ble_eq_true rfl) ⟨by show cells + 0 ≤ 601024; omega, by show slots + 0 ≤ 7293034; omega⟩ d_law_563 (fun H locs hst => ?_)
    refine lv_istore (lv' := [(6, .int r), (5, .int 0), (0, .ref b), (1, .ref hE), (2, .ref hM), (3, .ref hO), (4, .int (nI i))]) hx hb d_law_566 hl (by decide) rfl (fun ls hl => ?_)
    refine lv_aload_n hx hb d_law_568 rfl (lv_at hl 4 rfl) ?_
    obtain ⟨q0, hq0⟩ := fW_M (tk := tk) (hE := hE) (LE := LE) (LJ := LJ) (LV := LV) (LN := LN) (LS := LS) (LZ := LZ) (LQ := LQ) (hO := hO) (hM := hM) (LM := LM) (gE := gE) (gJ := gJ) (gV := gV) (aV := aV) (gN := gN) (aN := aN) (gS := gS) (gZ := gZ) (aZ := aZ) (dP := dP) (gQ := gQ) (dO := dO) (u := u) (nB := nB) (fO := (vp_updL fO 0 r.toInt64)) (gM := g2) (aM := aM)
    refine cl_vi (As := []) hx hb hml hown hG hg (fM (fun rw => cM_thrown l dC dI tk A hM LM g2 aM rw 0 _ rfl)) (cw_v 0 hG k_1153 k_1154 k_1155 k_14 k_1156 (by decide +kernel) ⟨by decide, by decide⟩) hst cM.1 hq0 rfl hl.1 rfl (Nat.le_of_ble_eq_true rfl) ⟨by show cells + 0 ≤ 601024; omega, by show slots + 0 ≤ 7293034; omega⟩ d_law_569 (fun H locs hst => ?_)
    refine W.eq (g2 := F0 m 572 ls [.int 0]) (by rw [h45]) ?_
    refine lv_iload hx hb d_law_572 (lv_at hl 1 rfl) ?_
    refine lv_icmp_eq (tgt := 579) hx hb d_law_574 (by decide) (fun _ => ?_) (fun h9 => absurd rfl h9)
    refine lv_iload hx hb d_law_579 (lv_at hl 1 rfl) ?_
    refine lv_if_ne (tgt := 596) hx hb d_law_581 (by decide) (fun h9 => absurd rfl h9) (fun _ => ?_)
    refine lv_aload_n hx hb d_law_584 rfl (lv_at hl 5 rfl) ?_
    refine lv_iconst (v := 0) hx hb d_law_585 (by decide) ?_
    refine ro_lald hx hb hg hst d_law_586 ?_
    refine W.eq (g2 := F0 m 587 ls [.long r.toInt64]) rfl ?_
    refine lv_iload hx hb d_law_587 (lv_at hl 0 rfl) ?_
    refine lv_i2l hx hb d_law_589 rfl ?_
    refine W.lcmp hx hb d_law_590 ?_
    rw [lcmp_0]
    refine lv_if_eq (tgt := 596) hx hb d_law_591 (by decide) (fun _ => ?_) (fun h9 => absurd rfl h9)
    refine lv_goto (tgt := 747) hx hb d_law_596 (by decide) ?_
    refine W.widen (k := cells + 14) (n := slots + 476) (by omega) (by omega) ?_
    exact kk _ _ _ _ _ _ _ _ _ _ _ _ _ _ (vp_updL fO 0 r.toInt64) g2 _ t _ _ _ hI2 ht hnB (lv_sub hl [2, 3, 4, 5, 6] rfl) hst
  · refine lv_aload_n hx hb d_law_531 rfl (lv_at hl 1 rfl) ?_
    refine lv_aload_n hx hb d_law_532 rfl (lv_at hl 0 rfl) ?_
    refine lv_iload hx hb d_law_533 (lv_at hl 4 rfl) ?_
    refine lv_iconst (v := 1) hx hb d_law_535 (by decide) ?_
    refine lv_iadd hx hb d_law_536 ?_
    refine W.eq (g2 := F0 m 537 ls [.int (nI (i + 1)), .ref b, .ref hE]) (by rw [show nI i + 1 = nI (i + 1) from nI_add i 1]) ?_
    refine va_sld hx hb hX hbl hbA hst.2.2 (inb_in (inb_n (n := L) (by omega) (by omega))) d_law_537 ?_
    refine W.eq (g2 := F0 m 538 ls [.int (xs (i + 1)), .ref hE]) (by rw [nI_clamp (by omega)]) ?_
    refine lv_aload_n hx hb d_law_538 rfl (lv_at hl 0 rfl) ?_
    refine lv_iload hx hb d_law_539 (lv_at hl 4 rfl) ?_
    refine lv_iconst (v := 2) hx hb d_law_541 (by decide) ?_
    refine lv_iadd hx hb d_law_542 ?_
    refine W.eq (g2 := F0 m 543 ls [.int (nI (i + 2)), .ref b, .int (xs (i + 1)), .ref hE]) (by rw [show nI i + 2 = nI (i + 2) from nI_add i 2]) ?_
    refine va_sld hx hb hX hbl hbA hst.2.2 (inb_in (inb_n (n := L) (by omega) (by omega))) d_law_543 ?_
    refine W.eq (g2 := F0 m 544 ls [.int (xs (i + 2)), .int (xs (i + 1)), .ref hE]) (by rw [nI_clamp (by omega)]) ?_
    refine lv_aload_n hx hb d_law_544 rfl (lv_at hl 3 rfl) ?_
    refine cl_sw (As := [.ref hE, .int (xs (i + 1)), .int (xs (i + 2)), .ref hO]) (n := 4) hx hb hml hown hG hg (h_text_i l dC dI tk A hE LE LJ LV LN LS LZ LQ hO hM LM gE gJ gV aV gN aN gS gZ aZ dP gQ dO u nB fO gM aM (xs (i + 1)) (xs (i + 2)) hNT hm1) k_986 k_987 k_0 k_988 (by decide +kernel) ⟨by decide, by decide⟩ hst rfl hl.1 rfl (Nat.le_of_ble_eq_true rfl) ⟨by show cells + 1 ≤ 601024; omega, by show slots + 6 ≤ 7293034; omega⟩ d_law_545 (fun H locs hst => ?_)
    refine lv_istore (lv' := [(5, .int 1), (0, .ref b), (1, .ref hE), (2, .ref hM), (3, .ref hO), (4, .int (nI i))]) hx hb d_law_548 hl (by decide) rfl (fun ls hl => ?_)
    refine lv_aload_n hx hb d_law_550 rfl (lv_at hl 3 rfl) ?_
    refine lv_aload_n hx hb d_law_551 rfl (lv_at hl 1 rfl) ?_
    refine lv_iload hx hb d_law_552 (lv_at hl 5 rfl) ?_
    refine lv_iconst (v := 1) hx hb d_law_554 (by decide) ?_
    refine lv_iadd hx hb d_law_555 ?_
    refine W.eq (g2 := F0 m 556 ls [.int (nI (i + 1)), .ref b, .ref hM]) (by rw [show nI i + 1 = nI (i + 1) from nI_add i 1]) ?_
    refine va_sld hx hb hX hbl hbA hst.2.2 (inb_in (inb_n (n := L) (by omega) (by omega))) d_law_556 ?_
    refine W.eq (g2 := F0 m 557 ls [.int (xs (i + 1)), .ref hM]) (by rw [nI_clamp (by omega)]) ?_
    refine lv_aload_n hx hb d_law_557 rfl (lv_at hl 1 rfl) ?_
    refine lv_iload hx hb d_law_558 (lv_at hl 5 rfl) ?_
    refine lv_iconst (v := 2) hx hb d_law_560 (by decide) ?_
    refine lv_iadd hx hb d_law_561 ?_
    refine W.eq (g2 := F0 m 562 ls [.int (nI (i + 2)), .ref b, .int (xs (i + 1)), .ref hM]) (by rw [show nI i + 2 = nI (i + 2) from nI_add i 2]) ?_
    refine va_sld hx hb hX hbl hbA hst.2.2 (inb_in (inb_n (n := L) (by omega) (by omega))) d_law_562 ?_
    refine W.eq (g2 := F0 m 563 ls [.int (xs (i + 2)), .int (xs (i + 1)), .ref hM]) (by rw [nI_clamp (by omega)]) ?_
    obtain ⟨q0, hq0⟩ := fW_M (tk := tk) (hE := hE) (LE := LE) (LJ := LJ) (LV := LV) (LN := LN) (LS := LS) (LZ := LZ) (LQ := LQ) (hO := hO) (hM := hM) (LM := LM) (gE := gE) (gJ := gJ) (gV := gV) (aV := aV) (gN := gN) (aN := aN) (gS := gS) (gZ := gZ) (aZ := aZ) (dP := dP) (gQ := gQ) (dO := dO) (u := u) (nB := nB) (fO := fO) (gM := gM) (aM := aM)
    refine cl_vi (As := [.int (xs (i + 1)), .int (xs (i + 2))]) hx hb hml hown hG hg (fM (fun rw => cM_text l dC dI tk A hM LM gM aM rw n2 ((xs (i + 1))) ((xs (i + 2))) _ _ hm2)) (cw_v 2 hG k_1367 k_1368 k_1369 k_14 k_1370 (by decide +kernel) ⟨by decide, by decide⟩) hst cM.1 hq0 rfl hl.1 rfl (Nat.le_of_ble_eq_true rfl) ⟨by show cells + 1 ≤ 601024; omega, by show slots + 6 ≤ 7293034; omega⟩ d_law_563 (fun H locs hst => ?_)
    refine lv_istore (lv' := [(6, .int r), (5, .int 1), (0, .ref b), (1, .ref hE), (2, .ref hM), (3, .ref hO), (4, .int (nI i))]) hx hb d_law_566 hl (by decide) rfl (fun ls hl => ?_)
    refine lv_aload_n hx hb d_law_568 rfl (lv_at hl 4 rfl) ?_
    obtain ⟨q0, hq0⟩ := fW_M (tk := tk) (hE := hE) (LE := LE) (LJ := LJ) (LV := LV) (LN := LN) (LS := LS) (LZ := LZ) (LQ := LQ) (hO := hO) (hM := hM) (LM := LM) (gE := gE) (gJ := gJ) (gV := gV) (aV := aV) (gN := gN) (aN := aN) (gS := gS) (gZ := gZ) (aZ := aZ) (dP := dP) (gQ := gQ) (dO := dO) (u := u) (nB := nB) (fO := fO) (gM := g2) (aM := aM)
    refine cl_vi (As := []) hx hb hml hown hG hg (fM (fun rw => cM_thrown l dC dI tk A hM LM g2 aM rw 0 _ rfl)) (cw_v 0 hG k_1153 k_1154 k_1155 k_14 k_1156 (by decide +kernel) ⟨by decide, by decide⟩) hst cM.1 hq0 rfl hl.1 rfl (Nat.le_of_ble_eq_true rfl) ⟨by show cells + 1 ≤ 601024; omega, by show slots + 6 ≤ 7293034; omega⟩ d_law_569 (fun H locs hst => ?_)
    refine W.eq (g2 := F0 m 572 ls [.int 1]) (by rw [h45]) ?_
    refine lv_iload hx hb d_law_572 (lv_at hl 1 rfl) ?_
    refine lv_icmp_eq (tgt := 579) hx hb d_law_574 (by decide) (fun _ => ?_) (fun h9 => absurd rfl h9)
    refine lv_iload hx hb d_law_579 (lv_at hl 1 rfl) ?_
    refine lv_if_ne (tgt := 596) hx hb d_law_581 (by decide) (fun _ => ?_) (fun h9 => absurd h9 (by decide))
    refine lv_goto (tgt := 747) hx hb d_law_596 (by decide) ?_
    refine W.widen (k := cells + 14) (n := slots + 476) (by omega) (by omega) ?_
    exact kk _ _ _ _ _ _ _ _ _ _ _ _ _ _ _ g2 _ t _ _ _ hI2 ht hnB (lv_sub hl [2, 3, 4, 5, 6] rfl) hst
set_option maxHeartbeats 4000000 in
theorem lc_13 {p : Program} {l : Launch} {e : Env} {s : State} {m : MethodId} {args : Array Value} {below : List Frame} {meth : Method} {c : Code} {Q : State → Prop} {dC : Nat → ClassId} {dI : Nat → Nat → Nat} {tk : Nat → ClassId} {A : Nat → Prop} {b L : Nat} {xs : Nat → Int32} {I : aI} {hE : Nat} {LE : Nat → Nat} {LJ : Nat → Nat} {LV : Nat → Nat} {LN : Nat → Nat} {LS : Nat → Nat} {LZ : Nat → Nat} {LQ : Nat → Nat} {hO : Nat} {hM : Nat} {LM : Nat → Nat} {gE : aG} {gJ : aG} {gV : aG} {aV : aA} {gN : aG} {aN : aA} {gS : aG} {gZ : aG} {aZ : aA} {dP : aP} {gQ : aG} {dO : aP} {u : sbS} {nB : Nat} {fO : Nat → Int64} {gM : aG} {aM : aA} (hx : p.tables.exec = Jvm.exec) (hb : c.code = code) (hml : c.maxLocals = 7) (hown : s.vm.findClass "EditorServerLaw" = some m.cls) (hG : ∀ w ∈ gW, w.before args s = true) (hg : Gl dC dI tk A s) (hX : va_X b L xs s s.heap) (hbl : b < s.heap.size) (hbA : ¬ A b) (hNT : NoTr l) (hOK : lawOK I) (hI : I gE gJ gV aV gN aN gS gZ aZ dP gQ dO gM aM) (t : List Int32) (ht : sbT t u) (hnB : nB = t.length) (hsrc : LV 8 = LJ 0) (i : Nat) (hi : i + 4 ≤ L) (hL : L ≤ 2048) {H : Heap} {locs : List Loc} {ls : Array Slot} {cells slots : Nat} (hce : cells + 14 ≤ 601024) (hsl : slots + 476 ≤ 7293034) (hl : lv_has ls 7 [(0, .ref b), (1, .ref hE), (2, .ref hM), (3, .ref hO), (4, .int (nI i))]) (hst : St dC dI A s.heap H locs (fWd tk hE LE LJ LV LN LS LZ LQ hO hM LM gE gJ gV aV gN aN gS gZ aZ dP gQ dO u nB fO gM aM))
    (kk : ∀ (gE' : aG) (gJ' : aG) (gV' : aG) (aV' : aA) (gN' : aG) (aN' : aA) (gS' : aG) (gZ' : aG) (aZ' : aA) (dP' : aP) (gQ' : aG) (dO' : aP) (u' : sbS) (nB' : Nat) (fO' : Nat → Int64) (gM' : aG) (aM' : aA) (t' : List Int32) (H1 : Heap) (locs1 : List Loc) (ls1 : Array Slot), I gE' gJ' gV' aV' gN' aN' gS' gZ' aZ' dP' gQ' dO' gM' aM' → sbT t' u' → nB' = t'.length → lv_has ls1 7 [(0, .ref b), (1, .ref hE), (2, .ref hM), (3, .ref hO), (4, .int (nI i))] → St dC dI A s.heap H1 locs1 (fWd tk hE LE LJ LV LN LS LZ LQ hO hM LM gE' gJ' gV' aV' gN' aN' gS' gZ' aZ' dP' gQ' dO' u' nB' fO' gM' aM') → W p l e room_1 s m args below meth c H1 locs1 (cells + 14) (slots + 476) Q (F0 m 747 ls1 [])) : W p l e room_1 s m args below meth c H locs cells slots Q (F0 m 599 ls []) := by
  rcases (hOK gE gJ gV aV gN aN gS gZ aZ dP gQ dO gM aM hI).2.2.2.2.2.2.2.2.2.2.2.2.2.1 (xs (i + 1)) (xs (i + 2)) with ⟨n, n2, r, g2, hm1, hm2, h45, hI2⟩ | ⟨hm1, n2, r, g2, hm2, h45, hI2⟩
  · refine lv_aload_n hx hb d_law_599 rfl (lv_at hl 1 rfl) ?_
    refine lv_aload_n hx hb d_law_600 rfl (lv_at hl 0 rfl) ?_
    refine lv_iload hx hb d_law_601 (lv_at hl 4 rfl) ?_
    refine lv_iconst (v := 1) hx hb d_law_603 (by decide) ?_
    refine lv_iadd hx hb d_law_604 ?_
    refine W.eq (g2 := F0 m 605 ls [.int (nI (i + 1)), .ref b, .ref hE]) (by rw [show nI i + 1 = nI (i + 1) from nI_add i 1]) ?_
    refine va_sld hx hb hX hbl hbA hst.2.2 (inb_in (inb_n (n := L) (by omega) (by omega))) d_law_605 ?_
    refine W.eq (g2 := F0 m 606 ls [.int (xs (i + 1)), .ref hE]) (by rw [nI_clamp (by omega)]) ?_
    refine lv_aload_n hx hb d_law_606 rfl (lv_at hl 0 rfl) ?_
    refine lv_iload hx hb d_law_607 (lv_at hl 4 rfl) ?_
    refine lv_iconst (v := 2) hx hb d_law_609 (by decide) ?_
    refine lv_iadd hx hb d_law_610 ?_
    refine W.eq (g2 := F0 m 611 ls [.int (nI (i + 2)), .ref b, .int (xs (i + 1)), .ref hE]) (by rw [show nI i + 2 = nI (i + 2) from nI_add i 2]) ?_
    refine va_sld hx hb hX hbl hbA hst.2.2 (inb_in (inb_n (n := L) (by omega) (by omega))) d_law_611 ?_
    refine W.eq (g2 := F0 m 612 ls [.int (xs (i + 2)), .int (xs (i + 1)), .ref hE]) (by rw [nI_clamp (by omega)]) ?_
    refine lv_aload_n hx hb d_law_612 rfl (lv_at hl 3 rfl) ?_
    refine cl_sw (As := [.ref hE, .int (xs (i + 1)), .int (xs (i + 2)), .ref hO]) (n := 4) hx hb hml hown hG hg (h_name l dC dI tk A hE LE LJ LV LN LS LZ LQ hO hM LM gE gJ gV aV gN aN gS gZ aZ dP gQ dO u nB fO gM aM n (xs (i + 1)) (xs (i + 2)) _ hm1) k_993 k_994 k_0 k_995 (by decide +kernel) ⟨by decide, by decide⟩ hst rfl hl.1 rfl (Nat.le_of_ble_eq_true rfl) ⟨by show cells + 0 ≤ 601024; omega, by show slots + 0 ≤ 7293034; omega⟩ d_law_613 (fun H locs hst => ?_)
    refine lv_istore (lv' := [(5, .int 0), (0, .ref b), (1, .ref hE), (2, .ref hM), (3, .ref hO), (4, .int (nI i))]) hx hb d_law_616 hl (by decide) rfl (fun ls hl => ?_)
    refine lv_aload_n hx hb d_law_618 rfl (lv_at hl 3 rfl) ?_
    refine lv_aload_n hx hb d_law_619 rfl (lv_at hl 1 rfl) ?_
    refine lv_iload hx hb d_law_620 (lv_at hl 5 rfl) ?_
    refine lv_iconst (v := 1) hx hb d_law_622 (by decide) ?_
    refine lv_iadd hx hb d_law_623 ?_
    refine W.eq (g2 := F0 m 624 ls [.int (nI (i + 1)), .ref b, .ref hM]) (by rw [show nI i + 1 = nI (i + 1) from nI_add i 1]) ?_
    refine va_sld hx hb hX hbl hbA hst.2.2 (inb_in (inb_n (n := L) (by omega) (by omega))) d_law_624 ?_
    refine W.eq (g2 := F0 m 625 ls [.int (xs (i + 1)), .ref hM]) (by rw [nI_clamp (by omega)]) ?_
    refine lv_aload_n hx hb d_law_625 rfl (lv_at hl 1 rfl) ?_
    refine lv_iload hx hb d_law_626 (lv_at hl 5 rfl) ?_
    refine lv_iconst (v := 2) hx hb d_law_628 (by decide) ?_
    refine lv_iadd hx hb d_law_629 ?_
    refine W.eq (g2 := F0 m 630 ls [.int (nI (i + 2)), .ref b, .int (xs (i + 1)), .ref hM]) (by rw [show nI i + 2 = nI (i + 2) from nI_add i 2]) ?_
    refine va_sld hx hb hX hbl hbA hst.2.2 (inb_in (inb_n (n := L) (by omega) (by omega))) d_law_630 ?_
    refine W.eq (g2 := F0 m 631 ls [.int (xs (i + 2)), .int (xs (i + 1)), .ref hM]) (by rw [nI_clamp (by omega)]) ?_
    obtain ⟨q0, hq0⟩ := fW_M (tk := tk) (hE := hE) (LE := LE) (LJ := LJ) (LV := LV) (LN := LN) (LS := LS) (LZ := LZ) (LQ := LQ) (hO := hO) (hM := hM) (LM := LM) (gE := gE) (gJ := gJ) (gV := gV) (aV := aV) (gN := gN) (aN := aN) (gS := gS) (gZ := gZ) (aZ := aZ) (dP := dP) (gQ := gQ) (dO := dO) (u := u) (nB := nB) (fO := (vp_updL fO 0 r.toInt64)) (gM := gM) (aM := aM)
    refine cl_vi (As := [.int (xs (i + 1)), .int (xs (i + 2))]) hx hb hml hown hG hg (fM (fun rw => cM_name l dC dI tk A hM LM gM aM rw n2 ((xs (i + 1))) ((xs (i + 2))) _ _ hm2)) (cw_v 2 hG k_1371 k_1372 k_1373 k_14 k_1374 (by decide +kernel) ⟨by decide, by decide⟩) hst cM.1 hq0 rfl hl.1 rfl (Nat.le_of_ble_eq_true rfl) ⟨by show cells + 0 ≤ 601024; omega, by show slots + 0 ≤ 7293034; omega⟩ d_law_631 (fun H locs hst => ?_)
    refine lv_istore (lv' := [(6, .int r), (5, .int 0), (0, .ref b), (1, .ref hE), (2, .ref hM), (3, .ref hO), (4, .int (nI i))]) hx hb d_law_634 hl (by decide) rfl (fun ls hl => ?_)
    refine lv_aload_n hx hb d_law_636 rfl (lv_at hl 4 rfl) ?_
    obtain ⟨q0, hq0⟩ := fW_M (tk := tk) (hE := hE) (LE := LE) (LJ := LJ) (LV := LV) (LN := LN) (LS := LS) (LZ := LZ) (LQ := LQ) (hO := hO) (hM := hM) (LM := LM) (gE := gE) (gJ := gJ) (gV := gV) (aV := aV) (gN := gN) (aN := aN) (gS := gS) (gZ := gZ) (aZ := aZ) (dP := dP) (gQ := gQ) (dO := dO) (u := u) (nB := nB) (fO := (vp_updL fO 0 r.toInt64)) (gM := g2) (aM := aM)
    refine cl_vi (As := []) hx hb hml hown hG hg (fM (fun rw => cM_thrown l dC dI tk A hM LM g2 aM rw 0 _ rfl)) (cw_v 0 hG k_1153 k_1154 k_1155 k_14 k_1156 (by decide +kernel) ⟨by decide, by decide⟩) hst cM.1 hq0 rfl hl.1 rfl (Nat.le_of_ble_eq_true rfl) ⟨by show cells + 0 ≤ 601024; omega, by show slots + 0 ≤ 7293034; omega⟩ d_law_637 (fun H locs hst => ?_)
    refine W.eq (g2 := F0 m 640 ls [.int 0]) (by rw [h45]) ?_
    refine lv_iload hx hb d_law_640 (lv_at hl 1 rfl) ?_
    refine lv_icmp_eq (tgt := 647) hx hb d_law_642 (by decide) (fun _ => ?_) (fun h9 => absurd rfl h9)
    refine lv_iload hx hb d_law_647 (lv_at hl 1 rfl) ?_
    refine lv_if_ne (tgt := 664) hx hb d_law_649 (by decide) (fun h9 => absurd rfl h9) (fun _ => ?_)
    refine lv_aload_n hx hb d_law_652 rfl (lv_at hl 5 rfl) ?_
    refine lv_iconst (v := 0) hx hb d_law_653 (by decide) ?_
    refine ro_lald hx hb hg hst d_law_654 ?_
    refine W.eq (g2 := F0 m 655 ls [.long r.toInt64]) rfl ?_
    refine lv_iload hx hb d_law_655 (lv_at hl 0 rfl) ?_
    refine lv_i2l hx hb d_law_657 rfl ?_
    refine W.lcmp hx hb d_law_658 ?_
    rw [lcmp_0]
    refine lv_if_eq (tgt := 664) hx hb d_law_659 (by decide) (fun _ => ?_) (fun h9 => absurd rfl h9)
    refine lv_goto (tgt := 747) hx hb d_law_664 (by decide) ?_
    refine W.widen (k := cells + 14) (n := slots + 476) (by omega) (by omega) ?_
    exact kk _ _ _ _ _ _ _ _ _ _ _ _ _ _ (vp_updL fO 0 r.toInt64) g2 _ t _ _ _ hI2 ht hnB (lv_sub hl [2, 3, 4, 5, 6] rfl) hst
  · refine lv_aload_n hx hb d_law_599 rfl (lv_at hl 1 rfl) ?_
    refine lv_aload_n hx hb d_law_600 rfl (lv_at hl 0 rfl) ?_
    refine lv_iload hx hb d_law_601 (lv_at hl 4 rfl) ?_
    refine lv_iconst (v := 1) hx hb d_law_603 (by decide) ?_
    refine lv_iadd hx hb d_law_604 ?_
    refine W.eq (g2 := F0 m 605 ls [.int (nI (i + 1)), .ref b, .ref hE]) (by rw [show nI i + 1 = nI (i + 1) from nI_add i 1]) ?_
    refine va_sld hx hb hX hbl hbA hst.2.2 (inb_in (inb_n (n := L) (by omega) (by omega))) d_law_605 ?_
    refine W.eq (g2 := F0 m 606 ls [.int (xs (i + 1)), .ref hE]) (by rw [nI_clamp (by omega)]) ?_
    refine lv_aload_n hx hb d_law_606 rfl (lv_at hl 0 rfl) ?_
    refine lv_iload hx hb d_law_607 (lv_at hl 4 rfl) ?_
    refine lv_iconst (v := 2) hx hb d_law_609 (by decide) ?_
    refine lv_iadd hx hb d_law_610 ?_
    refine W.eq (g2 := F0 m 611 ls [.int (nI (i + 2)), .ref b, .int (xs (i + 1)), .ref hE]) (by rw [show nI i + 2 = nI (i + 2) from nI_add i 2]) ?_
    refine va_sld hx hb hX hbl hbA hst.2.2 (inb_in (inb_n (n := L) (by omega) (by omega))) d_law_611 ?_
    refine W.eq (g2 := F0 m 612 ls [.int (xs (i + 2)), .int (xs (i + 1)), .ref hE]) (by rw [nI_clamp (by omega)]) ?_
    refine lv_aload_n hx hb d_law_612 rfl (lv_at hl 3 rfl) ?_
    refine cl_sw (As := [.ref hE, .int (xs (i + 1)), .int (xs (i + 2)), .ref hO]) (n := 4) hx hb hml hown hG hg (h_name_i l dC dI tk A hE LE LJ LV LN LS LZ LQ hO hM LM gE gJ gV aV gN aN gS gZ aZ dP gQ dO u nB fO gM aM (xs (i + 1)) (xs (i + 2)) hNT hm1) k_993 k_994 k_0 k_995 (by decide +kernel) ⟨by decide, by decide⟩ hst rfl hl.1 rfl (Nat.le_of_ble_eq_true rfl) ⟨by show cells + 1 ≤ 601024; omega, by show slots + 6 ≤ 7293034; omega⟩ d_law_613 (fun H locs hst => ?_)
    refine lv_istore (lv' := [(5, .int 1), (0, .ref b), (1, .ref hE), (2, .ref hM), (3, .ref hO), (4, .int (nI i))]) hx hb d_law_616 hl (by decide) rfl (fun ls hl => ?_)
    refine lv_aload_n hx hb d_law_618 rfl (lv_at hl 3 rfl) ?_
    refine lv_aload_n hx hb d_law_619 rfl (lv_at hl 1 rfl) ?_
    refine lv_iload hx hb d_law_620 (lv_at hl 5 rfl) ?_
    refine lv_iconst (v := 1) hx hb d_law_622 (by decide) ?_
    refine lv_iadd hx hb d_law_623 ?_
    refine W.eq (g2 := F0 m 624 ls [.int (nI (i + 1)), .ref b, .ref hM]) (by rw [show nI i + 1 = nI (i + 1) from nI_add i 1]) ?_
    refine va_sld hx hb hX hbl hbA hst.2.2 (inb_in (inb_n (n := L) (by omega) (by omega))) d_law_624 ?_
    refine W.eq (g2 := F0 m 625 ls [.int (xs (i + 1)), .ref hM]) (by rw [nI_clamp (by omega)]) ?_
    refine lv_aload_n hx hb d_law_625 rfl (lv_at hl 1 rfl) ?_
    refine lv_iload hx hb d_law_626 (lv_at hl 5 rfl) ?_
    refine lv_iconst (v := 2) hx hb d_law_628 (by decide) ?_
    refine lv_iadd hx hb d_law_629 ?_
    refine W.eq (g2 := F0 m 630 ls [.int (nI (i + 2)), .ref b, .int (xs (i + 1)), .ref hM]) (by rw [show nI i + 2 = nI (i + 2) from nI_add i 2]) ?_
    refine va_sld hx hb hX hbl hbA hst.2.2 (inb_in (inb_n (n := L) (by omega) (by omega))) d_law_630 ?_
    refine W.eq (g2 := F0 m 631 ls [.int (xs (i + 2)), .int (xs (i + 1)), .ref hM]) (by rw [nI_clamp (by omega)]) ?_
    obtain ⟨q0, hq0⟩ := fW_M (tk := tk) (hE := hE) (LE := LE) (LJ := LJ) (LV := LV) (LN := LN) (LS := LS) (LZ := LZ) (LQ := LQ) (hO := hO) (hM := hM) (LM := LM) (gE := gE) (gJ := gJ) (gV := gV) (aV := aV) (gN := gN) (aN := aN) (gS := gS) (gZ := gZ) (aZ := aZ) (dP := dP) (gQ := gQ) (dO := dO) (u := u) (nB := nB) (fO := fO) (gM := gM) (aM := aM)
    refine cl_vi (As := [.int (xs (i + 1)), .int (xs (i + 2))]) hx hb hml hown hG hg (fM (fun rw => cM_name l dC dI tk A hM LM gM aM rw n2 ((xs (i + 1))) ((xs (i + 2))) _ _ hm2)) (cw_v 2 hG k_1371 k_1372 k_1373 k_14 k_1374 (by decide +kernel) ⟨by decide, by decide⟩) hst cM.1 hq0 rfl hl.1 rfl (Nat.le_of_ble_eq_true rfl) ⟨by show cells + 1 ≤ 601024; omega, by show slots + 6 ≤ 7293034; omega⟩ d_law_631 (fun H locs hst => ?_)
    refine lv_istore (lv' := [(6, .int r), (5, .int 1), (0, .ref b), (1, .ref hE), (2, .ref hM), (3, .ref hO), (4, .int (nI i))]) hx hb d_law_634 hl (by decide) rfl (fun ls hl => ?_)
    refine lv_aload_n hx hb d_law_636 rfl (lv_at hl 4 rfl) ?_
    obtain ⟨q0, hq0⟩ := fW_M (tk := tk) (hE := hE) (LE := LE) (LJ := LJ) (LV := LV) (LN := LN) (LS := LS) (LZ := LZ) (LQ := LQ) (hO := hO) (hM := hM) (LM := LM) (gE := gE) (gJ := gJ) (gV := gV) (aV := aV) (gN := gN) (aN := aN) (gS := gS) (gZ := gZ) (aZ := aZ) (dP := dP) (gQ := gQ) (dO := dO) (u := u) (nB := nB) (fO := fO) (gM := g2) (aM := aM)
    refine cl_vi (As := []) hx hb hml hown hG hg (fM (fun rw => cM_thrown l dC dI tk A hM LM g2 aM rw 0 _ rfl)) (cw_v 0 hG k_1153 k_1154 k_1155 k_14 k_1156 (by decide +kernel) ⟨by decide, by decide⟩) hst cM.1 hq0 rfl hl.1 rfl (Nat.le_of_ble_eq_true rfl) ⟨by show cells + 1 ≤ 601024; omega, by show slots + 6 ≤ 7293034; omega⟩ d_law_637 (fun H locs hst => ?_)
    refine W.eq (g2 := F0 m 640 ls [.int 1]) (by rw [h45]) ?_
    refine lv_iload hx hb d_law_640 (lv_at hl 1 rfl) ?_
    refine lv_icmp_eq (tgt := 647) hx hb d_law_642 (by decide) (fun _ => ?_) (fun h9 => absurd rfl h9)
    refine lv_iload hx hb d_law_647 (lv_at hl 1 rfl) ?_
    refine lv_if_ne (tgt := 664) hx hb d_law_649 (by decide) (fun _ => ?_) (fun h9 => absurd h9 (by decide))
    refine lv_goto (tgt := 747) hx hb d_law_664 (by decide) ?_
    refine W.widen (k := cells + 14) (n := slots + 476) (by omega) (by omega) ?_
    exact kk _ _ _ _ _ _ _ _ _ _ _ _ _ _ _ g2 _ t _ _ _ hI2 ht hnB (lv_sub hl [2, 3, 4, 5, 6] rfl) hst
set_option maxHeartbeats 4000000 in
theorem lc_14 {p : Program} {l : Launch} {e : Env} {s : State} {m : MethodId} {args : Array Value} {below : List Frame} {meth : Method} {c : Code} {Q : State → Prop} {dC : Nat → ClassId} {dI : Nat → Nat → Nat} {tk : Nat → ClassId} {A : Nat → Prop} {b L : Nat} {xs : Nat → Int32} {I : aI} {hE : Nat} {LE : Nat → Nat} {LJ : Nat → Nat} {LV : Nat → Nat} {LN : Nat → Nat} {LS : Nat → Nat} {LZ : Nat → Nat} {LQ : Nat → Nat} {hO : Nat} {hM : Nat} {LM : Nat → Nat} {gE : aG} {gJ : aG} {gV : aG} {aV : aA} {gN : aG} {aN : aA} {gS : aG} {gZ : aG} {aZ : aA} {dP : aP} {gQ : aG} {dO : aP} {u : sbS} {nB : Nat} {fO : Nat → Int64} {gM : aG} {aM : aA} (hx : p.tables.exec = Jvm.exec) (hb : c.code = code) (hml : c.maxLocals = 7) (hown : s.vm.findClass "EditorServerLaw" = some m.cls) (hG : ∀ w ∈ gW, w.before args s = true) (hg : Gl dC dI tk A s) (hX : va_X b L xs s s.heap) (hbl : b < s.heap.size) (hbA : ¬ A b) (hNT : NoTr l) (hOK : lawOK I) (hI : I gE gJ gV aV gN aN gS gZ aZ dP gQ dO gM aM) (t : List Int32) (ht : sbT t u) (hnB : nB = t.length) (hsrc : LV 8 = LJ 0) (i : Nat) (hi : i + 4 ≤ L) (hL : L ≤ 2048) {H : Heap} {locs : List Loc} {ls : Array Slot} {cells slots : Nat} (hce : cells + 14 ≤ 601024) (hsl : slots + 476 ≤ 7293034) (hl : lv_has ls 7 [(0, .ref b), (1, .ref hE), (2, .ref hM), (3, .ref hO), (4, .int (nI i))]) (hst : St dC dI A s.heap H locs (fWd tk hE LE LJ LV LN LS LZ LQ hO hM LM gE gJ gV aV gN aN gS gZ aZ dP gQ dO u nB fO gM aM))
    (kk : ∀ (gE' : aG) (gJ' : aG) (gV' : aG) (aV' : aA) (gN' : aG) (aN' : aA) (gS' : aG) (gZ' : aG) (aZ' : aA) (dP' : aP) (gQ' : aG) (dO' : aP) (u' : sbS) (nB' : Nat) (fO' : Nat → Int64) (gM' : aG) (aM' : aA) (t' : List Int32) (H1 : Heap) (locs1 : List Loc) (ls1 : Array Slot), I gE' gJ' gV' aV' gN' aN' gS' gZ' aZ' dP' gQ' dO' gM' aM' → sbT t' u' → nB' = t'.length → lv_has ls1 7 [(0, .ref b), (1, .ref hE), (2, .ref hM), (3, .ref hO), (4, .int (nI i))] → St dC dI A s.heap H1 locs1 (fWd tk hE LE LJ LV LN LS LZ LQ hO hM LM gE' gJ' gV' aV' gN' aN' gS' gZ' aZ' dP' gQ' dO' u' nB' fO' gM' aM') → W p l e room_1 s m args below meth c H1 locs1 (cells + 14) (slots + 476) Q (F0 m 747 ls1 [])) : W p l e room_1 s m args below meth c H locs cells slots Q (F0 m 667 ls []) := by
  rcases (hOK gE gJ gV aV gN aN gS gZ aZ dP gQ dO gM aM hI).2.2.2.2.2.2.2.2.2.2.2.2.2.2 (xs (i + 1)) (xs (i + 2)) (xs (i + 3)) with ⟨n, n2, r, g2, hm1, hm2, h45, hI2⟩ | ⟨hm1, n2, r, g2, hm2, h45, hI2⟩
  · refine lv_aload_n hx hb d_law_667 rfl (lv_at hl 1 rfl) ?_
    refine lv_aload_n hx hb d_law_668 rfl (lv_at hl 0 rfl) ?_
    refine lv_iload hx hb d_law_669 (lv_at hl 4 rfl) ?_
    refine lv_iconst (v := 1) hx hb d_law_671 (by decide) ?_
    refine lv_iadd hx hb d_law_672 ?_
    refine W.eq (g2 := F0 m 673 ls [.int (nI (i + 1)), .ref b, .ref hE]) (by rw [show nI i + 1 = nI (i + 1) from nI_add i 1]) ?_
    refine va_sld hx hb hX hbl hbA hst.2.2 (inb_in (inb_n (n := L) (by omega) (by omega))) d_law_673 ?_
    refine W.eq (g2 := F0 m 674 ls [.int (xs (i + 1)), .ref hE]) (by rw [nI_clamp (by omega)]) ?_
    refine lv_aload_n hx hb d_law_674 rfl (lv_at hl 0 rfl) ?_
    refine lv_iload hx hb d_law_675 (lv_at hl 4 rfl) ?_
    refine lv_iconst (v := 2) hx hb d_law_677 (by decide) ?_
    refine lv_iadd hx hb d_law_678 ?_
    refine W.eq (g2 := F0 m 679 ls [.int (nI (i + 2)), .ref b, .int (xs (i + 1)), .ref hE]) (by rw [show nI i + 2 = nI (i + 2) from nI_add i 2]) ?_
    refine va_sld hx hb hX hbl hbA hst.2.2 (inb_in (inb_n (n := L) (by omega) (by omega))) d_law_679 ?_
    refine W.eq (g2 := F0 m 680 ls [.int (xs (i + 2)), .int (xs (i + 1)), .ref hE]) (by rw [nI_clamp (by omega)]) ?_
    refine lv_aload_n hx hb d_law_680 rfl (lv_at hl 0 rfl) ?_
    refine lv_iload hx hb d_law_681 (lv_at hl 4 rfl) ?_
    refine lv_iconst (v := 3) hx hb d_law_683 (by decide) ?_
    refine lv_iadd hx hb d_law_684 ?_
    refine W.eq (g2 := F0 m 685 ls [.int (nI (i + 3)), .ref b, .int (xs (i + 2)), .int (xs (i + 1)), .ref hE]) (by rw [show nI i + 3 = nI (i + 3) from nI_add i 3]) ?_
    refine va_sld hx hb hX hbl hbA hst.2.2 (inb_in (inb_n (n := L) (by omega) (by omega))) d_law_685 ?_
    refine W.eq (g2 := F0 m 686 ls [.int (xs (i + 3)), .int (xs (i + 2)), .int (xs (i + 1)), .ref hE]) (by rw [nI_clamp (by omega)]) ?_
    refine lv_aload_n hx hb d_law_686 rfl (lv_at hl 3 rfl) ?_
    refine cl_sw (As := [.ref hE, .int (xs (i + 1)), .int (xs (i + 2)), .int (xs (i + 3)), .ref hO]) (n := 5) hx hb hml hown hG hg (h_place l dC dI tk A hE LE LJ LV LN LS LZ LQ hO hM LM gE gJ gV aV gN aN gS gZ aZ dP gQ dO u nB fO gM aM n (xs (i + 1)) (xs (i + 2)) (xs (i + 3)) _ hm1) k_1000 k_1001 k_0 k_1002 (by decide +kernel) ⟨by decide, by decide⟩ hst rfl hl.1 rfl (Nat.le_of_ble_eq_true rfl) ⟨by show cells + 0 ≤ 601024; omega, by show slots + 0 ≤ 7293034; omega⟩ d_law_687 (fun H locs hst => ?_)
    refine lv_istore (lv' := [(5, .int 0), (0, .ref b), (1, .ref hE), (2, .ref hM), (3, .ref hO), (4, .int (nI i))]) hx hb d_law_690 hl (by decide) rfl (fun ls hl => ?_)
    refine lv_aload_n hx hb d_law_692 rfl (lv_at hl 3 rfl) ?_
    refine lv_aload_n hx hb d_law_693 rfl (lv_at hl 1 rfl) ?_
    refine lv_iload hx hb d_law_694 (lv_at hl 5 rfl) ?_
    refine lv_iconst (v := 1) hx hb d_law_696 (by decide) ?_
    refine lv_iadd hx hb d_law_697 ?_
    refine W.eq (g2 := F0 m 698 ls [.int (nI (i + 1)), .ref b, .ref hM]) (by rw [show nI i + 1 = nI (i + 1) from nI_add i 1]) ?_
    refine va_sld hx hb hX hbl hbA hst.2.2 (inb_in (inb_n (n := L) (by omega) (by omega))) d_law_698 ?_
    refine W.eq (g2 := F0 m 699 ls [.int (xs (i + 1)), .ref hM]) (by rw [nI_clamp (by omega)]) ?_
    refine lv_aload_n hx hb d_law_699 rfl (lv_at hl 1 rfl) ?_
    refine lv_iload hx hb d_law_700 (lv_at hl 5 rfl) ?_
    refine lv_iconst (v := 2) hx hb d_law_702 (by decide) ?_
    refine lv_iadd hx hb d_law_703 ?_
    refine W.eq (g2 := F0 m 704 ls [.int (nI (i + 2)), .ref b, .int (xs (i + 1)), .ref hM]) (by rw [show nI i + 2 = nI (i + 2) from nI_add i 2]) ?_
    refine va_sld hx hb hX hbl hbA hst.2.2 (inb_in (inb_n (n := L) (by omega) (by omega))) d_law_704 ?_
    refine W.eq (g2 := F0 m 705 ls [.int (xs (i + 2)), .int (xs (i + 1)), .ref hM]) (by rw [nI_clamp (by omega)]) ?_
    refine lv_aload_n hx hb d_law_705 rfl (lv_at hl 1 rfl) ?_
    refine lv_iload hx hb d_law_706 (lv_at hl 5 rfl) ?_
    refine lv_iconst (v := 3) hx hb d_law_708 (by decide) ?_
    refine lv_iadd hx hb d_law_709 ?_
    refine W.eq (g2 := F0 m 710 ls [.int (nI (i + 3)), .ref b, .int (xs (i + 2)), .int (xs (i + 1)), .ref hM]) (by rw [show nI i + 3 = nI (i + 3) from nI_add i 3]) ?_
    refine va_sld hx hb hX hbl hbA hst.2.2 (inb_in (inb_n (n := L) (by omega) (by omega))) d_law_710 ?_
    refine W.eq (g2 := F0 m 711 ls [.int (xs (i + 3)), .int (xs (i + 2)), .int (xs (i + 1)), .ref hM]) (by rw [nI_clamp (by omega)]) ?_
    obtain ⟨q0, hq0⟩ := fW_M (tk := tk) (hE := hE) (LE := LE) (LJ := LJ) (LV := LV) (LN := LN) (LS := LS) (LZ := LZ) (LQ := LQ) (hO := hO) (hM := hM) (LM := LM) (gE := gE) (gJ := gJ) (gV := gV) (aV := aV) (gN := gN) (aN := aN) (gS := gS) (gZ := gZ) (aZ := aZ) (dP := dP) (gQ := gQ) (dO := dO) (u := u) (nB := nB) (fO := (vp_updL fO 0 r.toInt64)) (gM := gM) (aM := aM)
    refine cl_vi (As := [.int (xs (i + 1)), .int (xs (i + 2)), .int (xs (i + 3))]) hx hb hml hown hG hg (fM (fun rw => cM_place l dC dI tk A hM LM gM aM rw n2 ((xs (i + 1))) ((xs (i + 2))) ((xs (i + 3))) _ _ hm2)) (cw_v 3 hG k_1375 k_1376 k_1377 k_14 k_1378 (by decide +kernel) ⟨by decide, by decide⟩) hst cM.1 hq0 rfl hl.1 rfl (Nat.le_of_ble_eq_true rfl) ⟨by show cells + 0 ≤ 601024; omega, by show slots + 0 ≤ 7293034; omega⟩ d_law_711 (fun H locs hst => ?_)
    refine lv_istore (lv' := [(6, .int r), (5, .int 0), (0, .ref b), (1, .ref hE), (2, .ref hM), (3, .ref hO), (4, .int (nI i))]) hx hb d_law_714 hl (by decide) rfl (fun ls hl => ?_)
    refine lv_aload_n hx hb d_law_716 rfl (lv_at hl 4 rfl) ?_
    obtain ⟨q0, hq0⟩ := fW_M (tk := tk) (hE := hE) (LE := LE) (LJ := LJ) (LV := LV) (LN := LN) (LS := LS) (LZ := LZ) (LQ := LQ) (hO := hO) (hM := hM) (LM := LM) (gE := gE) (gJ := gJ) (gV := gV) (aV := aV) (gN := gN) (aN := aN) (gS := gS) (gZ := gZ) (aZ := aZ) (dP := dP) (gQ := gQ) (dO := dO) (u := u) (nB := nB) (fO := (vp_updL fO 0 r.toInt64)) (gM := g2) (aM := aM)
    refine cl_vi (As := []) hx hb hml hown hG hg (fM (fun rw => cM_thrown l dC dI tk A hM LM g2 aM rw 0 _ rfl)) (cw_v 0 hG k_1153 k_1154 k_1155 k_14 k_1156 (by decide +kernel) ⟨by decide, by decide⟩) hst cM.1 hq0 rfl hl.1 rfl (Nat.le_of_ble_eq_true rfl) ⟨by show cells + 0 ≤ 601024; omega, by show slots + 0 ≤ 7293034; omega⟩ d_law_717 (fun H locs hst => ?_)
    refine W.eq (g2 := F0 m 720 ls [.int 0]) (by rw [h45]) ?_
    refine lv_iload hx hb d_law_720 (lv_at hl 1 rfl) ?_
    refine lv_icmp_eq (tgt := 727) hx hb d_law_722 (by decide) (fun _ => ?_) (fun h9 => absurd rfl h9)
    refine lv_iload hx hb d_law_727 (lv_at hl 1 rfl) ?_
    refine lv_if_ne (tgt := 744) hx hb d_law_729 (by decide) (fun h9 => absurd rfl h9) (fun _ => ?_)
    refine lv_aload_n hx hb d_law_732 rfl (lv_at hl 5 rfl) ?_
    refine lv_iconst (v := 0) hx hb d_law_733 (by decide) ?_
    refine ro_lald hx hb hg hst d_law_734 ?_
    refine W.eq (g2 := F0 m 735 ls [.long r.toInt64]) rfl ?_
    refine lv_iload hx hb d_law_735 (lv_at hl 0 rfl) ?_
    refine lv_i2l hx hb d_law_737 rfl ?_
    refine W.lcmp hx hb d_law_738 ?_
    rw [lcmp_0]
    refine lv_if_eq (tgt := 744) hx hb d_law_739 (by decide) (fun _ => ?_) (fun h9 => absurd rfl h9)
    refine lv_goto (tgt := 747) hx hb d_law_744 (by decide) ?_
    refine W.widen (k := cells + 14) (n := slots + 476) (by omega) (by omega) ?_
    exact kk _ _ _ _ _ _ _ _ _ _ _ _ _ _ (vp_updL fO 0 r.toInt64) g2 _ t _ _ _ hI2 ht hnB (lv_sub hl [2, 3, 4, 5, 6] rfl) hst
  · refine lv_aload_n hx hb d_law_667 rfl (lv_at hl 1 rfl) ?_
    refine lv_aload_n hx hb d_law_668 rfl (lv_at hl 0 rfl) ?_
    refine lv_iload hx hb d_law_669 (lv_at hl 4 rfl) ?_
    refine lv_iconst (v := 1) hx hb d_law_671 (by decide) ?_
    refine lv_iadd hx hb d_law_672 ?_
    refine W.eq (g2 := F0 m 673 ls [.int (nI (i + 1)), .ref b, .ref hE]) (by rw [show nI i + 1 = nI (i + 1) from nI_add i 1]) ?_
    refine va_sld hx hb hX hbl hbA hst.2.2 (inb_in (inb_n (n := L) (by omega) (by omega))) d_law_673 ?_
    refine W.eq (g2 := F0 m 674 ls [.int (xs (i + 1)), .ref hE]) (by rw [nI_clamp (by omega)]) ?_
    refine lv_aload_n hx hb d_law_674 rfl (lv_at hl 0 rfl) ?_
    refine lv_iload hx hb d_law_675 (lv_at hl 4 rfl) ?_
    refine lv_iconst (v := 2) hx hb d_law_677 (by decide) ?_
    refine lv_iadd hx hb d_law_678 ?_
    refine W.eq (g2 := F0 m 679 ls [.int (nI (i + 2)), .ref b, .int (xs (i + 1)), .ref hE]) (by rw [show nI i + 2 = nI (i + 2) from nI_add i 2]) ?_
    refine va_sld hx hb hX hbl hbA hst.2.2 (inb_in (inb_n (n := L) (by omega) (by omega))) d_law_679 ?_
    refine W.eq (g2 := F0 m 680 ls [.int (xs (i + 2)), .int (xs (i + 1)), .ref hE]) (by rw [nI_clamp (by omega)]) ?_
    refine lv_aload_n hx hb d_law_680 rfl (lv_at hl 0 rfl) ?_
    refine lv_iload hx hb d_law_681 (lv_at hl 4 rfl) ?_
    refine lv_iconst (v := 3) hx hb d_law_683 (by decide) ?_
    refine lv_iadd hx hb d_law_684 ?_
    refine W.eq (g2 := F0 m 685 ls [.int (nI (i + 3)), .ref b, .int (xs (i + 2)), .int (xs (i + 1)), .ref hE]) (by rw [show nI i + 3 = nI (i + 3) from nI_add i 3]) ?_
    refine va_sld hx hb hX hbl hbA hst.2.2 (inb_in (inb_n (n := L) (by omega) (by omega))) d_law_685 ?_
    refine W.eq (g2 := F0 m 686 ls [.int (xs (i + 3)), .int (xs (i + 2)), .int (xs (i + 1)), .ref hE]) (by rw [nI_clamp (by omega)]) ?_
    refine lv_aload_n hx hb d_law_686 rfl (lv_at hl 3 rfl) ?_
    refine cl_sw (As := [.ref hE, .int (xs (i + 1)), .int (xs (i + 2)), .int (xs (i + 3)), .ref hO]) (n := 5) hx hb hml hown hG hg (h_place_i l dC dI tk A hE LE LJ LV LN LS LZ LQ hO hM LM gE gJ gV aV gN aN gS gZ aZ dP gQ dO u nB fO gM aM (xs (i + 1)) (xs (i + 2)) (xs (i + 3)) hNT hm1) k_1000 k_1001 k_0 k_1002 (by decide +kernel) ⟨by decide, by decide⟩ hst rfl hl.1 rfl (Nat.le_of_ble_eq_true rfl) ⟨by show cells + 1 ≤ 601024; omega, by show slots + 6 ≤ 7293034; omega⟩ d_law_687 (fun H locs hst => ?_)
    refine lv_istore (lv' := [(5, .int 1), (0, .ref b), (1, .ref hE), (2, .ref hM), (3, .ref hO), (4, .int (nI i))]) hx hb d_law_690 hl (by decide) rfl (fun ls hl => ?_)
    refine lv_aload_n hx hb d_law_692 rfl (lv_at hl 3 rfl) ?_
    refine lv_aload_n hx hb d_law_693 rfl (lv_at hl 1 rfl) ?_
    refine lv_iload hx hb d_law_694 (lv_at hl 5 rfl) ?_
    refine lv_iconst (v := 1) hx hb d_law_696 (by decide) ?_
    refine lv_iadd hx hb d_law_697 ?_
    refine W.eq (g2 := F0 m 698 ls [.int (nI (i + 1)), .ref b, .ref hM]) (by rw [show nI i + 1 = nI (i + 1) from nI_add i 1]) ?_
    refine va_sld hx hb hX hbl hbA hst.2.2 (inb_in (inb_n (n := L) (by omega) (by omega))) d_law_698 ?_
    refine W.eq (g2 := F0 m 699 ls [.int (xs (i + 1)), .ref hM]) (by rw [nI_clamp (by omega)]) ?_
    refine lv_aload_n hx hb d_law_699 rfl (lv_at hl 1 rfl) ?_
    refine lv_iload hx hb d_law_700 (lv_at hl 5 rfl) ?_
    refine lv_iconst (v := 2) hx hb d_law_702 (by decide) ?_
    refine lv_iadd hx hb d_law_703 ?_
    refine W.eq (g2 := F0 m 704 ls [.int (nI (i + 2)), .ref b, .int (xs (i + 1)), .ref hM]) (by rw [show nI i + 2 = nI (i + 2) from nI_add i 2]) ?_
    refine va_sld hx hb hX hbl hbA hst.2.2 (inb_in (inb_n (n := L) (by omega) (by omega))) d_law_704 ?_
    refine W.eq (g2 := F0 m 705 ls [.int (xs (i + 2)), .int (xs (i + 1)), .ref hM]) (by rw [nI_clamp (by omega)]) ?_
    refine lv_aload_n hx hb d_law_705 rfl (lv_at hl 1 rfl) ?_
    refine lv_iload hx hb d_law_706 (lv_at hl 5 rfl) ?_
    refine lv_iconst (v := 3) hx hb d_law_708 (by decide) ?_
    refine lv_iadd hx hb d_law_709 ?_
    refine W.eq (g2 := F0 m 710 ls [.int (nI (i + 3)), .ref b, .int (xs (i + 2)), .int (xs (i + 1)), .ref hM]) (by rw [show nI i + 3 = nI (i + 3) from nI_add i 3]) ?_
    refine va_sld hx hb hX hbl hbA hst.2.2 (inb_in (inb_n (n := L) (by omega) (by omega))) d_law_710 ?_
    refine W.eq (g2 := F0 m 711 ls [.int (xs (i + 3)), .int (xs (i + 2)), .int (xs (i + 1)), .ref hM]) (by rw [nI_clamp (by omega)]) ?_
    obtain ⟨q0, hq0⟩ := fW_M (tk := tk) (hE := hE) (LE := LE) (LJ := LJ) (LV := LV) (LN := LN) (LS := LS) (LZ := LZ) (LQ := LQ) (hO := hO) (hM := hM) (LM := LM) (gE := gE) (gJ := gJ) (gV := gV) (aV := aV) (gN := gN) (aN := aN) (gS := gS) (gZ := gZ) (aZ := aZ) (dP := dP) (gQ := gQ) (dO := dO) (u := u) (nB := nB) (fO := fO) (gM := gM) (aM := aM)
    refine cl_vi (As := [.int (xs (i + 1)), .int (xs (i + 2)), .int (xs (i + 3))]) hx hb hml hown hG hg (fM (fun rw => cM_place l dC dI tk A hM LM gM aM rw n2 ((xs (i + 1))) ((xs (i + 2))) ((xs (i + 3))) _ _ hm2)) (cw_v 3 hG k_1375 k_1376 k_1377 k_14 k_1378 (by decide +kernel) ⟨by decide, by decide⟩) hst cM.1 hq0 rfl hl.1 rfl (Nat.le_of_ble_eq_true rfl) ⟨by show cells + 1 ≤ 601024; omega, by show slots + 6 ≤ 7293034; omega⟩ d_law_711 (fun H locs hst => ?_)
    refine lv_istore (lv' := [(6, .int r), (5, .int 1), (0, .ref b), (1, .ref hE), (2, .ref hM), (3, .ref hO), (4, .int (nI i))]) hx hb d_law_714 hl (by decide) rfl (fun ls hl => ?_)
    refine lv_aload_n hx hb d_law_716 rfl (lv_at hl 4 rfl) ?_
    obtain ⟨q0, hq0⟩ := fW_M (tk := tk) (hE := hE) (LE := LE) (LJ := LJ) (LV := LV) (LN := LN) (LS := LS) (LZ := LZ) (LQ := LQ) (hO := hO) (hM := hM) (LM := LM) (gE := gE) (gJ := gJ) (gV := gV) (aV := aV) (gN := gN) (aN := aN) (gS := gS) (gZ := gZ) (aZ := aZ) (dP := dP) (gQ := gQ) (dO := dO) (u := u) (nB := nB) (fO := fO) (gM := g2) (aM := aM)
    refine cl_vi (As := []) hx hb hml hown hG hg (fM (fun rw => cM_thrown l dC dI tk A hM LM g2 aM rw 0 _ rfl)) (cw_v 0 hG k_1153 k_1154 k_1155 k_14 k_1156 (by decide +kernel) ⟨by decide, by decide⟩) hst cM.1 hq0 rfl hl.1 rfl (Nat.le_of_ble_eq_true rfl) ⟨by show cells + 1 ≤ 601024; omega, by show slots + 6 ≤ 7293034; omega⟩ d_law_717 (fun H locs hst => ?_)
    refine W.eq (g2 := F0 m 720 ls [.int 1]) (by rw [h45]) ?_
    refine lv_iload hx hb d_law_720 (lv_at hl 1 rfl) ?_
    refine lv_icmp_eq (tgt := 727) hx hb d_law_722 (by decide) (fun _ => ?_) (fun h9 => absurd rfl h9)
    refine lv_iload hx hb d_law_727 (lv_at hl 1 rfl) ?_
    refine lv_if_ne (tgt := 744) hx hb d_law_729 (by decide) (fun _ => ?_) (fun h9 => absurd h9 (by decide))
    refine lv_goto (tgt := 747) hx hb d_law_744 (by decide) ?_
    refine W.widen (k := cells + 14) (n := slots + 476) (by omega) (by omega) ?_
    exact kk _ _ _ _ _ _ _ _ _ _ _ _ _ _ _ g2 _ t _ _ _ hI2 ht hnB (lv_sub hl [2, 3, 4, 5, 6] rfl) hst
