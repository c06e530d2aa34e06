theorem and15 (y : Int32) : ∃ k : Nat, k < 16 ∧ y &&& 15 = nI k := by
  have h : (y &&& 15).toBitVec.toNat ≤ 15 := by
    rw [Int32.toBitVec_and, BitVec.toNat_and]
    exact Nat.and_le_right
  refine ⟨(y &&& 15).toBitVec.toNat, by omega, ?_⟩
  apply Int32.toBitVec_inj.mp
  show _ = (Int32.ofNat _).toBitVec
  rw [Int32.toBitVec_ofNat']
  simp
set_option maxHeartbeats 4000000 in
theorem lw_loop {p : Program} {l : Launch} {e : Env} {s : State} {m : MethodId} {args : Array Value} {below : List Frame} {meth : Method} {c : Code} {Q : State → Prop} {dC : Nat → ClassId} {dI : Nat → Nat → Nat} {tk : Nat → ClassId} {A : Nat → Prop} {b L : Nat} {xs : Nat → Int32} {I : aI} {hE : Nat} {LE : Nat → Nat} {LJ : Nat → Nat} {LV : Nat → Nat} {LN : Nat → Nat} {LS : Nat → Nat} {LZ : Nat → Nat} {LQ : Nat → Nat} {hO : Nat} {hM : Nat} {LM : Nat → Nat} (hx : p.tables.exec = Jvm.exec) (hb : c.code = code) (hml : c.maxLocals = 7) (hown : s.vm.findClass "EditorServerLaw" = some m.cls) (hG : ∀ w ∈ gW, w.before args s = true) (hg : Gl dC dI tk A s) (hX : va_X b L xs s s.heap) (hbl : b < s.heap.size) (hbA : ¬ A b) (hNT : NoTr l) (hOK : lawOK I) (hsrc : LV 8 = LJ 0) (hL : L ≤ 2048)
    (hend : ∀ (H1 : Heap) (locs1 : List Loc) (ls1 : Array Slot) (ce sl : Nat), (∀ q ∈ locs1, A q.base) → ce ≤ 601024 → sl ≤ 7293034 → W p l e room_1 s m args below meth c H1 locs1 ce sl Q (F0 m 753 ls1 [])) : ∀ (d j : Nat), L < 4 * j + 4 * d + 4 → 4 * j ≤ 2048 → ∀ (gE : aG) (gJ : aG) (gV : aG) (aV : aA) (gN : aG) (aN : aA) (gS : aG) (gZ : aG) (aZ : aA) (dP : aP) (gQ : aG) (dO : aP) (u : sbS) (nB : Nat) (fO : Nat → Int64) (gM : aG) (aM : aA) (t : List Int32) (H : Heap) (locs : List Loc) (ls : Array Slot), I gE gJ gV aV gN aN gS gZ aZ dP gQ dO gM aM → sbT t u → nB = t.length → lv_has ls 7 [(0, .ref b), (1, .ref hE), (2, .ref hM), (3, .ref hO), (4, .int (nI (4 * j)))] → St dC dI A s.heap H locs (fWd tk hE LE LJ LV LN LS LZ LQ hO hM LM gE gJ gV aV gN aN gS gZ aZ dP gQ dO u nB fO gM aM) → W p l e room_1 s m args below meth c H locs (200 + 14 * j) (6000 + 476 * j) Q (F0 m 23 ls []) := by
  intro d
  induction d with
  | zero =>
    intro j hj hj2 gE gJ gV aV gN aN gS gZ aZ dP gQ dO u nB fO gM aM t H locs ls hI ht hnB hl hst
    refine lv_iload hx hb d_law_23 (lv_at hl 4 rfl) ?_
    refine lv_aload_n hx hb d_law_25 rfl (lv_at hl 0 rfl) ?_
    refine va_slen hx hb hX hbl hbA hst.2.2 d_law_26 ?_
    refine W.eq (g2 := F0 m 27 ls [.int (nI L), .int (nI (4 * j))]) rfl ?_
    refine lv_iconst (v := 4) hx hb d_law_27 (by decide) ?_
    refine lv_isub hx hb d_law_28 ?_
    have e1 : (nI L - nI 4).toInt = (L : Int) - 4 := pk_sub_toInt (by omega) (by omega)
    have e2 : (nI (4 * j)).toInt = ((4 * j : Nat) : Int) := nI_toInt (by omega)
    refine lv_icmp_gt (tgt := 753) hx hb d_law_29 (by decide) (fun _ => ?_) (fun h9 => absurd (show nI L - nI 4 < nI (4 * j) by rw [Int32.lt_iff_toInt_lt, e1, e2]; omega) h9)
    exact hend H locs ls _ _ hst.2.2.2.2 (by omega) (by omega)
  | succ d ih =>
    intro j hj hj2 gE gJ gV aV gN aN gS gZ aZ dP gQ dO u nB fO gM aM t H locs ls hI ht hnB hl hst
    refine lv_iload hx hb d_law_23 (lv_at hl 4 rfl) ?_
    refine lv_aload_n hx hb d_law_25 rfl (lv_at hl 0 rfl) ?_
    refine va_slen hx hb hX hbl hbA hst.2.2 d_law_26 ?_
    refine W.eq (g2 := F0 m 27 ls [.int (nI L), .int (nI (4 * j))]) rfl ?_
    refine lv_iconst (v := 4) hx hb d_law_27 (by decide) ?_
    refine lv_isub hx hb d_law_28 ?_
    have e1 : (nI L - nI 4).toInt = (L : Int) - 4 := pk_sub_toInt (by omega) (by omega)
    have e2 : (nI (4 * j)).toInt = ((4 * j : Nat) : Int) := nI_toInt (by omega)
    by_cases hc : 4 * j + 4 ≤ L
    · refine lv_icmp_gt (tgt := 753) hx hb d_law_29 (by decide) (fun h9 => absurd (show nI L - nI 4 < nI (4 * j) from h9) (by rw [Int32.lt_iff_toInt_lt, e1, e2]; omega)) (fun _ => ?_)
      refine lv_aload_n hx hb d_law_32 rfl (lv_at hl 0 rfl) ?_
      refine lv_iload hx hb d_law_33 (lv_at hl 4 rfl) ?_
      refine va_sld hx hb hX hbl hbA hst.2.2 (inb_in (inb_n (n := L) (by omega) (by omega))) d_law_35 ?_
      refine W.eq (g2 := F0 m 36 ls [.int (xs (4 * j))]) (by rw [nI_clamp (by omega)]) ?_
      refine lv_bipush (v := 15) hx hb d_law_36 (by decide) ?_
      refine lv_iand hx hb d_law_38 ?_
      obtain ⟨k, hk, ek⟩ := and15 (xs (4 * j))
      refine W.eq (g2 := F0 m 39 ls [.int (nI k)]) (by rw [ek]) ?_
      have k747 : ∀ (gE' : aG) (gJ' : aG) (gV' : aG) (aV' : aA) (gN' : aG) (aN' : aA) (gS' : aG) (gZ' : aG) (aZ' : aA) (dP' : aP) (gQ' : aG) (dO' : aP) (u' : sbS) (nB' : Nat) (fO' : Nat → Int64) (gM' : aG) (aM' : aA) (t' : List Int32) (H1 : Heap) (locs1 : List Loc) (ls1 : Array Slot), I gE' gJ' gV' aV' gN' aN' gS' gZ' aZ' dP' gQ' dO' gM' aM' → sbT t' u' → nB' = t'.length → lv_has ls1 7 [(0, .ref b), (1, .ref hE), (2, .ref hM), (3, .ref hO), (4, .int (nI (4 * j)))] → St dC dI A s.heap H1 locs1 (fWd tk hE LE LJ LV LN LS LZ LQ hO hM LM gE' gJ' gV' aV' gN' aN' gS' gZ' aZ' dP' gQ' dO' u' nB' fO' gM' aM') → W p l e room_1 s m args below meth c H1 locs1 (200 + 14 * j + 14) (6000 + 476 * j + 476) Q (F0 m 747 ls1 []) := by
        intro gE' gJ' gV' aV' gN' aN' gS' gZ' aZ' dP' gQ' dO' u' nB' fO' gM' aM' t' H locs ls hI ht hnB hl hst
        refine lv_iinc (k := 4) (v := (nI (4 * (j + 1)))) (lv' := [(4, .int (nI (4 * (j + 1)))), (0, .ref b), (1, .ref hE), (2, .ref hM), (3, .ref hO)]) hx hb d_law_747 hl rfl (show nI (4 * j) + 4 = nI (4 * (j + 1)) from nI_add (4 * j) 4) (by decide) rfl (fun ls hl => ?_)
        refine lv_goto (tgt := 23) hx hb d_law_750 (by decide) ?_
        refine W.cs (cells' := 200 + 14 * (j + 1)) (slots' := 6000 + 476 * (j + 1)) (by omega) (by omega) ?_
        exact ih (j + 1) (by omega) (by omega) _ _ _ _ _ _ _ _ _ _ _ _ _ _ _ _ _ t' H locs ls hI ht hnB (lv_sub hl [1, 2, 3, 4, 0] rfl) hst
      match k, hk with
      | 0, _ =>
        refine lv_tableIn (tgt := 112) hx hb d_law_39 (by decide) (by decide) rfl (by decide) ?_
        exact lc_0 hx hb hml hown hG hg hX hbl hbA hNT hOK hI t ht hnB hsrc (4 * j) hc hL (by omega) (by omega) hl hst k747
      | 1, _ =>
        refine lv_tableIn (tgt := 137) hx hb d_law_39 (by decide) (by decide) rfl (by decide) ?_
        exact lc_1 hx hb hml hown hG hg hX hbl hbA hNT hOK hI t ht hnB hsrc (4 * j) hc hL (by omega) (by omega) hl hst k747
      | 2, _ =>
        refine lv_tableIn (tgt := 150) hx hb d_law_39 (by decide) (by decide) rfl (by decide) ?_
        exact lc_2 hx hb hml hown hG hg hX hbl hbA hNT hOK hI t ht hnB hsrc (4 * j) hc hL (by omega) (by omega) hl hst k747
      | 3, _ =>
        refine lv_tableIn (tgt := 163) hx hb d_law_39 (by decide) (by decide) rfl (by decide) ?_
        exact lc_3 hx hb hml hown hG hg hX hbl hbA hNT hOK hI t ht hnB hsrc (4 * j) hc hL (by omega) (by omega) hl hst k747
      | 4, _ =>
        refine lv_tableIn (tgt := 176) hx hb d_law_39 (by decide) (by decide) rfl (by decide) ?_
        exact lc_4 hx hb hml hown hG hg hX hbl hbA hNT hOK hI t ht hnB hsrc (4 * j) hc hL (by omega) (by omega) hl hst k747
      | 5, _ =>
        refine lv_tableIn (tgt := 232) hx hb d_law_39 (by decide) (by decide) rfl (by decide) ?_
        exact lc_5 hx hb hml hown hG hg hX hbl hbA hNT hOK hI t ht hnB hsrc (4 * j) hc hL (by omega) (by omega) hl hst k747
      | 6, _ =>
        refine lv_tableIn (tgt := 288) hx hb d_law_39 (by decide) (by decide) rfl (by decide) ?_
        exact lc_6 hx hb hml hown hG hg hX hbl hbA hNT hOK hI t ht hnB hsrc (4 * j) hc hL (by omega) (by omega) hl hst k747
      | 7, _ =>
        refine lv_tableIn (tgt := 301) hx hb d_law_39 (by decide) (by decide) rfl (by decide) ?_
        exact lc_7 hx hb hml hown hG hg hX hbl hbA hNT hOK hI t ht hnB hsrc (4 * j) hc hL (by omega) (by omega) hl hst k747
      | 8, _ =>
        refine lv_tableIn (tgt := 369) hx hb d_law_39 (by decide) (by decide) rfl (by decide) ?_
        exact lc_8 hx hb hml hown hG hg hX hbl hbA hNT hOK hI t ht hnB hsrc (4 * j) hc hL (by omega) (by omega) hl hst k747
      | 9, _ =>
        refine lv_tableIn (tgt := 437) hx hb d_law_39 (by decide) (by decide) rfl (by decide) ?_
        exact lc_9 hx hb hml hown hG hg hX hbl hbA hNT hOK hI t ht hnB hsrc (4 * j) hc hL (by omega) (by omega) hl hst k747
      | 10, _ =>
        refine lv_tableIn (tgt := 450) hx hb d_law_39 (by decide) (by decide) rfl (by decide) ?_
        exact lc_10 hx hb hml hown hG hg hX hbl hbA hNT hOK hI t ht hnB hsrc (4 * j) hc hL (by omega) (by omega) hl hst k747
      | 11, _ =>
        refine lv_tableIn (tgt := 463) hx hb d_law_39 (by decide) (by decide) rfl (by decide) ?_
        exact lc_11 hx hb hml hown hG hg hX hbl hbA hNT hOK hI t ht hnB hsrc (4 * j) hc hL (by omega) (by omega) hl hst k747
      | 12, _ =>
        refine lv_tableIn (tgt := 531) hx hb d_law_39 (by decide) (by decide) rfl (by decide) ?_
        exact lc_12 hx hb hml hown hG hg hX hbl hbA hNT hOK hI t ht hnB hsrc (4 * j) hc hL (by omega) (by omega) hl hst k747
      | 13, _ =>
        refine lv_tableIn (tgt := 599) hx hb d_law_39 (by decide) (by decide) rfl (by decide) ?_
        exact lc_13 hx hb hml hown hG hg hX hbl hbA hNT hOK hI t ht hnB hsrc (4 * j) hc hL (by omega) (by omega) hl hst k747
      | 14, _ =>
        refine lv_tableIn (tgt := 667) hx hb d_law_39 (by decide) (by decide) rfl (by decide) ?_
        exact lc_14 hx hb hml hown hG hg hX hbl hbA hNT hOK hI t ht hnB hsrc (4 * j) hc hL (by omega) (by omega) hl hst k747
      | 15, _ =>
        refine lv_tableOut (tgt := 747) hx hb d_law_39 (by decide) (by decide) ?_
        refine W.widen (k := 200 + 14 * j + 14) (n := 6000 + 476 * j + 476) (by omega) (by omega) ?_
        exact k747 _ _ _ _ _ _ _ _ _ _ _ _ _ _ _ _ _ t H locs ls hI ht hnB hl hst
      | k + 16, h9 => omega
    · refine lv_icmp_gt (tgt := 753) hx hb d_law_29 (by decide) (fun _ => ?_) (fun h9 => absurd (show nI L - nI 4 < nI (4 * j) by rw [Int32.lt_iff_toInt_lt, e1, e2]; omega) h9)
      exact hend H locs ls _ _ hst.2.2.2.2 (by omega) (by omega)
