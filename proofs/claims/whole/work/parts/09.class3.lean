def mD_isNamed (n : Nat) (v2 : Int32) (gD : aG) (aD : aA) (gV : aG) (aV : aA) : Option (Int32) := bd (mV_sizeOf n v2 gV aV) (fun x1 => if x1 = (gD 2) then (lp (ε := Int32) (fun x5 => if (gD 2) ≤ x5 then (some (.inr (1))) else (bd (mV_letterOf n v2 x5 gV aV) (fun x11 => gd (inb x5 4) (lt (aD 0 x5.toNatClampNeg) (fun x15 => if x11 = x15 then (some (.inl (x5 + 1))) else (some (.inr (0)))))))) n 0) else (some (0)))
theorem d_D_isNamed_0 : decode prog_4_method_3_code 0 = .ok (.aload_n 1, 1) := by decide +kernel
theorem d_D_isNamed_1 : decode prog_4_method_3_code 1 = .ok (.iload_n 2, 1) := by decide +kernel
theorem d_D_isNamed_2 : decode prog_4_method_3_code 2 = .ok (.invokevirtual 26, 3) := by decide +kernel
theorem d_D_isNamed_5 : decode prog_4_method_3_code 5 = .ok (.aload_n 0, 1) := by decide +kernel
theorem d_D_isNamed_6 : decode prog_4_method_3_code 6 = .ok (.getfield 38, 3) := by decide +kernel
theorem d_D_isNamed_9 : decode prog_4_method_3_code 9 = .ok (.if_icmp .eq 5, 3) := by decide +kernel
theorem d_D_isNamed_12 : decode prog_4_method_3_code 12 = .ok (.iconst 0, 1) := by decide +kernel
theorem d_D_isNamed_13 : decode prog_4_method_3_code 13 = .ok (.ireturn, 1) := by decide +kernel
theorem d_D_isNamed_14 : decode prog_4_method_3_code 14 = .ok (.iconst 0, 1) := by decide +kernel
theorem d_D_isNamed_15 : decode prog_4_method_3_code 15 = .ok (.istore_n 3, 1) := by decide +kernel
theorem d_D_isNamed_16 : decode prog_4_method_3_code 16 = .ok (.iload_n 3, 1) := by decide +kernel
theorem d_D_isNamed_17 : decode prog_4_method_3_code 17 = .ok (.aload_n 0, 1) := by decide +kernel
theorem d_D_isNamed_18 : decode prog_4_method_3_code 18 = .ok (.getfield 38, 3) := by decide +kernel
theorem d_D_isNamed_21 : decode prog_4_method_3_code 21 = .ok (.if_icmp .ge 26, 3) := by decide +kernel
theorem d_D_isNamed_24 : decode prog_4_method_3_code 24 = .ok (.aload_n 1, 1) := by decide +kernel
theorem d_D_isNamed_25 : decode prog_4_method_3_code 25 = .ok (.iload_n 2, 1) := by decide +kernel
theorem d_D_isNamed_26 : decode prog_4_method_3_code 26 = .ok (.iload_n 3, 1) := by decide +kernel
theorem d_D_isNamed_27 : decode prog_4_method_3_code 27 = .ok (.invokevirtual 41, 3) := by decide +kernel
theorem d_D_isNamed_30 : decode prog_4_method_3_code 30 = .ok (.aload_n 0, 1) := by decide +kernel
theorem d_D_isNamed_31 : decode prog_4_method_3_code 31 = .ok (.getfield 9, 3) := by decide +kernel
theorem d_D_isNamed_34 : decode prog_4_method_3_code 34 = .ok (.iload_n 3, 1) := by decide +kernel
theorem d_D_isNamed_35 : decode prog_4_method_3_code 35 = .ok (.caload, 1) := by decide +kernel
theorem d_D_isNamed_36 : decode prog_4_method_3_code 36 = .ok (.if_icmp .eq 5, 3) := by decide +kernel
theorem d_D_isNamed_39 : decode prog_4_method_3_code 39 = .ok (.iconst 0, 1) := by decide +kernel
theorem d_D_isNamed_40 : decode prog_4_method_3_code 40 = .ok (.ireturn, 1) := by decide +kernel
theorem d_D_isNamed_41 : decode prog_4_method_3_code 41 = .ok (.iinc 3 1, 3) := by decide +kernel
theorem d_D_isNamed_44 : decode prog_4_method_3_code 44 = .ok (.goto (-28), 3) := by decide +kernel
theorem d_D_isNamed_47 : decode prog_4_method_3_code 47 = .ok (.iconst 1, 1) := by decide +kernel
theorem d_D_isNamed_48 : decode prog_4_method_3_code 48 = .ok (.ireturn, 1) := by decide +kernel
set_option maxHeartbeats 4000000 in
set_option maxRecDepth 100000 in
theorem cD_isNamed (l : Launch) (dC : Nat → ClassId) (dI : Nat → Nat → Nat) (tk : Nat → ClassId) (A : Nat → Prop) (hD : Nat) (LD : Nat → Nat) (gD : aG) (aD : aA) (hV : Nat) (LV : Nat → Nat) (gV : aG) (aV : aA) (rw : va_W) (n : Nat) (v2 : Int32) (r0 : Int32) (hm : mD_isNamed n v2 gD aD gV aV = some r0) : CtI l dC dI tk A ⟨"EditorServer$Document", "isNamed", "(LEditorServer$Values;I)Z"⟩ prog_4_method_3_code 4 (some .boolean) 1 23 [.ref hD, .ref hV, .int v2] (oW 5 hD ksD spD tk LD gD aD (oW 3 hV ksV spV tk LV gV aV rw)) r0 (oW 5 hD ksD spD tk LD gD aD (oW 3 hV ksV spV tk LV gV aV rw)) := by
  refine ent (by decide) (Nat.le_of_ble_eq_true rfl) ?_
  intro p e s m args below meth c hx hb hr hml hown hlk hG hg hst ls hl
  unfold mD_isNamed at hm
  have hl : lv_has ls 4 [(0, .ref hD), (1, .ref hV), (2, .int v2)] := hl
  refine lv_aload_n hx hb d_D_isNamed_0 rfl (lv_at hl 1 rfl) ?_
  refine lv_iload_n hx hb d_D_isNamed_1 rfl (lv_at hl 2 rfl) ?_
  obtain ⟨x1, hc2, hm⟩ := bd_u hm
  have hst := fr1 hst
  refine cl_vi hx hb hml hown hG hg (cV_sizeOf l dC dI tk A hV LV gV aV (oW 5 hD ksD spD tk LD gD aD rw) n v2 _ hc2) (cw_v 1 hG k_519 k_504 k_505 k_3 k_506 (by decide +kernel) ⟨by decide, by decide⟩) hst rfl oW_0 rfl hl.1 rfl (Nat.le_of_ble_eq_true rfl) ⟨Nat.le_refl 0, Nat.le_refl 0⟩ d_D_isNamed_2 (fun H locs hst => ?_)
  refine lv_aload_n hx hb d_D_isNamed_5 rfl (lv_at hl 0 rfl) ?_
  have hst := fr1 hst
  refine ro_geti hx hb hown hG hg cD hst 2 (by decide) rfl rfl k_149 d_D_isNamed_6 ?_
  refine lv_icmp_eq (tgt := 14) hx hb d_D_isNamed_9 (by decide) (fun h4 => ?_) (fun h4 => ?_)
  · have hm := it_t hm h4
    refine lv_iconst (v := 0) hx hb d_D_isNamed_14 (by decide) ?_
    refine lv_istore_n (lv' := [(3, .int 0), (0, .ref hD), (1, .ref hV), (2, .int v2)]) hx hb d_D_isNamed_15 rfl hl (by decide) rfl (fun ls hl => ?_)
    refine lp_u (fun x5 : Int32 => ∀ (H : Heap) (locs : List Loc) (ls : Array Slot), lv_has ls 4 [(0, .ref hD), (1, .ref hV), (2, .int v2), (3, .int x5)] → St dC dI A s.heap H locs (oW 5 hD ksD spD tk LD gD aD (oW 3 hV ksV spV tk LV gV aV rw)) → W p l e (rmo 1 23) s m args below meth c H locs 0 0 (MQ below (QI dC dI A r0 (oW 5 hD ksD spD tk LD gD aD (oW 3 hV ksV spV tk LV gV aV rw))) args s 0 0 A) (F0 m 16 ls [])) ?_ n 0 hm _ _ _ (lv_sub hl [1, 2, 3, 0] rfl) hst
    rintro x5 r9 hm hJ70 hR8 H locs ls hl hst
    have hJ7 := fun y0 (e : r9 = .inl y0) => hJ70 y0 e
    refine lv_iload_n hx hb d_D_isNamed_16 rfl (lv_at hl 3 rfl) ?_
    refine lv_aload_n hx hb d_D_isNamed_17 rfl (lv_at hl 0 rfl) ?_
    refine ro_geti hx hb hown hG hg cD hst 2 (by decide) rfl rfl k_149 d_D_isNamed_18 ?_
    refine lv_icmp_ge (tgt := 47) hx hb d_D_isNamed_21 (by decide) (fun h10 => ?_) (fun h10 => ?_)
    · have hm := it_t hm h10
      refine lv_iconst (v := 1) hx hb d_D_isNamed_47 (by decide) ?_
      have he := (hR8 _ (Option.some.inj hm).symm)
      cases he
      exact rt_i hx hb hr hlk (by decide) hst rfl d_D_isNamed_48
    · have hm := it_f hm h10
      refine lv_aload_n hx hb d_D_isNamed_24 rfl (lv_at hl 1 rfl) ?_
      refine lv_iload_n hx hb d_D_isNamed_25 rfl (lv_at hl 2 rfl) ?_
      refine lv_iload_n hx hb d_D_isNamed_26 rfl (lv_at hl 3 rfl) ?_
      obtain ⟨x11, hc12, hm⟩ := bd_u hm
      have hst := fr1 hst
      refine cl_vi hx hb hml hown hG hg (cV_letterOf l dC dI tk A hV LV gV aV (oW 5 hD ksD spD tk LD gD aD rw) n v2 x5 _ hc12) (cw_v 2 hG k_520 k_521 k_522 k_3 k_523 (by decide +kernel) ⟨by decide, by decide⟩) hst rfl oW_0 rfl hl.1 rfl (Nat.le_of_ble_eq_true rfl) ⟨Nat.le_refl 0, Nat.le_refl 0⟩ d_D_isNamed_27 (fun H locs hst => ?_)
      refine lv_aload_n hx hb d_D_isNamed_30 rfl (lv_at hl 0 rfl) ?_
      have hst := fr1 hst
      refine ro_geta hx hb hown hG hg cD hst 0 0 (by decide) rfl rfl k_144 d_D_isNamed_31 ?_
      refine lv_iload_n hx hb d_D_isNamed_34 rfl (lv_at hl 3 rfl) ?_
      obtain ⟨hn14, hm⟩ := gd_u hm
      refine ro_cald hx hb hg hst 0 rfl hn14 d_D_isNamed_35 ?_
      refine lv_topi (fun x15 ex15 => ?_)
      have hm := lt_u hm x15 ex15
      refine lv_icmp_eq (tgt := 41) hx hb d_D_isNamed_36 (by decide) (fun h16 => ?_) (fun h16 => ?_)
      · have hm := it_t hm h16
        refine lv_iinc (k := 3) (v := (x5 + 1)) (lv' := [(3, .int (x5 + 1)), (0, .ref hD), (1, .ref hV), (2, .int v2)]) hx hb d_D_isNamed_41 hl rfl (by rfl) (by decide) rfl (fun ls hl => ?_)
        refine lv_goto (tgt := 16) hx hb d_D_isNamed_44 (by decide) ?_
        exact hJ7 (x5 + 1) (Option.some.inj hm).symm _ _ _ (lv_sub hl [1, 2, 3, 0] rfl) hst
      · have hm := it_f hm h16
        refine lv_iconst (v := 0) hx hb d_D_isNamed_39 (by decide) ?_
        have he := (hR8 _ (Option.some.inj hm).symm)
        cases he
        exact rt_i hx hb hr hlk (by decide) hst rfl d_D_isNamed_40
  · have hm := it_f hm h4
    refine lv_iconst (v := 0) hx hb d_D_isNamed_12 (by decide) ?_
    have he := (Option.some.inj hm)
    cases he
    exact rt_i hx hb hr hlk (by decide) hst rfl d_D_isNamed_13
def mK_keepDetails (n : Nat) (v2 : Int32) (gK : aG) (aK : aA) (gV : aG) (aV : aA) : Option (aG) := if (gK 2) = 1 then (bd (mV_item n v2 1 gV aV) (fun x11 => bd (mV_letterOf n x11 0 gV aV) (fun x14 => gd (okc x14) (lt (va_up gK 3 x14) (fun g18 => some (g18)))))) else (if (gK 2) = 2 then (bd (mV_numberAt n v2 1 gV aV) (fun x3 => lt (va_up gK 4 x3) (fun g6 => bd (mV_numberAt n v2 2 gV aV) (fun x7 => lt (va_up g6 5 x7) (fun g10 => some (g10)))))) else (some (gK)))
theorem d_K_keepDetails_0 : decode prog_3_method_2_code 0 = .ok (.aload_n 0, 1) := by decide +kernel
theorem d_K_keepDetails_1 : decode prog_3_method_2_code 1 = .ok (.getfield 18, 3) := by decide +kernel
theorem d_K_keepDetails_4 : decode prog_3_method_2_code 4 = .ok (.iconst 1, 1) := by decide +kernel
theorem d_K_keepDetails_5 : decode prog_3_method_2_code 5 = .ok (.if_icmp .ne 21, 3) := by decide +kernel
theorem d_K_keepDetails_8 : decode prog_3_method_2_code 8 = .ok (.aload_n 0, 1) := by decide +kernel
theorem d_K_keepDetails_9 : decode prog_3_method_2_code 9 = .ok (.aload_n 1, 1) := by decide +kernel
theorem d_K_keepDetails_10 : decode prog_3_method_2_code 10 = .ok (.aload_n 1, 1) := by decide +kernel
theorem d_K_keepDetails_11 : decode prog_3_method_2_code 11 = .ok (.iload_n 2, 1) := by decide +kernel
theorem d_K_keepDetails_12 : decode prog_3_method_2_code 12 = .ok (.iconst 1, 1) := by decide +kernel
theorem d_K_keepDetails_13 : decode prog_3_method_2_code 13 = .ok (.invokevirtual 22, 3) := by decide +kernel
theorem d_K_keepDetails_16 : decode prog_3_method_2_code 16 = .ok (.iconst 0, 1) := by decide +kernel
theorem d_K_keepDetails_17 : decode prog_3_method_2_code 17 = .ok (.invokevirtual 28, 3) := by decide +kernel
theorem d_K_keepDetails_20 : decode prog_3_method_2_code 20 = .ok (.putfield 32, 3) := by decide +kernel
theorem d_K_keepDetails_23 : decode prog_3_method_2_code 23 = .ok (.goto 31, 3) := by decide +kernel
theorem d_K_keepDetails_26 : decode prog_3_method_2_code 26 = .ok (.aload_n 0, 1) := by decide +kernel
theorem d_K_keepDetails_27 : decode prog_3_method_2_code 27 = .ok (.getfield 18, 3) := by decide +kernel
theorem d_K_keepDetails_30 : decode prog_3_method_2_code 30 = .ok (.iconst 2, 1) := by decide +kernel
theorem d_K_keepDetails_31 : decode prog_3_method_2_code 31 = .ok (.if_icmp .ne 23, 3) := by decide +kernel
theorem d_K_keepDetails_34 : decode prog_3_method_2_code 34 = .ok (.aload_n 0, 1) := by decide +kernel
theorem d_K_keepDetails_35 : decode prog_3_method_2_code 35 = .ok (.aload_n 1, 1) := by decide +kernel
theorem d_K_keepDetails_36 : decode prog_3_method_2_code 36 = .ok (.iload_n 2, 1) := by decide +kernel
theorem d_K_keepDetails_37 : decode prog_3_method_2_code 37 = .ok (.iconst 1, 1) := by decide +kernel
theorem d_K_keepDetails_38 : decode prog_3_method_2_code 38 = .ok (.invokevirtual 36, 3) := by decide +kernel
theorem d_K_keepDetails_41 : decode prog_3_method_2_code 41 = .ok (.putfield 39, 3) := by decide +kernel
theorem d_K_keepDetails_44 : decode prog_3_method_2_code 44 = .ok (.aload_n 0, 1) := by decide +kernel
theorem d_K_keepDetails_45 : decode prog_3_method_2_code 45 = .ok (.aload_n 1, 1) := by decide +kernel
theorem d_K_keepDetails_46 : decode prog_3_method_2_code 46 = .ok (.iload_n 2, 1) := by decide +kernel
theorem d_K_keepDetails_47 : decode prog_3_method_2_code 47 = .ok (.iconst 2, 1) := by decide +kernel
theorem d_K_keepDetails_48 : decode prog_3_method_2_code 48 = .ok (.invokevirtual 36, 3) := by decide +kernel
theorem d_K_keepDetails_51 : decode prog_3_method_2_code 51 = .ok (.putfield 42, 3) := by decide +kernel
theorem d_K_keepDetails_54 : decode prog_3_method_2_code 54 = .ok (.return_, 1) := by decide +kernel
set_option maxHeartbeats 4000000 in
set_option maxRecDepth 100000 in
theorem cK_keepDetails (l : Launch) (dC : Nat → ClassId) (dI : Nat → Nat → Nat) (tk : Nat → ClassId) (A : Nat → Prop) (hK : Nat) (LK : Nat → Nat) (gK : aG) (aK : aA) (hV : Nat) (LV : Nat → Nat) (gV : aG) (aV : aA) (rw : va_W) (n : Nat) (v2 : Int32) (ogK : aG) (hm : mK_keepDetails n v2 gK aK gV aV = some ogK) : CtV l dC dI tk A ⟨"EditorServer$Asked", "keepDetails", "(LEditorServer$Values;I)V"⟩ prog_3_method_2_code 3 2 46 [.ref hK, .ref hV, .int v2] (oW 8 hK ksK spK tk LK gK aK (oW 3 hV ksV spV tk LV gV aV rw)) (oW 8 hK ksK spK tk LK ogK aK (oW 3 hV ksV spV tk LV gV aV rw)) := by
  refine ent (by decide) (Nat.le_of_ble_eq_true rfl) ?_
  intro p e s m args below meth c hx hb hr hml hown hlk hG hg hst ls hl
  unfold mK_keepDetails at hm
  have hl : lv_has ls 3 [(0, .ref hK), (1, .ref hV), (2, .int v2)] := hl
  refine lv_aload_n hx hb d_K_keepDetails_0 rfl (lv_at hl 0 rfl) ?_
  refine ro_geti hx hb hown hG hg cK hst 2 (by decide) rfl rfl k_194 d_K_keepDetails_1 ?_
  refine lv_iconst (v := 1) hx hb d_K_keepDetails_4 (by decide) ?_
  refine lv_icmp_ne (tgt := 26) hx hb d_K_keepDetails_5 (by decide) (fun h1 => ?_) (fun h1 => ?_)
  · have hm := it_f hm h1
    refine lv_aload_n hx hb d_K_keepDetails_26 rfl (lv_at hl 0 rfl) ?_
    refine ro_geti hx hb hown hG hg cK hst 2 (by decide) rfl rfl k_194 d_K_keepDetails_27 ?_
    refine lv_iconst (v := 2) hx hb d_K_keepDetails_30 (by decide) ?_
    refine lv_icmp_ne (tgt := 54) hx hb d_K_keepDetails_31 (by decide) (fun h2 => ?_) (fun h2 => ?_)
    · have hm := it_f hm h2
      have he := (Option.some.inj hm)
      cases he
      exact rt_v hx hb hr hlk hst d_K_keepDetails_54
    · have hm := it_t hm h2
      refine lv_aload_n hx hb d_K_keepDetails_34 rfl (lv_at hl 0 rfl) ?_
      refine lv_aload_n hx hb d_K_keepDetails_35 rfl (lv_at hl 1 rfl) ?_
      refine lv_iload_n hx hb d_K_keepDetails_36 rfl (lv_at hl 2 rfl) ?_
      refine lv_iconst (v := 1) hx hb d_K_keepDetails_37 (by decide) ?_
      obtain ⟨x3, hc4, hm⟩ := bd_u hm
      have hst := fr1 hst
      refine cl_vi hx hb hml hown hG hg (cV_numberAt l dC dI tk A hV LV gV aV (oW 8 hK ksK spK tk LK gK aK rw) n v2 1 _ hc4) (cw_v 2 hG k_550 k_551 k_552 k_3 k_553 (by decide +kernel) ⟨by decide, by decide⟩) hst rfl oW_0 rfl hl.1 rfl (Nat.le_of_ble_eq_true rfl) ⟨Nat.le_refl 0, Nat.le_refl 0⟩ d_K_keepDetails_38 (fun H locs hst => ?_)
      have hst := fr1 hst
      refine ro_puti hx hb hown hG hg cK hst 4 (by decide) rfl rfl rfl rfl rfl k_197 d_K_keepDetails_41 (fun g6 H locs eg6 hst => ?_)
      have hm := lt_u hm g6 eg6
      refine lv_aload_n hx hb d_K_keepDetails_44 rfl (lv_at hl 0 rfl) ?_
      refine lv_aload_n hx hb d_K_keepDetails_45 rfl (lv_at hl 1 rfl) ?_
      refine lv_iload_n hx hb d_K_keepDetails_46 rfl (lv_at hl 2 rfl) ?_
      refine lv_iconst (v := 2) hx hb d_K_keepDetails_47 (by decide) ?_
      obtain ⟨x7, hc8, hm⟩ := bd_u hm
      have hst := fr1 hst
      refine cl_vi hx hb hml hown hG hg (cV_numberAt l dC dI tk A hV LV gV aV (oW 8 hK ksK spK tk LK g6 aK rw) n v2 2 _ hc8) (cw_v 2 hG k_550 k_551 k_552 k_3 k_553 (by decide +kernel) ⟨by decide, by decide⟩) hst rfl oW_0 rfl hl.1 rfl (Nat.le_of_ble_eq_true rfl) ⟨Nat.le_refl 0, Nat.le_refl 0⟩ d_K_keepDetails_48 (fun H locs hst => ?_)
      have hst := fr1 hst
      refine ro_puti hx hb hown hG hg cK hst 5 (by decide) rfl rfl rfl rfl rfl k_198 d_K_keepDetails_51 (fun g10 H locs eg10 hst => ?_)
      have hm := lt_u hm g10 eg10
      have he := (Option.some.inj hm)
      cases he
      exact rt_v hx hb hr hlk hst d_K_keepDetails_54
  · have hm := it_t hm h1
    refine lv_aload_n hx hb d_K_keepDetails_8 rfl (lv_at hl 0 rfl) ?_
    refine lv_aload_n hx hb d_K_keepDetails_9 rfl (lv_at hl 1 rfl) ?_
    refine lv_aload_n hx hb d_K_keepDetails_10 rfl (lv_at hl 1 rfl) ?_
    refine lv_iload_n hx hb d_K_keepDetails_11 rfl (lv_at hl 2 rfl) ?_
    refine lv_iconst (v := 1) hx hb d_K_keepDetails_12 (by decide) ?_
    obtain ⟨x11, hc12, hm⟩ := bd_u hm
    have hst := fr1 hst
    refine cl_vi hx hb hml hown hG hg (cV_item l dC dI tk A hV LV gV aV (oW 8 hK ksK spK tk LK gK aK rw) n v2 1 _ hc12) (cw_v 2 hG k_548 k_499 k_500 k_3 k_501 (by decide +kernel) ⟨by decide, by decide⟩) hst rfl oW_0 rfl hl.1 rfl (Nat.le_of_ble_eq_true rfl) ⟨Nat.le_refl 0, Nat.le_refl 0⟩ d_K_keepDetails_13 (fun H locs hst => ?_)
    refine lv_iconst (v := 0) hx hb d_K_keepDetails_16 (by decide) ?_
    obtain ⟨x14, hc15, hm⟩ := bd_u hm
    refine cl_vi hx hb hml hown hG hg (cV_letterOf l dC dI tk A hV LV gV aV (oW 8 hK ksK spK tk LK gK aK rw) n x11 0 _ hc15) (cw_v 2 hG k_549 k_521 k_522 k_3 k_523 (by decide +kernel) ⟨by decide, by decide⟩) hst rfl oW_0 rfl hl.1 rfl (Nat.le_of_ble_eq_true rfl) ⟨Nat.le_refl 0, Nat.le_refl 0⟩ d_K_keepDetails_17 (fun H locs hst => ?_)
    have hst := fr1 hst
    obtain ⟨hn17, hm⟩ := gd_u hm
    refine ro_puti hx hb hown hG hg cK hst 3 (by decide) rfl rfl rfl (okc_n hn17).1 (okc_n hn17).2 k_196 d_K_keepDetails_20 (fun g18 H locs eg18 hst => ?_)
    have hm := lt_u hm g18 eg18
    refine lv_goto (tgt := 54) hx hb d_K_keepDetails_23 (by decide) ?_
    have he := (Option.some.inj hm)
    cases he
    exact rt_v hx hb hr hlk hst d_K_keepDetails_54
def mK_workOut (n : Nat) (gK : aG) (aK : aA) (gT : aG) (aT : aA) : Option (Int32) := if (gK 2) = 0 then (some ((gT 1))) else (if (gK 2) = 1 then (bd (mT_find n (gK 3) gT aT) (fun x3 => some (x3))) else (if (gK 2) = 2 then (bd (mT_placeOf n (gK 4) (gK 5) gT aT) (fun x7 => bd (mT_characterAt n x7 gT aT) (fun x10 => some (x10)))) else (bd (mT_lineCount n gT aT) (fun x13 => some (x13)))))
theorem d_K_workOut_0 : decode prog_3_method_3_code 0 = .ok (.aload_n 0, 1) := by decide +kernel
theorem d_K_workOut_1 : decode prog_3_method_3_code 1 = .ok (.getfield 18, 3) := by decide +kernel
theorem d_K_workOut_4 : decode prog_3_method_3_code 4 = .ok (.tableswitch 71 0 2 #[28, 36, 48], 28) := by decide +kernel
theorem d_K_workOut_32 : decode prog_3_method_3_code 32 = .ok (.aload_n 0, 1) := by decide +kernel
theorem d_K_workOut_33 : decode prog_3_method_3_code 33 = .ok (.getfield 12, 3) := by decide +kernel
theorem d_K_workOut_36 : decode prog_3_method_3_code 36 = .ok (.getfield 45, 3) := by decide +kernel
theorem d_K_workOut_39 : decode prog_3_method_3_code 39 = .ok (.ireturn, 1) := by decide +kernel
theorem d_K_workOut_40 : decode prog_3_method_3_code 40 = .ok (.aload_n 0, 1) := by decide +kernel
theorem d_K_workOut_41 : decode prog_3_method_3_code 41 = .ok (.getfield 12, 3) := by decide +kernel
theorem d_K_workOut_44 : decode prog_3_method_3_code 44 = .ok (.aload_n 0, 1) := by decide +kernel
theorem d_K_workOut_45 : decode prog_3_method_3_code 45 = .ok (.getfield 32, 3) := by decide +kernel
theorem d_K_workOut_48 : decode prog_3_method_3_code 48 = .ok (.invokevirtual 48, 3) := by decide +kernel
theorem d_K_workOut_51 : decode prog_3_method_3_code 51 = .ok (.ireturn, 1) := by decide +kernel
theorem d_K_workOut_52 : decode prog_3_method_3_code 52 = .ok (.aload_n 0, 1) := by decide +kernel
theorem d_K_workOut_53 : decode prog_3_method_3_code 53 = .ok (.getfield 12, 3) := by decide +kernel
theorem d_K_workOut_56 : decode prog_3_method_3_code 56 = .ok (.aload_n 0, 1) := by decide +kernel
theorem d_K_workOut_57 : decode prog_3_method_3_code 57 = .ok (.getfield 12, 3) := by decide +kernel
theorem d_K_workOut_60 : decode prog_3_method_3_code 60 = .ok (.aload_n 0, 1) := by decide +kernel
theorem d_K_workOut_61 : decode prog_3_method_3_code 61 = .ok (.getfield 39, 3) := by decide +kernel
theorem d_K_workOut_64 : decode prog_3_method_3_code 64 = .ok (.aload_n 0, 1) := by decide +kernel
theorem d_K_workOut_65 : decode prog_3_method_3_code 65 = .ok (.getfield 42, 3) := by decide +kernel
theorem d_K_workOut_68 : decode prog_3_method_3_code 68 = .ok (.invokevirtual 52, 3) := by decide +kernel
theorem d_K_workOut_71 : decode prog_3_method_3_code 71 = .ok (.invokevirtual 55, 3) := by decide +kernel
theorem d_K_workOut_74 : decode prog_3_method_3_code 74 = .ok (.ireturn, 1) := by decide +kernel
theorem d_K_workOut_75 : decode prog_3_method_3_code 75 = .ok (.aload_n 0, 1) := by decide +kernel
theorem d_K_workOut_76 : decode prog_3_method_3_code 76 = .ok (.getfield 12, 3) := by decide +kernel
theorem d_K_workOut_79 : decode prog_3_method_3_code 79 = .ok (.invokevirtual 59, 3) := by decide +kernel
theorem d_K_workOut_82 : decode prog_3_method_3_code 82 = .ok (.ireturn, 1) := by decide +kernel
set_option maxHeartbeats 4000000 in
set_option maxRecDepth 100000 in
theorem cK_workOut (l : Launch) (dC : Nat → ClassId) (dI : Nat → Nat → Nat) (tk : Nat → ClassId) (A : Nat → Prop) (hK : Nat) (LK : Nat → Nat) (gK : aG) (aK : aA) (LT : Nat → Nat) (gT : aG) (aT : aA) (rw : va_W) (n : Nat) (r0 : Int32) (hm : mK_workOut n gK aK gT aT = some r0) : CtI l dC dI tk A ⟨"EditorServer$Asked", "workOut", "()I"⟩ prog_3_method_3_code 1 (some .int) 2 47 [.ref hK] (oW 8 hK ksK spK tk LK gK aK (oW 6 (LK 0) ksT spT tk LT gT aT rw)) r0 (oW 8 hK ksK spK tk LK gK aK (oW 6 (LK 0) ksT spT tk LT gT aT rw)) := by
  refine ent (by decide) (Nat.le_of_ble_eq_true rfl) ?_
  intro p e s m args below meth c hx hb hr hml hown hlk hG hg hst ls hl
  unfold mK_workOut at hm
  have hl : lv_has ls 1 [(0, .ref hK)] := hl
  refine lv_aload_n hx hb d_K_workOut_0 rfl (lv_at hl 0 rfl) ?_
  refine ro_geti hx hb hown hG hg cK hst 2 (by decide) rfl rfl k_194 d_K_workOut_1 ?_
  by_cases h1 : (gK 2) = 0
  · have hm := it_t hm h1
    refine lv_tableIn (off := 28) (tgt := 32) hx hb d_K_workOut_4 (by rw [h1]; decide) (by rw [h1]; decide) (by rw [h1]; rfl) (by decide) ?_
    refine lv_aload_n hx hb d_K_workOut_32 rfl (lv_at hl 0 rfl) ?_
    refine ro_geta hx hb hown hG hg cK hst 0 0 (by decide) rfl rfl k_190 d_K_workOut_33 ?_
    have hst := fr1 hst
    refine rn_geti hx hb hown hG hg cT hst 1 (by decide) rfl rfl t_129 d_K_workOut_36 ?_
    have hst := fr1 hst
    have he := (Option.some.inj hm)
    cases he
    exact rt_i hx hb hr hlk rfl hst rfl d_K_workOut_39
  have hm := it_f hm h1
  by_cases h2 : (gK 2) = 1
  · have hm := it_t hm h2
    refine lv_tableIn (off := 36) (tgt := 40) hx hb d_K_workOut_4 (by rw [h2]; decide) (by rw [h2]; decide) (by rw [h2]; rfl) (by decide) ?_
    refine lv_aload_n hx hb d_K_workOut_40 rfl (lv_at hl 0 rfl) ?_
    refine ro_geta hx hb hown hG hg cK hst 0 0 (by decide) rfl rfl k_190 d_K_workOut_41 ?_
    refine lv_aload_n hx hb d_K_workOut_44 rfl (lv_at hl 0 rfl) ?_
    refine ro_geti hx hb hown hG hg cK hst 3 (by decide) rfl rfl k_196 d_K_workOut_45 ?_
    obtain ⟨x3, hc4, hm⟩ := bd_u hm
    have hst := fr1 hst
    refine cl_vi hx hb hml hown hG hg (cT_find l dC dI tk A (LK 0) LT gT aT (oW 8 hK ksK spK tk LK gK aK rw) n (gK 3) _ hc4) (cw_v 1 hG k_753 k_754 k_755 k_5 k_756 (by decide +kernel) ⟨by decide, by decide⟩) hst rfl oW_0 rfl hl.1 rfl (Nat.le_of_ble_eq_true rfl) ⟨Nat.le_refl 0, Nat.le_refl 0⟩ d_K_workOut_48 (fun H locs hst => ?_)
    have hst := fr1 hst
    have he := (Option.some.inj hm)
    cases he
    exact rt_i hx hb hr hlk rfl hst rfl d_K_workOut_51
  have hm := it_f hm h2
  by_cases h6 : (gK 2) = 2
  · have hm := it_t hm h6
    refine lv_tableIn (off := 48) (tgt := 52) hx hb d_K_workOut_4 (by rw [h6]; decide) (by rw [h6]; decide) (by rw [h6]; rfl) (by decide) ?_
    refine lv_aload_n hx hb d_K_workOut_52 rfl (lv_at hl 0 rfl) ?_
    refine ro_geta hx hb hown hG hg cK hst 0 0 (by decide) rfl rfl k_190 d_K_workOut_53 ?_
    refine lv_aload_n hx hb d_K_workOut_56 rfl (lv_at hl 0 rfl) ?_
    refine ro_geta hx hb hown hG hg cK hst 0 0 (by decide) rfl rfl k_190 d_K_workOut_57 ?_
    refine lv_aload_n hx hb d_K_workOut_60 rfl (lv_at hl 0 rfl) ?_
    refine ro_geti hx hb hown hG hg cK hst 4 (by decide) rfl rfl k_197 d_K_workOut_61 ?_
    refine lv_aload_n hx hb d_K_workOut_64 rfl (lv_at hl 0 rfl) ?_
    refine ro_geti hx hb hown hG hg cK hst 5 (by decide) rfl rfl k_198 d_K_workOut_65 ?_
    obtain ⟨x7, hc8, hm⟩ := bd_u hm
    have hst := fr1 hst
    refine cl_vi hx hb hml hown hG hg (cT_placeOf l dC dI tk A (LK 0) LT gT aT (oW 8 hK ksK spK tk LK gK aK rw) n (gK 4) (gK 5) _ hc8) (cw_v 2 hG k_757 k_614 k_615 k_5 k_616 (by decide +kernel) ⟨by decide, by decide⟩) hst rfl oW_0 rfl hl.1 rfl (Nat.le_of_ble_eq_true rfl) ⟨Nat.le_refl 0, Nat.le_refl 0⟩ d_K_workOut_68 (fun H locs hst => ?_)
    obtain ⟨x10, hc11, hm⟩ := bd_u hm
    refine cl_vi hx hb hml hown hG hg (cT_characterAt l dC dI tk A (LK 0) LT gT aT (oW 8 hK ksK spK tk LK gK aK rw) n x7 _ hc11) (cw_v 1 hG k_758 k_759 k_760 k_5 k_761 (by decide +kernel) ⟨by decide, by decide⟩) hst rfl oW_0 rfl hl.1 rfl (Nat.le_of_ble_eq_true rfl) ⟨Nat.le_refl 0, Nat.le_refl 0⟩ d_K_workOut_71 (fun H locs hst => ?_)
    have hst := fr1 hst
    have he := (Option.some.inj hm)
    cases he
    exact rt_i hx hb hr hlk rfl hst rfl d_K_workOut_74
  have hm := it_f hm h6
  refine lv_tableOut (tgt := 75) hx hb d_K_workOut_4 (sw_out3 h1 h2 h6) (by decide) ?_
  refine lv_aload_n hx hb d_K_workOut_75 rfl (lv_at hl 0 rfl) ?_
  refine ro_geta hx hb hown hG hg cK hst 0 0 (by decide) rfl rfl k_190 d_K_workOut_76 ?_
  obtain ⟨x13, hc14, hm⟩ := bd_u hm
  have hst := fr1 hst
  refine cl_vi hx hb hml hown hG hg (cT_lineCount l dC dI tk A (LK 0) LT gT aT (oW 8 hK ksK spK tk LK gK aK rw) n _ hc14) (cw_v 0 hG k_762 k_763 k_764 k_5 k_765 (by decide +kernel) ⟨by decide, by decide⟩) hst rfl oW_0 rfl hl.1 rfl (Nat.le_of_ble_eq_true rfl) ⟨Nat.le_refl 0, Nat.le_refl 0⟩ d_K_workOut_79 (fun H locs hst => ?_)
  have hst := fr1 hst
  have he := (Option.some.inj hm)
  cases he
  exact rt_i hx hb hr hlk rfl hst rfl d_K_workOut_82
def mF_begin (n : Nat) (gF : aG) (aF : aA) : Option (aG) := lt (va_up gF 1 0) (fun g1 => lt (va_up g1 3 0) (fun g2 => lt (va_up g2 4 0) (fun g3 => lt (va_up g3 5 0) (fun g4 => some (g4)))))
theorem d_F_begin_0 : decode prog_5_method_2_code 0 = .ok (.aload_n 0, 1) := by decide +kernel
theorem d_F_begin_1 : decode prog_5_method_2_code 1 = .ok (.iconst 0, 1) := by decide +kernel
theorem d_F_begin_2 : decode prog_5_method_2_code 2 = .ok (.putfield 13, 3) := by decide +kernel
theorem d_F_begin_5 : decode prog_5_method_2_code 5 = .ok (.aload_n 0, 1) := by decide +kernel
theorem d_F_begin_6 : decode prog_5_method_2_code 6 = .ok (.iconst 0, 1) := by decide +kernel
theorem d_F_begin_7 : decode prog_5_method_2_code 7 = .ok (.putfield 17, 3) := by decide +kernel
theorem d_F_begin_10 : decode prog_5_method_2_code 10 = .ok (.aload_n 0, 1) := by decide +kernel
theorem d_F_begin_11 : decode prog_5_method_2_code 11 = .ok (.iconst 0, 1) := by decide +kernel
theorem d_F_begin_12 : decode prog_5_method_2_code 12 = .ok (.putfield 21, 3) := by decide +kernel
theorem d_F_begin_15 : decode prog_5_method_2_code 15 = .ok (.aload_n 0, 1) := by decide +kernel
theorem d_F_begin_16 : decode prog_5_method_2_code 16 = .ok (.iconst 0, 1) := by decide +kernel
theorem d_F_begin_17 : decode prog_5_method_2_code 17 = .ok (.putfield 24, 3) := by decide +kernel
theorem d_F_begin_20 : decode prog_5_method_2_code 20 = .ok (.return_, 1) := by decide +kernel
set_option maxHeartbeats 4000000 in
set_option maxRecDepth 100000 in
theorem cF_begin (l : Launch) (dC : Nat → ClassId) (dI : Nat → Nat → Nat) (tk : Nat → ClassId) (A : Nat → Prop) (hF : Nat) (LF : Nat → Nat) (gF : aG) (aF : aA) (rw : va_W) (n : Nat) (ogF : aG) (hm : mF_begin n gF aF = some ogF) : CtV l dC dI tk A ⟨"EditorServer$Frame", "begin", "()V"⟩ prog_5_method_2_code 1 0 0 [.ref hF] (oW 2 hF ksF spF tk LF gF aF rw) (oW 2 hF ksF spF tk LF ogF aF rw) := by
  refine ent (by decide) (Nat.le_of_ble_eq_true rfl) ?_
  intro p e s m args below meth c hx hb hr hml hown hlk hG hg hst ls hl
  unfold mF_begin at hm
  have hl : lv_has ls 1 [(0, .ref hF)] := hl
  refine lv_aload_n hx hb d_F_begin_0 rfl (lv_at hl 0 rfl) ?_
  refine lv_iconst (v := 0) hx hb d_F_begin_1 (by decide) ?_
  refine ro_puti hx hb hown hG hg cF hst 1 (by decide) rfl rfl rfl (by decide) (by decide) k_43 d_F_begin_2 (fun g1 H locs eg1 hst => ?_)
  have hm := lt_u hm g1 eg1
  refine lv_aload_n hx hb d_F_begin_5 rfl (lv_at hl 0 rfl) ?_
  refine lv_iconst (v := 0) hx hb d_F_begin_6 (by decide) ?_
  refine ro_puti hx hb hown hG hg cF hst 3 (by decide) rfl rfl rfl rfl rfl k_46 d_F_begin_7 (fun g2 H locs eg2 hst => ?_)
  have hm := lt_u hm g2 eg2
  refine lv_aload_n hx hb d_F_begin_10 rfl (lv_at hl 0 rfl) ?_
  refine lv_iconst (v := 0) hx hb d_F_begin_11 (by decide) ?_
  refine ro_puti hx hb hown hG hg cF hst 4 (by decide) rfl rfl rfl rfl rfl k_47 d_F_begin_12 (fun g3 H locs eg3 hst => ?_)
  have hm := lt_u hm g3 eg3
  refine lv_aload_n hx hb d_F_begin_15 rfl (lv_at hl 0 rfl) ?_
  refine lv_iconst (v := 0) hx hb d_F_begin_16 (by decide) ?_
  refine ro_puti hx hb hown hG hg cF hst 5 (by decide) rfl rfl rfl rfl rfl k_49 d_F_begin_17 (fun g4 H locs eg4 hst => ?_)
  have hm := lt_u hm g4 eg4
  have he := (Option.some.inj hm)
  cases he
  exact rt_v hx hb hr hlk hst d_F_begin_20
def mF_takeIntoBody (n : Nat) (v1 : Int32) (gF : aG) (aF : aA) : Option (aG × aA) := if 200 ≤ (gF 5) then (some ((gF, aF))) else (gd (inb (gF 5) 200) (lt (va_up aF 0 (upd (aF 0) (gF 5).toNatClampNeg (vp_nar .char v1))) (fun a3 => lt (va_up gF 5 ((gF 5) + 1)) (fun g4 => some ((g4, a3))))))
theorem d_F_takeIntoBody_0 : decode prog_5_method_4_code 0 = .ok (.aload_n 0, 1) := by decide +kernel
theorem d_F_takeIntoBody_1 : decode prog_5_method_4_code 1 = .ok (.getfield 24, 3) := by decide +kernel
theorem d_F_takeIntoBody_4 : decode prog_5_method_4_code 4 = .ok (.sipush 200, 3) := by decide +kernel
theorem d_F_takeIntoBody_7 : decode prog_5_method_4_code 7 = .ok (.if_icmp .ge 23, 3) := by decide +kernel
theorem d_F_takeIntoBody_10 : decode prog_5_method_4_code 10 = .ok (.aload_n 0, 1) := by decide +kernel
theorem d_F_takeIntoBody_11 : decode prog_5_method_4_code 11 = .ok (.getfield 9, 3) := by decide +kernel
theorem d_F_takeIntoBody_14 : decode prog_5_method_4_code 14 = .ok (.aload_n 0, 1) := by decide +kernel
theorem d_F_takeIntoBody_15 : decode prog_5_method_4_code 15 = .ok (.getfield 24, 3) := by decide +kernel
theorem d_F_takeIntoBody_18 : decode prog_5_method_4_code 18 = .ok (.iload_n 1, 1) := by decide +kernel
theorem d_F_takeIntoBody_19 : decode prog_5_method_4_code 19 = .ok (.castore, 1) := by decide +kernel
theorem d_F_takeIntoBody_20 : decode prog_5_method_4_code 20 = .ok (.aload_n 0, 1) := by decide +kernel
theorem d_F_takeIntoBody_21 : decode prog_5_method_4_code 21 = .ok (.dup, 1) := by decide +kernel
theorem d_F_takeIntoBody_22 : decode prog_5_method_4_code 22 = .ok (.getfield 24, 3) := by decide +kernel
theorem d_F_takeIntoBody_25 : decode prog_5_method_4_code 25 = .ok (.iconst 1, 1) := by decide +kernel
theorem d_F_takeIntoBody_26 : decode prog_5_method_4_code 26 = .ok (.iadd, 1) := by decide +kernel
theorem d_F_takeIntoBody_27 : decode prog_5_method_4_code 27 = .ok (.putfield 24, 3) := by decide +kernel
theorem d_F_takeIntoBody_30 : decode prog_5_method_4_code 30 = .ok (.return_, 1) := by decide +kernel
set_option maxHeartbeats 4000000 in
set_option maxRecDepth 100000 in
theorem cF_takeIntoBody (l : Launch) (dC : Nat → ClassId) (dI : Nat → Nat → Nat) (tk : Nat → ClassId) (A : Nat → Prop) (hF : Nat) (LF : Nat → Nat) (gF : aG) (aF : aA) (rw : va_W) (n : Nat) (v1 : Int32) (ogF : aG) (oaF : aA) (hm : mF_takeIntoBody n v1 gF aF = some (ogF, oaF)) : CtV l dC dI tk A ⟨"EditorServer$Frame", "takeIntoBody", "(C)V"⟩ prog_5_method_4_code 2 0 0 [.ref hF, .int v1] (oW 2 hF ksF spF tk LF gF aF rw) (oW 2 hF ksF spF tk LF ogF oaF rw) := by
  refine ent (by decide) (Nat.le_of_ble_eq_true rfl) ?_
  intro p e s m args below meth c hx hb hr hml hown hlk hG hg hst ls hl
  unfold mF_takeIntoBody at hm
  have hl : lv_has ls 2 [(0, .ref hF), (1, .int v1)] := hl
  refine lv_aload_n hx hb d_F_takeIntoBody_0 rfl (lv_at hl 0 rfl) ?_
  refine ro_geti hx hb hown hG hg cF hst 5 (by decide) rfl rfl k_49 d_F_takeIntoBody_1 ?_
  refine lv_sipush (v := 200) hx hb d_F_takeIntoBody_4 (by decide) ?_
  refine lv_icmp_ge (tgt := 30) hx hb d_F_takeIntoBody_7 (by decide) (fun h1 => ?_) (fun h1 => ?_)
  · have hm := it_t hm h1
    have he := (Option.some.inj hm)
    cases he
    exact rt_v hx hb hr hlk hst d_F_takeIntoBody_30
  · have hm := it_f hm h1
    refine lv_aload_n hx hb d_F_takeIntoBody_10 rfl (lv_at hl 0 rfl) ?_
    refine ro_geta hx hb hown hG hg cF hst 0 0 (by decide) rfl rfl k_41 d_F_takeIntoBody_11 ?_
    refine lv_aload_n hx hb d_F_takeIntoBody_14 rfl (lv_at hl 0 rfl) ?_
    refine ro_geti hx hb hown hG hg cF hst 5 (by decide) rfl rfl k_49 d_F_takeIntoBody_15 ?_
    refine lv_iload_n hx hb d_F_takeIntoBody_18 rfl (lv_at hl 1 rfl) ?_
    obtain ⟨hn2, hm⟩ := gd_u hm
    refine ro_cast hx hb hg hst 0 rfl hn2 d_F_takeIntoBody_19 (fun a3 H locs ea3 hst => ?_)
    have hm := lt_u hm a3 ea3
    refine lv_aload_n hx hb d_F_takeIntoBody_20 rfl (lv_at hl 0 rfl) ?_
    refine lv_dup hx hb d_F_takeIntoBody_21 rfl ?_
    refine ro_geti hx hb hown hG hg cF hst 5 (by decide) rfl rfl k_49 d_F_takeIntoBody_22 ?_
    refine lv_iconst (v := 1) hx hb d_F_takeIntoBody_25 (by decide) ?_
    refine lv_iadd hx hb d_F_takeIntoBody_26 ?_
    refine ro_puti hx hb hown hG hg cF hst 5 (by decide) rfl rfl rfl rfl rfl k_49 d_F_takeIntoBody_27 (fun g4 H locs eg4 hst => ?_)
    have hm := lt_u hm g4 eg4
    have he := (Option.some.inj hm)
    cases he
    exact rt_v hx hb hr hlk hst d_F_takeIntoBody_30
def mF_take (n : Nat) (v1 : Int32) (gF : aG) (aF : aA) : Option (aG × aA) := if (gF 1) = 0 then (bd (mE_isDigit n v1) (fun x2 => jn (α := aG) (if x2 = 0 then (some (.inl gF)) else (if 3 ≤ (gF 3) then (some (.inl gF)) else (lt (va_up gF 4 (((gF 4) * 10) + (v1 - 48))) (fun g18 => lt (va_up g18 3 ((g18 3) + 1)) (fun g19 => some (.inr ((g19, aF)))))))) (fun g7 => if v1 = 58 then (if (g7 4) < 1 then (lt (va_up g7 2 1) (fun g12 => some ((g12, aF)))) else (if 200 < (g7 4) then (lt (va_up g7 2 1) (fun g14 => some ((g14, aF)))) else (lt (va_up g7 1 1) (fun g15 => some ((g15, aF)))))) else (lt (va_up g7 2 1) (fun g10 => some ((g10, aF))))))) else (bd (mF_takeIntoBody n v1 gF aF) (fun q23 => some ((q23.1, q23.2))))
theorem d_F_take_0 : decode prog_5_method_3_code 0 = .ok (.aload_n 0, 1) := by decide +kernel
theorem d_F_take_1 : decode prog_5_method_3_code 1 = .ok (.getfield 13, 3) := by decide +kernel
theorem d_F_take_4 : decode prog_5_method_3_code 4 = .ok (.ifCond .eq 11, 3) := by decide +kernel
theorem d_F_take_7 : decode prog_5_method_3_code 7 = .ok (.aload_n 0, 1) := by decide +kernel
theorem d_F_take_8 : decode prog_5_method_3_code 8 = .ok (.iload_n 1, 1) := by decide +kernel
theorem d_F_take_9 : decode prog_5_method_3_code 9 = .ok (.invokevirtual 27, 3) := by decide +kernel
theorem d_F_take_12 : decode prog_5_method_3_code 12 = .ok (.goto 84, 3) := by decide +kernel
theorem d_F_take_15 : decode prog_5_method_3_code 15 = .ok (.iload_n 1, 1) := by decide +kernel
theorem d_F_take_16 : decode prog_5_method_3_code 16 = .ok (.invokestatic 31, 3) := by decide +kernel
theorem d_F_take_19 : decode prog_5_method_3_code 19 = .ok (.ifCond .eq 40, 3) := by decide +kernel
theorem d_F_take_22 : decode prog_5_method_3_code 22 = .ok (.aload_n 0, 1) := by decide +kernel
theorem d_F_take_23 : decode prog_5_method_3_code 23 = .ok (.getfield 17, 3) := by decide +kernel
theorem d_F_take_26 : decode prog_5_method_3_code 26 = .ok (.iconst 3, 1) := by decide +kernel
theorem d_F_take_27 : decode prog_5_method_3_code 27 = .ok (.if_icmp .ge 32, 3) := by decide +kernel
theorem d_F_take_30 : decode prog_5_method_3_code 30 = .ok (.aload_n 0, 1) := by decide +kernel
theorem d_F_take_31 : decode prog_5_method_3_code 31 = .ok (.aload_n 0, 1) := by decide +kernel
theorem d_F_take_32 : decode prog_5_method_3_code 32 = .ok (.getfield 21, 3) := by decide +kernel
theorem d_F_take_35 : decode prog_5_method_3_code 35 = .ok (.bipush 10, 2) := by decide +kernel
theorem d_F_take_37 : decode prog_5_method_3_code 37 = .ok (.imul, 1) := by decide +kernel
theorem d_F_take_38 : decode prog_5_method_3_code 38 = .ok (.iload_n 1, 1) := by decide +kernel
theorem d_F_take_39 : decode prog_5_method_3_code 39 = .ok (.bipush 48, 2) := by decide +kernel
theorem d_F_take_41 : decode prog_5_method_3_code 41 = .ok (.isub, 1) := by decide +kernel
theorem d_F_take_42 : decode prog_5_method_3_code 42 = .ok (.iadd, 1) := by decide +kernel
theorem d_F_take_43 : decode prog_5_method_3_code 43 = .ok (.putfield 21, 3) := by decide +kernel
theorem d_F_take_46 : decode prog_5_method_3_code 46 = .ok (.aload_n 0, 1) := by decide +kernel
theorem d_F_take_47 : decode prog_5_method_3_code 47 = .ok (.dup, 1) := by decide +kernel
theorem d_F_take_48 : decode prog_5_method_3_code 48 = .ok (.getfield 17, 3) := by decide +kernel
theorem d_F_take_51 : decode prog_5_method_3_code 51 = .ok (.iconst 1, 1) := by decide +kernel
theorem d_F_take_52 : decode prog_5_method_3_code 52 = .ok (.iadd, 1) := by decide +kernel
theorem d_F_take_53 : decode prog_5_method_3_code 53 = .ok (.putfield 17, 3) := by decide +kernel
theorem d_F_take_56 : decode prog_5_method_3_code 56 = .ok (.goto 40, 3) := by decide +kernel
theorem d_F_take_59 : decode prog_5_method_3_code 59 = .ok (.iload_n 1, 1) := by decide +kernel
theorem d_F_take_60 : decode prog_5_method_3_code 60 = .ok (.bipush 58, 2) := by decide +kernel
theorem d_F_take_62 : decode prog_5_method_3_code 62 = .ok (.if_icmp .ne 29, 3) := by decide +kernel
theorem d_F_take_65 : decode prog_5_method_3_code 65 = .ok (.aload_n 0, 1) := by decide +kernel
theorem d_F_take_66 : decode prog_5_method_3_code 66 = .ok (.getfield 21, 3) := by decide +kernel
theorem d_F_take_69 : decode prog_5_method_3_code 69 = .ok (.iconst 1, 1) := by decide +kernel
theorem d_F_take_70 : decode prog_5_method_3_code 70 = .ok (.if_icmp .lt 21, 3) := by decide +kernel
theorem d_F_take_73 : decode prog_5_method_3_code 73 = .ok (.aload_n 0, 1) := by decide +kernel
theorem d_F_take_74 : decode prog_5_method_3_code 74 = .ok (.getfield 21, 3) := by decide +kernel
theorem d_F_take_77 : decode prog_5_method_3_code 77 = .ok (.sipush 200, 3) := by decide +kernel
theorem d_F_take_80 : decode prog_5_method_3_code 80 = .ok (.if_icmp .gt 11, 3) := by decide +kernel
theorem d_F_take_83 : decode prog_5_method_3_code 83 = .ok (.aload_n 0, 1) := by decide +kernel
theorem d_F_take_84 : decode prog_5_method_3_code 84 = .ok (.iconst 1, 1) := by decide +kernel
theorem d_F_take_85 : decode prog_5_method_3_code 85 = .ok (.putfield 13, 3) := by decide +kernel
theorem d_F_take_88 : decode prog_5_method_3_code 88 = .ok (.goto 8, 3) := by decide +kernel
theorem d_F_take_91 : decode prog_5_method_3_code 91 = .ok (.aload_n 0, 1) := by decide +kernel
theorem d_F_take_92 : decode prog_5_method_3_code 92 = .ok (.iconst 1, 1) := by decide +kernel
theorem d_F_take_93 : decode prog_5_method_3_code 93 = .ok (.putfield 37, 3) := by decide +kernel
theorem d_F_take_96 : decode prog_5_method_3_code 96 = .ok (.return_, 1) := by decide +kernel
set_option maxHeartbeats 4000000 in
set_option maxRecDepth 100000 in
theorem cF_take (l : Launch) (dC : Nat → ClassId) (dI : Nat → Nat → Nat) (tk : Nat → ClassId) (A : Nat → Prop) (hF : Nat) (LF : Nat → Nat) (gF : aG) (aF : aA) (rw : va_W) (n : Nat) (v1 : Int32) (ogF : aG) (oaF : aA) (hm : mF_take n v1 gF aF = some (ogF, oaF)) : CtV l dC dI tk A ⟨"EditorServer$Frame", "take", "(C)V"⟩ prog_5_method_3_code 2 1 21 [.ref hF, .int v1] (oW 2 hF ksF spF tk LF gF aF rw) (oW 2 hF ksF spF tk LF ogF oaF rw) := by
  refine ent (by decide) (Nat.le_of_ble_eq_true rfl) ?_
  intro p e s m args below meth c hx hb hr hml hown hlk hG hg hst ls hl
  unfold mF_take at hm
  have hl : lv_has ls 2 [(0, .ref hF), (1, .int v1)] := hl
  refine lv_aload_n hx hb d_F_take_0 rfl (lv_at hl 0 rfl) ?_
  refine ro_geti hx hb hown hG hg cF hst 1 (by decide) rfl rfl k_43 d_F_take_1 ?_
  refine lv_if_eq (tgt := 15) hx hb d_F_take_4 (by decide) (fun h1 => ?_) (fun h1 => ?_)
  · have hm := it_t hm h1
    refine lv_iload_n hx hb d_F_take_15 rfl (lv_at hl 1 rfl) ?_
    obtain ⟨x2, hc3, hm⟩ := bd_u hm
    refine cl_sn (n := 1) hx hb hml hown hG hg (cE_isDigit l dC dI tk A (oW 2 hF ksF spF tk LF gF aF rw) n v1 _ hc3) t_324 k_325 k_1 k_326 (by decide +kernel) ⟨by decide, by decide⟩ hst rfl hl.1 rfl (Nat.le_of_ble_eq_true rfl) ⟨Nat.le_refl 0, Nat.le_refl 0⟩ d_F_take_16 (fun H locs hst => ?_)
    obtain ⟨qJ5, hm, hLJ5, hR6⟩ := jn_u hm
    have hJ5 : ∀ (g7 : aG), qJ5 = .inl g7 → ∀ (H : Heap) (locs : List Loc) (ls : Array Slot), lv_has ls 2 [(0, .ref hF), (1, .int v1)] → St dC dI A s.heap H locs (oW 2 hF ksF spF tk LF g7 aF rw) → W p l e (rmo 1 21) s m args below meth c H locs 0 0 (MQ below (QV dC dI A (oW 2 hF ksF spF tk LF ogF oaF rw)) args s 0 0 A) (F0 m 59 ls []) := by
      intro g7 hq H locs ls hl hst
      have hm := hLJ5 _ hq
      refine lv_iload_n hx hb d_F_take_59 rfl (lv_at hl 1 rfl) ?_
      refine lv_bipush (v := 58) hx hb d_F_take_60 (by decide) ?_
      refine lv_icmp_ne (tgt := 91) hx hb d_F_take_62 (by decide) (fun h9 => ?_) (fun h9 => ?_)
      · have hm := it_f hm h9
        refine lv_aload_n hx hb d_F_take_91 rfl (lv_at hl 0 rfl) ?_
        refine lv_iconst (v := 1) hx hb d_F_take_92 (by decide) ?_
        refine ro_puti hx hb hown hG hg cF hst 2 (by decide) rfl rfl rfl (by decide) (by decide) k_45 d_F_take_93 (fun g10 H locs eg10 hst => ?_)
        have hm := lt_u hm g10 eg10
        have he := (Option.some.inj hm)
        cases he
        exact rt_v hx hb hr hlk hst d_F_take_96
      · have hm := it_t hm h9
        refine lv_aload_n hx hb d_F_take_65 rfl (lv_at hl 0 rfl) ?_
        refine ro_geti hx hb hown hG hg cF hst 4 (by decide) rfl rfl k_47 d_F_take_66 ?_
        refine lv_iconst (v := 1) hx hb d_F_take_69 (by decide) ?_
        refine lv_icmp_lt (tgt := 91) hx hb d_F_take_70 (by decide) (fun h11 => ?_) (fun h11 => ?_)
        · have hm := it_t hm h11
          refine lv_aload_n hx hb d_F_take_91 rfl (lv_at hl 0 rfl) ?_
          refine lv_iconst (v := 1) hx hb d_F_take_92 (by decide) ?_
          refine ro_puti hx hb hown hG hg cF hst 2 (by decide) rfl rfl rfl (by decide) (by decide) k_45 d_F_take_93 (fun g12 H locs eg12 hst => ?_)
          have hm := lt_u hm g12 eg12
          have he := (Option.some.inj hm)
          cases he
          exact rt_v hx hb hr hlk hst d_F_take_96
        · have hm := it_f hm h11
          refine lv_aload_n hx hb d_F_take_73 rfl (lv_at hl 0 rfl) ?_
          refine ro_geti hx hb hown hG hg cF hst 4 (by decide) rfl rfl k_47 d_F_take_74 ?_
          refine lv_sipush (v := 200) hx hb d_F_take_77 (by decide) ?_
          refine lv_icmp_gt (tgt := 91) hx hb d_F_take_80 (by decide) (fun h13 => ?_) (fun h13 => ?_)
          · have hm := it_t hm h13
            refine lv_aload_n hx hb d_F_take_91 rfl (lv_at hl 0 rfl) ?_
            refine lv_iconst (v := 1) hx hb d_F_take_92 (by decide) ?_
            refine ro_puti hx hb hown hG hg cF hst 2 (by decide) rfl rfl rfl (by decide) (by decide) k_45 d_F_take_93 (fun g14 H locs eg14 hst => ?_)
            have hm := lt_u hm g14 eg14
            have he := (Option.some.inj hm)
            cases he
            exact rt_v hx hb hr hlk hst d_F_take_96
          · have hm := it_f hm h13
            refine lv_aload_n hx hb d_F_take_83 rfl (lv_at hl 0 rfl) ?_
            refine lv_iconst (v := 1) hx hb d_F_take_84 (by decide) ?_
            refine ro_puti hx hb hown hG hg cF hst 1 (by decide) rfl rfl rfl (by decide) (by decide) k_43 d_F_take_85 (fun g15 H locs eg15 hst => ?_)
            have hm := lt_u hm g15 eg15
            refine lv_goto (tgt := 96) hx hb d_F_take_88 (by decide) ?_
            have he := (Option.some.inj hm)
            cases he
            exact rt_v hx hb hr hlk hst d_F_take_96
    refine lv_if_eq (tgt := 59) hx hb d_F_take_19 (by decide) (fun h16 => ?_) (fun h16 => ?_)
    · have hm := it_t hm h16
      exact hJ5 gF (Option.some.inj hm).symm _ _ _ (lv_sub hl [0, 1] rfl) hst
    · have hm := it_f hm h16
      refine lv_aload_n hx hb d_F_take_22 rfl (lv_at hl 0 rfl) ?_
      refine ro_geti hx hb hown hG hg cF hst 3 (by decide) rfl rfl k_46 d_F_take_23 ?_
      refine lv_iconst (v := 3) hx hb d_F_take_26 (by decide) ?_
      refine lv_icmp_ge (tgt := 59) hx hb d_F_take_27 (by decide) (fun h17 => ?_) (fun h17 => ?_)
      · have hm := it_t hm h17
        exact hJ5 gF (Option.some.inj hm).symm _ _ _ (lv_sub hl [0, 1] rfl) hst
      · have hm := it_f hm h17
        refine lv_aload_n hx hb d_F_take_30 rfl (lv_at hl 0 rfl) ?_
        refine lv_aload_n hx hb d_F_take_31 rfl (lv_at hl 0 rfl) ?_
        refine ro_geti hx hb hown hG hg cF hst 4 (by decide) rfl rfl k_47 d_F_take_32 ?_
        refine lv_bipush (v := 10) hx hb d_F_take_35 (by decide) ?_
        refine lv_imul hx hb d_F_take_37 ?_
        refine lv_iload_n hx hb d_F_take_38 rfl (lv_at hl 1 rfl) ?_
        refine lv_bipush (v := 48) hx hb d_F_take_39 (by decide) ?_
        refine lv_isub hx hb d_F_take_41 ?_
        refine lv_iadd hx hb d_F_take_42 ?_
        refine ro_puti hx hb hown hG hg cF hst 4 (by decide) rfl rfl rfl rfl rfl k_47 d_F_take_43 (fun g18 H locs eg18 hst => ?_)
        have hm := lt_u hm g18 eg18
        refine lv_aload_n hx hb d_F_take_46 rfl (lv_at hl 0 rfl) ?_
        refine lv_dup hx hb d_F_take_47 rfl ?_
        refine ro_geti hx hb hown hG hg cF hst 3 (by decide) rfl rfl k_46 d_F_take_48 ?_
        refine lv_iconst (v := 1) hx hb d_F_take_51 (by decide) ?_
        refine lv_iadd hx hb d_F_take_52 ?_
        refine ro_puti hx hb hown hG hg cF hst 3 (by decide) rfl rfl rfl rfl rfl k_46 d_F_take_53 (fun g19 H locs eg19 hst => ?_)
        have hm := lt_u hm g19 eg19
        refine lv_goto (tgt := 96) hx hb d_F_take_56 (by decide) ?_
        have he := (hR6 _ (Option.some.inj hm).symm)
        cases he
        exact rt_v hx hb hr hlk hst d_F_take_96
  · have hm := it_f hm h1
    refine lv_aload_n hx hb d_F_take_7 rfl (lv_at hl 0 rfl) ?_
    refine lv_iload_n hx hb d_F_take_8 rfl (lv_at hl 1 rfl) ?_
    obtain ⟨⟨g20, a21⟩, hc22, hm⟩ := bd_u hm
    dsimp only at hm
    refine cl_vv hx hb hml hown hG hg (cF_takeIntoBody l dC dI tk A hF LF gF aF rw n v1 _ _ hc22) (cw_v 1 hG k_320 k_322 s_0 k_2 k_323 (by decide +kernel) ⟨by decide, by decide⟩) hst rfl oW_0 rfl hl.1 rfl (Nat.le_of_ble_eq_true rfl) ⟨Nat.le_refl 0, Nat.le_refl 0⟩ d_F_take_9 (fun H locs hst => ?_)
    refine lv_goto (tgt := 96) hx hb d_F_take_12 (by decide) ?_
    have he := (Option.some.inj hm)
    cases he
    exact rt_v hx hb hr hlk hst d_F_take_96
def mF_isWhole (n : Nat) (gF : aG) (aF : aA) : Option (Int32) := if (gF 1) = 0 then (some (0)) else (if (gF 5) < (gF 4) then (some (0)) else (some (1)))
theorem d_F_isWhole_0 : decode prog_5_method_5_code 0 = .ok (.aload_n 0, 1) := by decide +kernel
theorem d_F_isWhole_1 : decode prog_5_method_5_code 1 = .ok (.getfield 13, 3) := by decide +kernel
theorem d_F_isWhole_4 : decode prog_5_method_5_code 4 = .ok (.ifCond .eq 18, 3) := by decide +kernel
theorem d_F_isWhole_7 : decode prog_5_method_5_code 7 = .ok (.aload_n 0, 1) := by decide +kernel
theorem d_F_isWhole_8 : decode prog_5_method_5_code 8 = .ok (.getfield 24, 3) := by decide +kernel
theorem d_F_isWhole_11 : decode prog_5_method_5_code 11 = .ok (.aload_n 0, 1) := by decide +kernel
theorem d_F_isWhole_12 : decode prog_5_method_5_code 12 = .ok (.getfield 21, 3) := by decide +kernel
theorem d_F_isWhole_15 : decode prog_5_method_5_code 15 = .ok (.if_icmp .lt 7, 3) := by decide +kernel
theorem d_F_isWhole_18 : decode prog_5_method_5_code 18 = .ok (.iconst 1, 1) := by decide +kernel
theorem d_F_isWhole_19 : decode prog_5_method_5_code 19 = .ok (.goto 4, 3) := by decide +kernel
theorem d_F_isWhole_22 : decode prog_5_method_5_code 22 = .ok (.iconst 0, 1) := by decide +kernel
theorem d_F_isWhole_23 : decode prog_5_method_5_code 23 = .ok (.ireturn, 1) := by decide +kernel
set_option maxHeartbeats 4000000 in
set_option maxRecDepth 100000 in
theorem cF_isWhole (l : Launch) (dC : Nat → ClassId) (dI : Nat → Nat → Nat) (tk : Nat → ClassId) (A : Nat → Prop) (hF : Nat) (LF : Nat → Nat) (gF : aG) (aF : aA) (rw : va_W) (n : Nat) (r0 : Int32) (hm : mF_isWhole n gF aF = some r0) : CtI l dC dI tk A ⟨"EditorServer$Frame", "isWhole", "()Z"⟩ prog_5_method_5_code 1 (some .boolean) 0 0 [.ref hF] (oW 2 hF ksF spF tk LF gF aF rw) r0 (oW 2 hF ksF spF tk LF gF aF rw) := by
  refine ent (by decide) (Nat.le_of_ble_eq_true rfl) ?_
  intro p e s m args below meth c hx hb hr hml hown hlk hG hg hst ls hl
  unfold mF_isWhole at hm
  have hl : lv_has ls 1 [(0, .ref hF)] := hl
  refine lv_aload_n hx hb d_F_isWhole_0 rfl (lv_at hl 0 rfl) ?_
  refine ro_geti hx hb hown hG hg cF hst 1 (by decide) rfl rfl k_43 d_F_isWhole_1 ?_
  refine lv_if_eq (tgt := 22) hx hb d_F_isWhole_4 (by decide) (fun h1 => ?_) (fun h1 => ?_)
  · have hm := it_t hm h1
    refine lv_iconst (v := 0) hx hb d_F_isWhole_22 (by decide) ?_
    have he := (Option.some.inj hm)
    cases he
    exact rt_i hx hb hr hlk (by decide) hst rfl d_F_isWhole_23
  · have hm := it_f hm h1
    refine lv_aload_n hx hb d_F_isWhole_7 rfl (lv_at hl 0 rfl) ?_
    refine ro_geti hx hb hown hG hg cF hst 5 (by decide) rfl rfl k_49 d_F_isWhole_8 ?_
    refine lv_aload_n hx hb d_F_isWhole_11 rfl (lv_at hl 0 rfl) ?_
    refine ro_geti hx hb hown hG hg cF hst 4 (by decide) rfl rfl k_47 d_F_isWhole_12 ?_
    refine lv_icmp_lt (tgt := 22) hx hb d_F_isWhole_15 (by decide) (fun h2 => ?_) (fun h2 => ?_)
    · have hm := it_t hm h2
      refine lv_iconst (v := 0) hx hb d_F_isWhole_22 (by decide) ?_
      have he := (Option.some.inj hm)
      cases he
      exact rt_i hx hb hr hlk (by decide) hst rfl d_F_isWhole_23
    · have hm := it_f hm h2
      refine lv_iconst (v := 1) hx hb d_F_isWhole_18 (by decide) ?_
      refine lv_goto (tgt := 23) hx hb d_F_isWhole_19 (by decide) ?_
      have he := (Option.some.inj hm)
      cases he
      exact rt_i hx hb hr hlk (by decide) hst rfl d_F_isWhole_23
def mN_add (n : Nat) (v1 : Int32) (v2 : Int32) (v3 : Int32) (v4 : Int32) (gN : aG) (aN : aA) : Option (aG × aA) := if 60 ≤ (gN 5) then (some ((gN, aN))) else (gd (inb (gN 5) 60) (lt (va_up aN 1 (upd (aN 1) (gN 5).toNatClampNeg (vp_nar .boolean v1))) (fun a3 => gd (inb (gN 5) 60) (lt (va_up a3 0 (upd (a3 0) (gN 5).toNatClampNeg v2)) (fun a5 => gd (inb (gN 5) 60) (lt (va_up a5 2 (upd (a5 2) (gN 5).toNatClampNeg (vp_nar .boolean v3))) (fun a7 => gd (inb (gN 5) 60) (lt (va_up a7 3 (upd (a7 3) (gN 5).toNatClampNeg v4)) (fun a9 => lt (va_up gN 5 ((gN 5) + 1)) (fun g10 => some ((g10, a9))))))))))))
theorem d_N_add_0 : decode prog_2_method_5_code 0 = .ok (.aload_n 0, 1) := by decide +kernel
theorem d_N_add_1 : decode prog_2_method_5_code 1 = .ok (.getfield 34, 3) := by decide +kernel
theorem d_N_add_4 : decode prog_2_method_5_code 4 = .ok (.bipush 60, 2) := by decide +kernel
theorem d_N_add_6 : decode prog_2_method_5_code 6 = .ok (.if_icmp .ge 54, 3) := by decide +kernel
theorem d_N_add_9 : decode prog_2_method_5_code 9 = .ok (.aload_n 0, 1) := by decide +kernel
theorem d_N_add_10 : decode prog_2_method_5_code 10 = .ok (.getfield 13, 3) := by decide +kernel
theorem d_N_add_13 : decode prog_2_method_5_code 13 = .ok (.aload_n 0, 1) := by decide +kernel
theorem d_N_add_14 : decode prog_2_method_5_code 14 = .ok (.getfield 34, 3) := by decide +kernel
theorem d_N_add_17 : decode prog_2_method_5_code 17 = .ok (.iload_n 1, 1) := by decide +kernel
theorem d_N_add_18 : decode prog_2_method_5_code 18 = .ok (.bastore, 1) := by decide +kernel
theorem d_N_add_19 : decode prog_2_method_5_code 19 = .ok (.aload_n 0, 1) := by decide +kernel
theorem d_N_add_20 : decode prog_2_method_5_code 20 = .ok (.getfield 9, 3) := by decide +kernel
theorem d_N_add_23 : decode prog_2_method_5_code 23 = .ok (.aload_n 0, 1) := by decide +kernel
theorem d_N_add_24 : decode prog_2_method_5_code 24 = .ok (.getfield 34, 3) := by decide +kernel
theorem d_N_add_27 : decode prog_2_method_5_code 27 = .ok (.iload_n 2, 1) := by decide +kernel
theorem d_N_add_28 : decode prog_2_method_5_code 28 = .ok (.iastore, 1) := by decide +kernel
theorem d_N_add_29 : decode prog_2_method_5_code 29 = .ok (.aload_n 0, 1) := by decide +kernel
theorem d_N_add_30 : decode prog_2_method_5_code 30 = .ok (.getfield 17, 3) := by decide +kernel
theorem d_N_add_33 : decode prog_2_method_5_code 33 = .ok (.aload_n 0, 1) := by decide +kernel
theorem d_N_add_34 : decode prog_2_method_5_code 34 = .ok (.getfield 34, 3) := by decide +kernel
theorem d_N_add_37 : decode prog_2_method_5_code 37 = .ok (.iload_n 3, 1) := by decide +kernel
theorem d_N_add_38 : decode prog_2_method_5_code 38 = .ok (.bastore, 1) := by decide +kernel
theorem d_N_add_39 : decode prog_2_method_5_code 39 = .ok (.aload_n 0, 1) := by decide +kernel
theorem d_N_add_40 : decode prog_2_method_5_code 40 = .ok (.getfield 20, 3) := by decide +kernel
theorem d_N_add_43 : decode prog_2_method_5_code 43 = .ok (.aload_n 0, 1) := by decide +kernel
theorem d_N_add_44 : decode prog_2_method_5_code 44 = .ok (.getfield 34, 3) := by decide +kernel
theorem d_N_add_47 : decode prog_2_method_5_code 47 = .ok (.iload 4, 2) := by decide +kernel
theorem d_N_add_49 : decode prog_2_method_5_code 49 = .ok (.iastore, 1) := by decide +kernel
theorem d_N_add_50 : decode prog_2_method_5_code 50 = .ok (.aload_n 0, 1) := by decide +kernel
theorem d_N_add_51 : decode prog_2_method_5_code 51 = .ok (.dup, 1) := by decide +kernel
theorem d_N_add_52 : decode prog_2_method_5_code 52 = .ok (.getfield 34, 3) := by decide +kernel
theorem d_N_add_55 : decode prog_2_method_5_code 55 = .ok (.iconst 1, 1) := by decide +kernel
theorem d_N_add_56 : decode prog_2_method_5_code 56 = .ok (.iadd, 1) := by decide +kernel
theorem d_N_add_57 : decode prog_2_method_5_code 57 = .ok (.putfield 34, 3) := by decide +kernel
theorem d_N_add_60 : decode prog_2_method_5_code 60 = .ok (.return_, 1) := by decide +kernel
set_option maxHeartbeats 4000000 in
set_option maxRecDepth 100000 in
theorem cN_add (l : Launch) (dC : Nat → ClassId) (dI : Nat → Nat → Nat) (tk : Nat → ClassId) (A : Nat → Prop) (hN : Nat) (LN : Nat → Nat) (gN : aG) (aN : aA) (rw : va_W) (n : Nat) (v1 : Int32) (v2 : Int32) (v3 : Int32) (v4 : Int32) (ogN : aG) (oaN : aA) (hm : mN_add n v1 v2 v3 v4 gN aN = some (ogN, oaN)) : CtV l dC dI tk A ⟨"EditorServer$Answers", "add", "(ZIZI)V"⟩ prog_2_method_5_code 5 0 0 [.ref hN, .int v1, .int v2, .int v3, .int v4] (oW 9 hN ksN spN tk LN gN aN rw) (oW 9 hN ksN spN tk LN ogN oaN rw) := by
  refine ent (by decide) (Nat.le_of_ble_eq_true rfl) ?_
  intro p e s m args below meth c hx hb hr hml hown hlk hG hg hst ls hl
  unfold mN_add at hm
  have hl : lv_has ls 5 [(0, .ref hN), (1, .int v1), (2, .int v2), (3, .int v3), (4, .int v4)] := hl
  refine lv_aload_n hx hb d_N_add_0 rfl (lv_at hl 0 rfl) ?_
  refine ro_geti hx hb hown hG hg cN hst 5 (by decide) rfl rfl k_269 d_N_add_1 ?_
  refine lv_bipush (v := 60) hx hb d_N_add_4 (by decide) ?_
  refine lv_icmp_ge (tgt := 60) hx hb d_N_add_6 (by decide) (fun h1 => ?_) (fun h1 => ?_)
  · have hm := it_t hm h1
    have he := (Option.some.inj hm)
    cases he
    exact rt_v hx hb hr hlk hst d_N_add_60
  · have hm := it_f hm h1
    refine lv_aload_n hx hb d_N_add_9 rfl (lv_at hl 0 rfl) ?_
    refine ro_geta hx hb hown hG hg cN hst 1 1 (by decide) rfl rfl k_262 d_N_add_10 ?_
    refine lv_aload_n hx hb d_N_add_13 rfl (lv_at hl 0 rfl) ?_
    refine ro_geti hx hb hown hG hg cN hst 5 (by decide) rfl rfl k_269 d_N_add_14 ?_
    refine lv_iload_n hx hb d_N_add_17 rfl (lv_at hl 1 rfl) ?_
    obtain ⟨hn2, hm⟩ := gd_u hm
    refine ro_zast hx hb hg hst 1 rfl hn2 d_N_add_18 (fun a3 H locs ea3 hst => ?_)
    have hm := lt_u hm a3 ea3
    refine lv_aload_n hx hb d_N_add_19 rfl (lv_at hl 0 rfl) ?_
    refine ro_geta hx hb hown hG hg cN hst 0 0 (by decide) rfl rfl k_260 d_N_add_20 ?_
    refine lv_aload_n hx hb d_N_add_23 rfl (lv_at hl 0 rfl) ?_
    refine ro_geti hx hb hown hG hg cN hst 5 (by decide) rfl rfl k_269 d_N_add_24 ?_
    refine lv_iload_n hx hb d_N_add_27 rfl (lv_at hl 2 rfl) ?_
    obtain ⟨hn4, hm⟩ := gd_u hm
    refine ro_iast hx hb hg hst 0 rfl hn4 d_N_add_28 (fun a5 H locs ea5 hst => ?_)
    have hm := lt_u hm a5 ea5
    refine lv_aload_n hx hb d_N_add_29 rfl (lv_at hl 0 rfl) ?_
    refine ro_geta hx hb hown hG hg cN hst 2 2 (by decide) rfl rfl k_264 d_N_add_30 ?_
    refine lv_aload_n hx hb d_N_add_33 rfl (lv_at hl 0 rfl) ?_
    refine ro_geti hx hb hown hG hg cN hst 5 (by decide) rfl rfl k_269 d_N_add_34 ?_
    refine lv_iload_n hx hb d_N_add_37 rfl (lv_at hl 3 rfl) ?_
    obtain ⟨hn6, hm⟩ := gd_u hm
    refine ro_zast hx hb hg hst 2 rfl hn6 d_N_add_38 (fun a7 H locs ea7 hst => ?_)
    have hm := lt_u hm a7 ea7
    refine lv_aload_n hx hb d_N_add_39 rfl (lv_at hl 0 rfl) ?_
    refine ro_geta hx hb hown hG hg cN hst 3 3 (by decide) rfl rfl k_266 d_N_add_40 ?_
    refine lv_aload_n hx hb d_N_add_43 rfl (lv_at hl 0 rfl) ?_
    refine ro_geti hx hb hown hG hg cN hst 5 (by decide) rfl rfl k_269 d_N_add_44 ?_
    refine lv_iload hx hb d_N_add_47 (lv_at hl 4 rfl) ?_
    obtain ⟨hn8, hm⟩ := gd_u hm
    refine ro_iast hx hb hg hst 3 rfl hn8 d_N_add_49 (fun a9 H locs ea9 hst => ?_)
    have hm := lt_u hm a9 ea9
    refine lv_aload_n hx hb d_N_add_50 rfl (lv_at hl 0 rfl) ?_
    refine lv_dup hx hb d_N_add_51 rfl ?_
    refine ro_geti hx hb hown hG hg cN hst 5 (by decide) rfl rfl k_269 d_N_add_52 ?_
    refine lv_iconst (v := 1) hx hb d_N_add_55 (by decide) ?_
    refine lv_iadd hx hb d_N_add_56 ?_
    refine ro_puti hx hb hown hG hg cN hst 5 (by decide) rfl rfl rfl rfl rfl k_269 d_N_add_57 (fun g10 H locs eg10 hst => ?_)
    have hm := lt_u hm g10 eg10
    have he := (Option.some.inj hm)
    cases he
    exact rt_v hx hb hr hlk hst d_N_add_60
def mN_addResult (n : Nat) (v1 : Int32) (v2 : Int32) (gN : aG) (aN : aA) : Option (aG × aA) := bd (mN_add n 1 v1 1 v2 gN aN) (fun q4 => some ((q4.1, q4.2)))
theorem d_N_addResult_0 : decode prog_2_method_2_code 0 = .ok (.aload_n 0, 1) := by decide +kernel
theorem d_N_addResult_1 : decode prog_2_method_2_code 1 = .ok (.iconst 1, 1) := by decide +kernel
theorem d_N_addResult_2 : decode prog_2_method_2_code 2 = .ok (.iload_n 1, 1) := by decide +kernel
theorem d_N_addResult_3 : decode prog_2_method_2_code 3 = .ok (.iconst 1, 1) := by decide +kernel
theorem d_N_addResult_4 : decode prog_2_method_2_code 4 = .ok (.iload_n 2, 1) := by decide +kernel
theorem d_N_addResult_5 : decode prog_2_method_2_code 5 = .ok (.invokevirtual 30, 3) := by decide +kernel
theorem d_N_addResult_8 : decode prog_2_method_2_code 8 = .ok (.return_, 1) := by decide +kernel
set_option maxHeartbeats 4000000 in
set_option maxRecDepth 100000 in
theorem cN_addResult (l : Launch) (dC : Nat → ClassId) (dI : Nat → Nat → Nat) (tk : Nat → ClassId) (A : Nat → Prop) (hN : Nat) (LN : Nat → Nat) (gN : aG) (aN : aA) (rw : va_W) (n : Nat) (v1 : Int32) (v2 : Int32) (ogN : aG) (oaN : aA) (hm : mN_addResult n v1 v2 gN aN = some (ogN, oaN)) : CtV l dC dI tk A ⟨"EditorServer$Answers", "addResult", "(II)V"⟩ prog_2_method_2_code 3 1 24 [.ref hN, .int v1, .int v2] (oW 9 hN ksN spN tk LN gN aN rw) (oW 9 hN ksN spN tk LN ogN oaN rw) := by
  refine ent (by decide) (Nat.le_of_ble_eq_true rfl) ?_
  intro p e s m args below meth c hx hb hr hml hown hlk hG hg hst ls hl
  unfold mN_addResult at hm
  have hl : lv_has ls 3 [(0, .ref hN), (1, .int v1), (2, .int v2)] := hl
  refine lv_aload_n hx hb d_N_addResult_0 rfl (lv_at hl 0 rfl) ?_
  refine lv_iconst (v := 1) hx hb d_N_addResult_1 (by decide) ?_
  refine lv_iload_n hx hb d_N_addResult_2 rfl (lv_at hl 1 rfl) ?_
  refine lv_iconst (v := 1) hx hb d_N_addResult_3 (by decide) ?_
  refine lv_iload_n hx hb d_N_addResult_4 rfl (lv_at hl 2 rfl) ?_
  obtain ⟨⟨g1, a2⟩, hc3, hm⟩ := bd_u hm
  dsimp only at hm
  refine cl_vv hx hb hml hown hG hg (cN_add l dC dI tk A hN LN gN aN rw n 1 v1 1 v2 _ _ hc3) (cw_v 4 hG k_437 k_439 s_12 k_9 k_440 (by decide +kernel) ⟨by decide, by decide⟩) hst rfl oW_0 rfl hl.1 rfl (Nat.le_of_ble_eq_true rfl) ⟨Nat.le_refl 0, Nat.le_refl 0⟩ d_N_addResult_5 (fun H locs hst => ?_)
  have he := (Option.some.inj hm)
  cases he
  exact rt_v hx hb hr hlk hst d_N_addResult_8
def mN_addError (n : Nat) (v1 : Int32) (v2 : Int32) (gN : aG) (aN : aA) : Option (aG × aA) := bd (mN_add n 1 v1 0 v2 gN aN) (fun q4 => some ((q4.1, q4.2)))
theorem d_N_addError_0 : decode prog_2_method_3_code 0 = .ok (.aload_n 0, 1) := by decide +kernel
theorem d_N_addError_1 : decode prog_2_method_3_code 1 = .ok (.iconst 1, 1) := by decide +kernel
theorem d_N_addError_2 : decode prog_2_method_3_code 2 = .ok (.iload_n 1, 1) := by decide +kernel
theorem d_N_addError_3 : decode prog_2_method_3_code 3 = .ok (.iconst 0, 1) := by decide +kernel
theorem d_N_addError_4 : decode prog_2_method_3_code 4 = .ok (.iload_n 2, 1) := by decide +kernel
theorem d_N_addError_5 : decode prog_2_method_3_code 5 = .ok (.invokevirtual 30, 3) := by decide +kernel
theorem d_N_addError_8 : decode prog_2_method_3_code 8 = .ok (.return_, 1) := by decide +kernel
set_option maxHeartbeats 4000000 in
set_option maxRecDepth 100000 in
theorem cN_addError (l : Launch) (dC : Nat → ClassId) (dI : Nat → Nat → Nat) (tk : Nat → ClassId) (A : Nat → Prop) (hN : Nat) (LN : Nat → Nat) (gN : aG) (aN : aA) (rw : va_W) (n : Nat) (v1 : Int32) (v2 : Int32) (ogN : aG) (oaN : aA) (hm : mN_addError n v1 v2 gN aN = some (ogN, oaN)) : CtV l dC dI tk A ⟨"EditorServer$Answers", "addError", "(II)V"⟩ prog_2_method_3_code 3 1 24 [.ref hN, .int v1, .int v2] (oW 9 hN ksN spN tk LN gN aN rw) (oW 9 hN ksN spN tk LN ogN oaN rw) := by
  refine ent (by decide) (Nat.le_of_ble_eq_true rfl) ?_
  intro p e s m args below meth c hx hb hr hml hown hlk hG hg hst ls hl
  unfold mN_addError at hm
  have hl : lv_has ls 3 [(0, .ref hN), (1, .int v1), (2, .int v2)] := hl
  refine lv_aload_n hx hb d_N_addError_0 rfl (lv_at hl 0 rfl) ?_
  refine lv_iconst (v := 1) hx hb d_N_addError_1 (by decide) ?_
  refine lv_iload_n hx hb d_N_addError_2 rfl (lv_at hl 1 rfl) ?_
  refine lv_iconst (v := 0) hx hb d_N_addError_3 (by decide) ?_
  refine lv_iload_n hx hb d_N_addError_4 rfl (lv_at hl 2 rfl) ?_
  obtain ⟨⟨g1, a2⟩, hc3, hm⟩ := bd_u hm
  dsimp only at hm
  refine cl_vv hx hb hml hown hG hg (cN_add l dC dI tk A hN LN gN aN rw n 1 v1 0 v2 _ _ hc3) (cw_v 4 hG k_437 k_439 s_12 k_9 k_440 (by decide +kernel) ⟨by decide, by decide⟩) hst rfl oW_0 rfl hl.1 rfl (Nat.le_of_ble_eq_true rfl) ⟨Nat.le_refl 0, Nat.le_refl 0⟩ d_N_addError_5 (fun H locs hst => ?_)
  have he := (Option.some.inj hm)
  cases he
  exact rt_v hx hb hr hlk hst d_N_addError_8
def mN_addErrorWithoutId (n : Nat) (v1 : Int32) (gN : aG) (aN : aA) : Option (aG × aA) := bd (mN_add n 0 0 0 v1 gN aN) (fun q4 => some ((q4.1, q4.2)))
theorem d_N_addErrorWithoutId_0 : decode prog_2_method_4_code 0 = .ok (.aload_n 0, 1) := by decide +kernel
theorem d_N_addErrorWithoutId_1 : decode prog_2_method_4_code 1 = .ok (.iconst 0, 1) := by decide +kernel
theorem d_N_addErrorWithoutId_2 : decode prog_2_method_4_code 2 = .ok (.iconst 0, 1) := by decide +kernel
theorem d_N_addErrorWithoutId_3 : decode prog_2_method_4_code 3 = .ok (.iconst 0, 1) := by decide +kernel
theorem d_N_addErrorWithoutId_4 : decode prog_2_method_4_code 4 = .ok (.iload_n 1, 1) := by decide +kernel
theorem d_N_addErrorWithoutId_5 : decode prog_2_method_4_code 5 = .ok (.invokevirtual 30, 3) := by decide +kernel
theorem d_N_addErrorWithoutId_8 : decode prog_2_method_4_code 8 = .ok (.return_, 1) := by decide +kernel
set_option maxHeartbeats 4000000 in
set_option maxRecDepth 100000 in
theorem cN_addErrorWithoutId (l : Launch) (dC : Nat → ClassId) (dI : Nat → Nat → Nat) (tk : Nat → ClassId) (A : Nat → Prop) (hN : Nat) (LN : Nat → Nat) (gN : aG) (aN : aA) (rw : va_W) (n : Nat) (v1 : Int32) (ogN : aG) (oaN : aA) (hm : mN_addErrorWithoutId n v1 gN aN = some (ogN, oaN)) : CtV l dC dI tk A ⟨"EditorServer$Answers", "addErrorWithoutId", "(I)V"⟩ prog_2_method_4_code 2 1 24 [.ref hN, .int v1] (oW 9 hN ksN spN tk LN gN aN rw) (oW 9 hN ksN spN tk LN ogN oaN rw) := by
  refine ent (by decide) (Nat.le_of_ble_eq_true rfl) ?_
  intro p e s m args below meth c hx hb hr hml hown hlk hG hg hst ls hl
  unfold mN_addErrorWithoutId at hm
  have hl : lv_has ls 2 [(0, .ref hN), (1, .int v1)] := hl
  refine lv_aload_n hx hb d_N_addErrorWithoutId_0 rfl (lv_at hl 0 rfl) ?_
  refine lv_iconst (v := 0) hx hb d_N_addErrorWithoutId_1 (by decide) ?_
  refine lv_iconst (v := 0) hx hb d_N_addErrorWithoutId_2 (by decide) ?_
  refine lv_iconst (v := 0) hx hb d_N_addErrorWithoutId_3 (by decide) ?_
  refine lv_iload_n hx hb d_N_addErrorWithoutId_4 rfl (lv_at hl 1 rfl) ?_
  obtain ⟨⟨g1, a2⟩, hc3, hm⟩ := bd_u hm
  dsimp only at hm
  refine cl_vv hx hb hml hown hG hg (cN_add l dC dI tk A hN LN gN aN rw n 0 0 0 v1 _ _ hc3) (cw_v 4 hG k_437 k_439 s_12 k_9 k_440 (by decide +kernel) ⟨by decide, by decide⟩) hst rfl oW_0 rfl hl.1 rfl (Nat.le_of_ble_eq_true rfl) ⟨Nat.le_refl 0, Nat.le_refl 0⟩ d_N_addErrorWithoutId_5 (fun H locs hst => ?_)
  have he := (Option.some.inj hm)
  cases he
  exact rt_v hx hb hr hlk hst d_N_addErrorWithoutId_8
