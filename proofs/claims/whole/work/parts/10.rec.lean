def mV_readParts (n : Nat) (rv : Int32 → aG → aA → Option (Int32 × aG × aA)) (v1 v2 v3 : Int32) (gV : aG) (aV : aA) : Option (Int32 × aG × aA) := if v3 ≤ 6 then (lt (va_up gV 10 ((gV 10) + 1)) (fun g2 => bd (mV_skipBlanks n g2 aV) (fun g3 => bd (mV_skip n v2 g3 aV) (fun q9 => if q9.1 = 0 then (lp (ε := Int32 × aG × aA) (fun q14 => if 40 ≤ q14.1 then (some (.inr ((0, q14.2.1, q14.2.2)))) else (jn (α := aG × aA) (if v2 = 125 then (bd (mV_readMemberName n (q14.2.1 11) q14.2.1 q14.2.2) (fun q49 => if q49.1 = 0 then (some (.inr (.inr ((0, q49.2.1, q49.2.2))))) else (some (.inl (q49.2.1, q49.2.2))))) else (some (.inl (q14.2.1, q14.2.2)))) (fun q23 => bd (rv v3 q23.1 q23.2) (fun q28 => if q28.1 = 0 then (some (.inr ((0, q28.2.1, q28.2.2)))) else (gd (inb v1 40) (lt (q28.2.2 3 v1.toNatClampNeg) (fun x31 => gd (inb v1 40) (lt (va_up q28.2.2 3 (upd (q28.2.2 3) v1.toNatClampNeg (x31 + 1))) (fun a33 => bd (mV_skip n v2 q28.2.1 a33) (fun q37 => if q37.1 = 0 then (bd (mV_skip n 44 q37.2 a33) (fun q42 => if q42.1 = 0 then (some (.inr ((0, q42.2, a33)))) else (some (.inl ((q14.1 + 1), q42.2, a33))))) else (some (.inr ((1, q37.2, a33)))))))))))))) n (0, q9.2, aV)) else (some ((1, q9.2, aV))))))) else (some ((0, gV, aV)))
theorem d_V_readParts_0 : decode prog_9_method_4_code 0 = .ok (.iload_n 3, 1) := by decide +kernel
theorem d_V_readParts_1 : decode prog_9_method_4_code 1 = .ok (.bipush 6, 2) := by decide +kernel
theorem d_V_readParts_3 : decode prog_9_method_4_code 3 = .ok (.if_icmp .le 5, 3) := by decide +kernel
theorem d_V_readParts_6 : decode prog_9_method_4_code 6 = .ok (.iconst 0, 1) := by decide +kernel
theorem d_V_readParts_7 : decode prog_9_method_4_code 7 = .ok (.ireturn, 1) := by decide +kernel
theorem d_V_readParts_8 : decode prog_9_method_4_code 8 = .ok (.aload_n 0, 1) := by decide +kernel
theorem d_V_readParts_9 : decode prog_9_method_4_code 9 = .ok (.dup, 1) := by decide +kernel
theorem d_V_readParts_10 : decode prog_9_method_4_code 10 = .ok (.getfield 52, 3) := by decide +kernel
theorem d_V_readParts_13 : decode prog_9_method_4_code 13 = .ok (.iconst 1, 1) := by decide +kernel
theorem d_V_readParts_14 : decode prog_9_method_4_code 14 = .ok (.iadd, 1) := by decide +kernel
theorem d_V_readParts_15 : decode prog_9_method_4_code 15 = .ok (.putfield 52, 3) := by decide +kernel
theorem d_V_readParts_18 : decode prog_9_method_4_code 18 = .ok (.aload_n 0, 1) := by decide +kernel
theorem d_V_readParts_19 : decode prog_9_method_4_code 19 = .ok (.invokevirtual 65, 3) := by decide +kernel
theorem d_V_readParts_22 : decode prog_9_method_4_code 22 = .ok (.aload_n 0, 1) := by decide +kernel
theorem d_V_readParts_23 : decode prog_9_method_4_code 23 = .ok (.iload_n 2, 1) := by decide +kernel
theorem d_V_readParts_24 : decode prog_9_method_4_code 24 = .ok (.invokevirtual 92, 3) := by decide +kernel
theorem d_V_readParts_27 : decode prog_9_method_4_code 27 = .ok (.ifCond .eq 5, 3) := by decide +kernel
theorem d_V_readParts_30 : decode prog_9_method_4_code 30 = .ok (.iconst 1, 1) := by decide +kernel
theorem d_V_readParts_31 : decode prog_9_method_4_code 31 = .ok (.ireturn, 1) := by decide +kernel
theorem d_V_readParts_32 : decode prog_9_method_4_code 32 = .ok (.iconst 0, 1) := by decide +kernel
theorem d_V_readParts_33 : decode prog_9_method_4_code 33 = .ok (.istore 4, 2) := by decide +kernel
theorem d_V_readParts_35 : decode prog_9_method_4_code 35 = .ok (.iload 4, 2) := by decide +kernel
theorem d_V_readParts_37 : decode prog_9_method_4_code 37 = .ok (.bipush 40, 2) := by decide +kernel
theorem d_V_readParts_39 : decode prog_9_method_4_code 39 = .ok (.if_icmp .ge 69, 3) := by decide +kernel
theorem d_V_readParts_42 : decode prog_9_method_4_code 42 = .ok (.iload_n 2, 1) := by decide +kernel
theorem d_V_readParts_43 : decode prog_9_method_4_code 43 = .ok (.bipush 125, 2) := by decide +kernel
theorem d_V_readParts_45 : decode prog_9_method_4_code 45 = .ok (.if_icmp .ne 16, 3) := by decide +kernel
theorem d_V_readParts_48 : decode prog_9_method_4_code 48 = .ok (.aload_n 0, 1) := by decide +kernel
theorem d_V_readParts_49 : decode prog_9_method_4_code 49 = .ok (.aload_n 0, 1) := by decide +kernel
theorem d_V_readParts_50 : decode prog_9_method_4_code 50 = .ok (.getfield 55, 3) := by decide +kernel
theorem d_V_readParts_53 : decode prog_9_method_4_code 53 = .ok (.invokevirtual 95, 3) := by decide +kernel
theorem d_V_readParts_56 : decode prog_9_method_4_code 56 = .ok (.ifCond .ne 5, 3) := by decide +kernel
theorem d_V_readParts_59 : decode prog_9_method_4_code 59 = .ok (.iconst 0, 1) := by decide +kernel
theorem d_V_readParts_60 : decode prog_9_method_4_code 60 = .ok (.ireturn, 1) := by decide +kernel
theorem d_V_readParts_61 : decode prog_9_method_4_code 61 = .ok (.aload_n 0, 1) := by decide +kernel
theorem d_V_readParts_62 : decode prog_9_method_4_code 62 = .ok (.iload_n 3, 1) := by decide +kernel
theorem d_V_readParts_63 : decode prog_9_method_4_code 63 = .ok (.invokevirtual 61, 3) := by decide +kernel
theorem d_V_readParts_66 : decode prog_9_method_4_code 66 = .ok (.ifCond .ne 5, 3) := by decide +kernel
theorem d_V_readParts_69 : decode prog_9_method_4_code 69 = .ok (.iconst 0, 1) := by decide +kernel
theorem d_V_readParts_70 : decode prog_9_method_4_code 70 = .ok (.ireturn, 1) := by decide +kernel
theorem d_V_readParts_71 : decode prog_9_method_4_code 71 = .ok (.aload_n 0, 1) := by decide +kernel
theorem d_V_readParts_72 : decode prog_9_method_4_code 72 = .ok (.getfield 21, 3) := by decide +kernel
theorem d_V_readParts_75 : decode prog_9_method_4_code 75 = .ok (.iload_n 1, 1) := by decide +kernel
theorem d_V_readParts_76 : decode prog_9_method_4_code 76 = .ok (.dup2, 1) := by decide +kernel
theorem d_V_readParts_77 : decode prog_9_method_4_code 77 = .ok (.iaload, 1) := by decide +kernel
theorem d_V_readParts_78 : decode prog_9_method_4_code 78 = .ok (.iconst 1, 1) := by decide +kernel
theorem d_V_readParts_79 : decode prog_9_method_4_code 79 = .ok (.iadd, 1) := by decide +kernel
theorem d_V_readParts_80 : decode prog_9_method_4_code 80 = .ok (.iastore, 1) := by decide +kernel
theorem d_V_readParts_81 : decode prog_9_method_4_code 81 = .ok (.aload_n 0, 1) := by decide +kernel
theorem d_V_readParts_82 : decode prog_9_method_4_code 82 = .ok (.iload_n 2, 1) := by decide +kernel
theorem d_V_readParts_83 : decode prog_9_method_4_code 83 = .ok (.invokevirtual 92, 3) := by decide +kernel
theorem d_V_readParts_86 : decode prog_9_method_4_code 86 = .ok (.ifCond .eq 5, 3) := by decide +kernel
theorem d_V_readParts_89 : decode prog_9_method_4_code 89 = .ok (.iconst 1, 1) := by decide +kernel
theorem d_V_readParts_90 : decode prog_9_method_4_code 90 = .ok (.ireturn, 1) := by decide +kernel
theorem d_V_readParts_91 : decode prog_9_method_4_code 91 = .ok (.aload_n 0, 1) := by decide +kernel
theorem d_V_readParts_92 : decode prog_9_method_4_code 92 = .ok (.bipush 44, 2) := by decide +kernel
theorem d_V_readParts_94 : decode prog_9_method_4_code 94 = .ok (.invokevirtual 92, 3) := by decide +kernel
theorem d_V_readParts_97 : decode prog_9_method_4_code 97 = .ok (.ifCond .ne 5, 3) := by decide +kernel
theorem d_V_readParts_100 : decode prog_9_method_4_code 100 = .ok (.iconst 0, 1) := by decide +kernel
theorem d_V_readParts_101 : decode prog_9_method_4_code 101 = .ok (.ireturn, 1) := by decide +kernel
theorem d_V_readParts_102 : decode prog_9_method_4_code 102 = .ok (.iinc 4 1, 3) := by decide +kernel
theorem d_V_readParts_105 : decode prog_9_method_4_code 105 = .ok (.goto (-70), 3) := by decide +kernel
theorem d_V_readParts_108 : decode prog_9_method_4_code 108 = .ok (.iconst 0, 1) := by decide +kernel
theorem d_V_readParts_109 : decode prog_9_method_4_code 109 = .ok (.ireturn, 1) := by decide +kernel
set_option maxHeartbeats 4000000 in
set_option maxRecDepth 100000 in
theorem cV_readParts (l : Launch) (dC : Nat → ClassId) (dI : Nat → Nat → Nat) (tk : Nat → ClassId) (A : Nat → Prop) (hV : Nat) (LV : Nat → Nat) (gV : aG) (aV : aA) (rw : va_W) (n : Nat) (rv : Int32 → aG → aA → Option (Int32 × aG × aA)) (fk lk : Nat) (hrv : ∀ (v : Int32) (g : aG) (a : aA) (r : Int32) (g1 : aG) (a1 : aA), rv v g a = some (r, g1, a1) → CtI l dC dI tk A ⟨"EditorServer$Values", "readValue", "(I)Z"⟩ prog_9_method_3_code 5 (some .boolean) fk lk [.ref hV, .int v] (oW 3 hV ksV spV tk LV g a rw) r (oW 3 hV ksV spV tk LV g1 a1 rw)) (v1 v2 v3 r0 : Int32) (ogV : aG) (oaV : aA) (hm : mV_readParts n rv v1 v2 v3 gV aV = some (r0, ogV, oaV)) : CtI l dC dI tk A ⟨"EditorServer$Values", "readParts", "(ICI)Z"⟩ prog_9_method_4_code 5 (some .boolean) (fk + 5) (lk + 160) [.ref hV, .int v1, .int v2, .int v3] (oW 3 hV ksV spV tk LV gV aV rw) r0 (oW 3 hV ksV spV tk LV ogV oaV rw) := by
  refine ent (by decide) (Nat.le_of_ble_eq_true rfl) ?_
  intro p e s m args below meth c hx hb hr hml hown hlk hG hg hst ls hl
  unfold mV_readParts at hm
  have hl : lv_has ls 5 [(0, .ref hV), (1, .int v1), (2, .int v2), (3, .int v3)] := hl
  refine lv_iload_n hx hb d_V_readParts_0 rfl (lv_at hl 3 rfl) ?_
  refine lv_bipush (v := 6) hx hb d_V_readParts_1 (by decide) ?_
  refine lv_icmp_le (tgt := 8) hx hb d_V_readParts_3 (by decide) (fun h1 => ?_) (fun h1 => ?_)
  · have hm := it_t hm h1
    refine lv_aload_n hx hb d_V_readParts_8 rfl (lv_at hl 0 rfl) ?_
    refine lv_dup hx hb d_V_readParts_9 rfl ?_
    refine ro_geti hx hb hown hG hg cV hst 10 (by decide) rfl rfl k_80 d_V_readParts_10 ?_
    refine lv_iconst (v := 1) hx hb d_V_readParts_13 (by decide) ?_
    refine lv_iadd hx hb d_V_readParts_14 ?_
    refine ro_puti hx hb hown hG hg cV hst 10 (by decide) rfl rfl rfl rfl rfl k_80 d_V_readParts_15 (fun g2 H locs eg2 hst => ?_)
    have hm := lt_u hm g2 eg2
    refine lv_aload_n hx hb d_V_readParts_18 rfl (lv_at hl 0 rfl) ?_
    obtain ⟨g3, hc4, hm⟩ := bd_u hm
    refine cl_vv hx hb hml hown hG hg (cV_skipBlanks l dC dI tk A hV LV g2 aV rw n _ hc4) (cw_v 0 hG k_346 k_348 s_3 k_3 k_349 (by decide +kernel) ⟨by simp only [rmo]; omega, by simp only [rmo]; omega⟩) hst rfl oW_0 rfl hl.1 rfl (Nat.le_of_ble_eq_true rfl) ⟨Nat.le_refl 0, Nat.le_refl 0⟩ d_V_readParts_19 (fun H locs hst => ?_)
    refine lv_aload_n hx hb d_V_readParts_22 rfl (lv_at hl 0 rfl) ?_
    refine lv_iload_n hx hb d_V_readParts_23 rfl (lv_at hl 2 rfl) ?_
    obtain ⟨⟨x6, g7⟩, hc8, hm⟩ := bd_u hm
    dsimp only at hm
    refine cl_vi hx hb hml hown hG hg (cV_skip l dC dI tk A hV LV g3 aV rw n v2 _ _ hc8) (cw_v 1 hG k_358 k_360 s_6 k_3 k_361 (by decide +kernel) ⟨by simp only [rmo]; omega, by simp only [rmo]; omega⟩) hst rfl oW_0 rfl hl.1 rfl (Nat.le_of_ble_eq_true rfl) ⟨Nat.le_refl 0, Nat.le_refl 0⟩ d_V_readParts_24 (fun H locs hst => ?_)
    refine lv_if_eq (tgt := 32) hx hb d_V_readParts_27 (by decide) (fun h10 => ?_) (fun h10 => ?_)
    · have hm := it_t hm h10
      refine lv_iconst (v := 0) hx hb d_V_readParts_32 (by decide) ?_
      refine lv_istore (lv' := [(4, .int 0), (0, .ref hV), (1, .int v1), (2, .int v2), (3, .int v3)]) hx hb d_V_readParts_33 hl (by decide) rfl (fun ls hl => ?_)
      refine lp_u (fun q14 : Int32 × aG × aA => ∀ (H : Heap) (locs : List Loc) (ls : Array Slot), lv_has ls 5 [(0, .ref hV), (1, .int v1), (2, .int v2), (3, .int v3), (4, .int q14.1)] → St dC dI A s.heap H locs (oW 3 hV ksV spV tk LV q14.2.1 q14.2.2 rw) → W p l e (rmo (fk + 5) (lk + 160)) s m args below meth c H locs 0 0 (MQ below (QI dC dI A r0 (oW 3 hV ksV spV tk LV ogV oaV rw)) args s 0 0 A) (F0 m 35 ls [])) ?_ n (0, g7, aV) hm _ _ _ (lv_sub hl [1, 2, 3, 4, 0] rfl) hst
      rintro ⟨x11, g12, a13⟩ r17 hm hJ150 hR16 H locs ls hl hst
      dsimp only at hm hl hst ⊢
      have hJ15 := fun y0 y1 y2 (e : r17 = .inl (y0, y1, y2)) => hJ150 (y0, y1, y2) e
      dsimp only at hJ15
      refine lv_iload hx hb d_V_readParts_35 (lv_at hl 4 rfl) ?_
      refine lv_bipush (v := 40) hx hb d_V_readParts_37 (by decide) ?_
      refine lv_icmp_ge (tgt := 108) hx hb d_V_readParts_39 (by decide) (fun h18 => ?_) (fun h18 => ?_)
      · have hm := it_t hm h18
        refine lv_iconst (v := 0) hx hb d_V_readParts_108 (by decide) ?_
        have he := (hR16 _ (Option.some.inj hm).symm)
        cases he
        exact rt_i hx hb hr hlk (by decide) hst rfl d_V_readParts_109
      · have hm := it_f hm h18
        refine lv_iload_n hx hb d_V_readParts_42 rfl (lv_at hl 2 rfl) ?_
        refine lv_bipush (v := 125) hx hb d_V_readParts_43 (by decide) ?_
        obtain ⟨qJ19, hm, hLJ19, hR20⟩ := jn_u hm
        have hJ19 : ∀ (g21 : aG) (a22 : aA), qJ19 = .inl (g21, a22) → ∀ (H : Heap) (locs : List Loc) (ls : Array Slot), lv_has ls 5 [(0, .ref hV), (1, .int v1), (2, .int v2), (3, .int v3), (4, .int x11)] → St dC dI A s.heap H locs (oW 3 hV ksV spV tk LV g21 a22 rw) → W p l e (rmo (fk + 5) (lk + 160)) s m args below meth c H locs 0 0 (MQ below (QI dC dI A r0 (oW 3 hV ksV spV tk LV ogV oaV rw)) args s 0 0 A) (F0 m 61 ls []) := by
          intro g21 a22 hq H locs ls hl hst
          have hm := hLJ19 _ hq
          dsimp only at hm
          refine lv_aload_n hx hb d_V_readParts_61 rfl (lv_at hl 0 rfl) ?_
          refine lv_iload_n hx hb d_V_readParts_62 rfl (lv_at hl 3 rfl) ?_
          obtain ⟨⟨x24, g25, a26⟩, hc27, hm⟩ := bd_u hm
          dsimp only at hm
          refine cl_vi hx hb hml hown hG hg (hrv v3 g21 a22 _ _ _ hc27) (cw_v 1 hG k_342 k_344 s_2 k_3 k_345 (by decide +kernel) ⟨by simp only [rmo]; omega, by simp only [rmo]; omega⟩) hst rfl oW_0 rfl hl.1 rfl (Nat.le_of_ble_eq_true rfl) ⟨Nat.le_refl 0, Nat.le_refl 0⟩ d_V_readParts_63 (fun H locs hst => ?_)
          refine lv_if_ne (tgt := 71) hx hb d_V_readParts_66 (by decide) (fun h29 => ?_) (fun h29 => ?_)
          · have hm := it_f hm h29
            refine lv_aload_n hx hb d_V_readParts_71 rfl (lv_at hl 0 rfl) ?_
            refine ro_geta hx hb hown hG hg cV hst 3 3 (by decide) rfl rfl k_73 d_V_readParts_72 ?_
            refine lv_iload_n hx hb d_V_readParts_75 rfl (lv_at hl 1 rfl) ?_
            refine lv_dup2_11 hx hb d_V_readParts_76 rfl rfl ?_
            obtain ⟨hn30, hm⟩ := gd_u hm
            refine ro_iald hx hb hg hst 3 rfl hn30 d_V_readParts_77 ?_
            refine lv_topi (fun x31 ex31 => ?_)
            have hm := lt_u hm x31 ex31
            refine lv_iconst (v := 1) hx hb d_V_readParts_78 (by decide) ?_
            refine lv_iadd hx hb d_V_readParts_79 ?_
            obtain ⟨hn32, hm⟩ := gd_u hm
            refine ro_iast hx hb hg hst 3 rfl hn32 d_V_readParts_80 (fun a33 H locs ea33 hst => ?_)
            have hm := lt_u hm a33 ea33
            refine lv_aload_n hx hb d_V_readParts_81 rfl (lv_at hl 0 rfl) ?_
            refine lv_iload_n hx hb d_V_readParts_82 rfl (lv_at hl 2 rfl) ?_
            obtain ⟨⟨x34, g35⟩, hc36, hm⟩ := bd_u hm
            dsimp only at hm
            refine cl_vi hx hb hml hown hG hg (cV_skip l dC dI tk A hV LV g25 a33 rw n v2 _ _ hc36) (cw_v 1 hG k_358 k_360 s_6 k_3 k_361 (by decide +kernel) ⟨by simp only [rmo]; omega, by simp only [rmo]; omega⟩) hst rfl oW_0 rfl hl.1 rfl (Nat.le_of_ble_eq_true rfl) ⟨Nat.le_refl 0, Nat.le_refl 0⟩ d_V_readParts_83 (fun H locs hst => ?_)
            refine lv_if_eq (tgt := 91) hx hb d_V_readParts_86 (by decide) (fun h38 => ?_) (fun h38 => ?_)
            · have hm := it_t hm h38
              refine lv_aload_n hx hb d_V_readParts_91 rfl (lv_at hl 0 rfl) ?_
              refine lv_bipush (v := 44) hx hb d_V_readParts_92 (by decide) ?_
              obtain ⟨⟨x39, g40⟩, hc41, hm⟩ := bd_u hm
              dsimp only at hm
              refine cl_vi hx hb hml hown hG hg (cV_skip l dC dI tk A hV LV g35 a33 rw n 44 _ _ hc41) (cw_v 1 hG k_358 k_360 s_6 k_3 k_361 (by decide +kernel) ⟨by simp only [rmo]; omega, by simp only [rmo]; omega⟩) hst rfl oW_0 rfl hl.1 rfl (Nat.le_of_ble_eq_true rfl) ⟨Nat.le_refl 0, Nat.le_refl 0⟩ d_V_readParts_94 (fun H locs hst => ?_)
              refine lv_if_ne (tgt := 102) hx hb d_V_readParts_97 (by decide) (fun h43 => ?_) (fun h43 => ?_)
              · have hm := it_f hm h43
                refine lv_iinc (k := 4) (v := (x11 + 1)) (lv' := [(4, .int (x11 + 1)), (0, .ref hV), (1, .int v1), (2, .int v2), (3, .int v3)]) hx hb d_V_readParts_102 hl rfl (by rfl) (by decide) rfl (fun ls hl => ?_)
                refine lv_goto (tgt := 35) hx hb d_V_readParts_105 (by decide) ?_
                exact hJ15 (x11 + 1) g40 a33 (Option.some.inj hm).symm _ _ _ (lv_sub hl [1, 2, 3, 4, 0] rfl) hst
              · have hm := it_t hm h43
                refine lv_iconst (v := 0) hx hb d_V_readParts_100 (by decide) ?_
                have he := (hR16 _ (Option.some.inj hm).symm)
                cases he
                exact rt_i hx hb hr hlk (by decide) hst rfl d_V_readParts_101
            · have hm := it_f hm h38
              refine lv_iconst (v := 1) hx hb d_V_readParts_89 (by decide) ?_
              have he := (hR16 _ (Option.some.inj hm).symm)
              cases he
              exact rt_i hx hb hr hlk (by decide) hst rfl d_V_readParts_90
          · have hm := it_t hm h29
            refine lv_iconst (v := 0) hx hb d_V_readParts_69 (by decide) ?_
            have he := (hR16 _ (Option.some.inj hm).symm)
            cases he
            exact rt_i hx hb hr hlk (by decide) hst rfl d_V_readParts_70
        refine lv_icmp_ne (tgt := 61) hx hb d_V_readParts_45 (by decide) (fun h44 => ?_) (fun h44 => ?_)
        · have hm := it_f hm h44
          exact hJ19 g12 a13 (Option.some.inj hm).symm _ _ _ (lv_sub hl [0, 1, 2, 3, 4] rfl) hst
        · have hm := it_t hm h44
          refine lv_aload_n hx hb d_V_readParts_48 rfl (lv_at hl 0 rfl) ?_
          refine lv_aload_n hx hb d_V_readParts_49 rfl (lv_at hl 0 rfl) ?_
          refine ro_geti hx hb hown hG hg cV hst 11 (by decide) rfl rfl k_81 d_V_readParts_50 ?_
          obtain ⟨⟨x45, g46, a47⟩, hc48, hm⟩ := bd_u hm
          dsimp only at hm
          refine cl_vi hx hb hml hown hG hg (cV_readMemberName l dC dI tk A hV LV g12 a13 rw n (g12 11) _ _ _ hc48) (cw_v 1 hG k_370 k_372 s_9 k_3 k_373 (by decide +kernel) ⟨by simp only [rmo]; omega, by simp only [rmo]; omega⟩) hst rfl oW_0 rfl hl.1 rfl (Nat.le_of_ble_eq_true rfl) ⟨Nat.le_refl 0, Nat.le_refl 0⟩ d_V_readParts_53 (fun H locs hst => ?_)
          refine lv_if_ne (tgt := 61) hx hb d_V_readParts_56 (by decide) (fun h50 => ?_) (fun h50 => ?_)
          · have hm := it_f hm h50
            exact hJ19 g46 a47 (Option.some.inj hm).symm _ _ _ (lv_sub hl [0, 1, 2, 3, 4] rfl) hst
          · have hm := it_t hm h50
            refine lv_iconst (v := 0) hx hb d_V_readParts_59 (by decide) ?_
            have he := (hR16 _ (hR20 _ (Option.some.inj hm).symm).symm)
            cases he
            exact rt_i hx hb hr hlk (by decide) hst rfl d_V_readParts_60
    · have hm := it_f hm h10
      refine lv_iconst (v := 1) hx hb d_V_readParts_30 (by decide) ?_
      have he := (Option.some.inj hm)
      cases he
      exact rt_i hx hb hr hlk (by decide) hst rfl d_V_readParts_31
  · have hm := it_f hm h1
    refine lv_iconst (v := 0) hx hb d_V_readParts_6 (by decide) ?_
    have he := (Option.some.inj hm)
    cases he
    exact rt_i hx hb hr hlk (by decide) hst rfl d_V_readParts_7
def mV_readValue (n : Nat) : Nat → Int32 → aG → aA → Option (Int32 × aG × aA)
  | 0, _, _, _ => none
  | k + 1, v1, gV, aV => bd (mV_skipBlanks n gV aV) (fun g1 => if 40 ≤ (g1 11) then (some ((0, g1, aV))) else (if (g1 10) < (g1 9) then (lt (va_up g1 11 ((g1 11) + 1)) (fun g6 => gd (inb (g1 11) 40) (lt (va_up aV 3 (upd (aV 3) (g1 11).toNatClampNeg 0)) (fun a8 => gd (inb (g6 10) 200) (lt (a8 8 (g6 10).toNatClampNeg) (fun x10 => jn (α := Int32 × aG × aA) (if x10 = 34 then (bd (mV_readString n (g1 11) g6 a8) (fun q76 => some (.inl (q76.1, q76.2.1, q76.2.2)))) else (if x10 = 91 then (gd (inb (g1 11) 40) (lt (va_up a8 0 (upd (a8 0) (g1 11).toNatClampNeg 3)) (fun a66 => bd (mV_readParts n (mV_readValue n k) (g1 11) 93 (v1 + 1) g6 a66) (fun q71 => some (.inl (q71.1, q71.2.1, q71.2.2)))))) else (if x10 = 123 then (gd (inb (g1 11) 40) (lt (va_up a8 0 (upd (a8 0) (g1 11).toNatClampNeg 4)) (fun a59 => bd (mV_readParts n (mV_readValue n k) (g1 11) 125 (v1 + 1) g6 a59) (fun q64 => some (.inl (q64.1, q64.2.1, q64.2.2)))))) else (jn (α := aG × aA) (if x10 = 45 then (some (.inl (g6, a8))) else (bd (mE_isDigit n x10) (fun x37 => if x37 = 0 then (gd (inb (g1 11) 40) (lt (va_up a8 0 (upd (a8 0) (g1 11).toNatClampNeg 0)) (fun a42 => bd (mV_readWord n 0 g6 a42) (fun q46 => if q46.1 = 0 then (bd (mV_readWord n 1 q46.2 a42) (fun q51 => if q51.1 = 0 then (bd (mV_readWord n 2 q51.2 a42) (fun q56 => if q56.1 = 0 then (some (.inr (.inl (0, q56.2, a42)))) else (some (.inr (.inl (1, q56.2, a42)))))) else (some (.inr (.inl (1, q51.2, a42)))))) else (some (.inr (.inl (1, q46.2, a42)))))))) else (some (.inl (g6, a8)))))) (fun q30 => bd (mV_readNumber n (g1 11) q30.1 q30.2) (fun q35 => some (.inl (q35.1, q35.2.1, q35.2.2)))))))) (fun q16 => gd (inb (g1 11) 40) (lt (va_up q16.2.2 4 (upd (q16.2.2 4) (g1 11).toNatClampNeg (q16.2.1 11))) (fun a18 => bd (mV_skipBlanks n q16.2.1 a18) (fun g19 => gd (okz q16.1) (some ((q16.1, g19, a18))))))))))))) else (some ((0, g1, aV)))))
theorem d_V_readValue_0 : decode prog_9_method_3_code 0 = .ok (.aload_n 0, 1) := by decide +kernel
theorem d_V_readValue_1 : decode prog_9_method_3_code 1 = .ok (.invokevirtual 65, 3) := by decide +kernel
theorem d_V_readValue_4 : decode prog_9_method_3_code 4 = .ok (.aload_n 0, 1) := by decide +kernel
theorem d_V_readValue_5 : decode prog_9_method_3_code 5 = .ok (.getfield 55, 3) := by decide +kernel
theorem d_V_readValue_8 : decode prog_9_method_3_code 8 = .ok (.bipush 40, 2) := by decide +kernel
theorem d_V_readValue_10 : decode prog_9_method_3_code 10 = .ok (.if_icmp .ge 14, 3) := by decide +kernel
theorem d_V_readValue_13 : decode prog_9_method_3_code 13 = .ok (.aload_n 0, 1) := by decide +kernel
theorem d_V_readValue_14 : decode prog_9_method_3_code 14 = .ok (.getfield 52, 3) := by decide +kernel
theorem d_V_readValue_17 : decode prog_9_method_3_code 17 = .ok (.aload_n 0, 1) := by decide +kernel
theorem d_V_readValue_18 : decode prog_9_method_3_code 18 = .ok (.getfield 48, 3) := by decide +kernel
theorem d_V_readValue_21 : decode prog_9_method_3_code 21 = .ok (.if_icmp .lt 5, 3) := by decide +kernel
theorem d_V_readValue_24 : decode prog_9_method_3_code 24 = .ok (.iconst 0, 1) := by decide +kernel
theorem d_V_readValue_25 : decode prog_9_method_3_code 25 = .ok (.ireturn, 1) := by decide +kernel
theorem d_V_readValue_26 : decode prog_9_method_3_code 26 = .ok (.aload_n 0, 1) := by decide +kernel
theorem d_V_readValue_27 : decode prog_9_method_3_code 27 = .ok (.getfield 55, 3) := by decide +kernel
theorem d_V_readValue_30 : decode prog_9_method_3_code 30 = .ok (.istore_n 2, 1) := by decide +kernel
theorem d_V_readValue_31 : decode prog_9_method_3_code 31 = .ok (.aload_n 0, 1) := by decide +kernel
theorem d_V_readValue_32 : decode prog_9_method_3_code 32 = .ok (.dup, 1) := by decide +kernel
theorem d_V_readValue_33 : decode prog_9_method_3_code 33 = .ok (.getfield 55, 3) := by decide +kernel
theorem d_V_readValue_36 : decode prog_9_method_3_code 36 = .ok (.iconst 1, 1) := by decide +kernel
theorem d_V_readValue_37 : decode prog_9_method_3_code 37 = .ok (.iadd, 1) := by decide +kernel
theorem d_V_readValue_38 : decode prog_9_method_3_code 38 = .ok (.putfield 55, 3) := by decide +kernel
theorem d_V_readValue_41 : decode prog_9_method_3_code 41 = .ok (.aload_n 0, 1) := by decide +kernel
theorem d_V_readValue_42 : decode prog_9_method_3_code 42 = .ok (.getfield 21, 3) := by decide +kernel
theorem d_V_readValue_45 : decode prog_9_method_3_code 45 = .ok (.iload_n 2, 1) := by decide +kernel
theorem d_V_readValue_46 : decode prog_9_method_3_code 46 = .ok (.iconst 0, 1) := by decide +kernel
theorem d_V_readValue_47 : decode prog_9_method_3_code 47 = .ok (.iastore, 1) := by decide +kernel
theorem d_V_readValue_48 : decode prog_9_method_3_code 48 = .ok (.aload_n 0, 1) := by decide +kernel
theorem d_V_readValue_49 : decode prog_9_method_3_code 49 = .ok (.getfield 39, 3) := by decide +kernel
theorem d_V_readValue_52 : decode prog_9_method_3_code 52 = .ok (.aload_n 0, 1) := by decide +kernel
theorem d_V_readValue_53 : decode prog_9_method_3_code 53 = .ok (.getfield 52, 3) := by decide +kernel
theorem d_V_readValue_56 : decode prog_9_method_3_code 56 = .ok (.caload, 1) := by decide +kernel
theorem d_V_readValue_57 : decode prog_9_method_3_code 57 = .ok (.istore_n 3, 1) := by decide +kernel
theorem d_V_readValue_58 : decode prog_9_method_3_code 58 = .ok (.iload_n 3, 1) := by decide +kernel
theorem d_V_readValue_59 : decode prog_9_method_3_code 59 = .ok (.bipush 34, 2) := by decide +kernel
theorem d_V_readValue_61 : decode prog_9_method_3_code 61 = .ok (.if_icmp .ne 13, 3) := by decide +kernel
theorem d_V_readValue_64 : decode prog_9_method_3_code 64 = .ok (.aload_n 0, 1) := by decide +kernel
theorem d_V_readValue_65 : decode prog_9_method_3_code 65 = .ok (.iload_n 2, 1) := by decide +kernel
theorem d_V_readValue_66 : decode prog_9_method_3_code 66 = .ok (.invokevirtual 68, 3) := by decide +kernel
theorem d_V_readValue_69 : decode prog_9_method_3_code 69 = .ok (.istore 4, 2) := by decide +kernel
theorem d_V_readValue_71 : decode prog_9_method_3_code 71 = .ok (.goto 123, 3) := by decide +kernel
theorem d_V_readValue_74 : decode prog_9_method_3_code 74 = .ok (.iload_n 3, 1) := by decide +kernel
theorem d_V_readValue_75 : decode prog_9_method_3_code 75 = .ok (.bipush 91, 2) := by decide +kernel
theorem d_V_readValue_77 : decode prog_9_method_3_code 77 = .ok (.if_icmp .ne 25, 3) := by decide +kernel
theorem d_V_readValue_80 : decode prog_9_method_3_code 80 = .ok (.aload_n 0, 1) := by decide +kernel
theorem d_V_readValue_81 : decode prog_9_method_3_code 81 = .ok (.getfield 11, 3) := by decide +kernel
theorem d_V_readValue_84 : decode prog_9_method_3_code 84 = .ok (.iload_n 2, 1) := by decide +kernel
theorem d_V_readValue_85 : decode prog_9_method_3_code 85 = .ok (.iconst 3, 1) := by decide +kernel
theorem d_V_readValue_86 : decode prog_9_method_3_code 86 = .ok (.iastore, 1) := by decide +kernel
theorem d_V_readValue_87 : decode prog_9_method_3_code 87 = .ok (.aload_n 0, 1) := by decide +kernel
theorem d_V_readValue_88 : decode prog_9_method_3_code 88 = .ok (.iload_n 2, 1) := by decide +kernel
theorem d_V_readValue_89 : decode prog_9_method_3_code 89 = .ok (.bipush 93, 2) := by decide +kernel
theorem d_V_readValue_91 : decode prog_9_method_3_code 91 = .ok (.iload_n 1, 1) := by decide +kernel
theorem d_V_readValue_92 : decode prog_9_method_3_code 92 = .ok (.iconst 1, 1) := by decide +kernel
theorem d_V_readValue_93 : decode prog_9_method_3_code 93 = .ok (.iadd, 1) := by decide +kernel
theorem d_V_readValue_94 : decode prog_9_method_3_code 94 = .ok (.invokevirtual 71, 3) := by decide +kernel
theorem d_V_readValue_97 : decode prog_9_method_3_code 97 = .ok (.istore 4, 2) := by decide +kernel
theorem d_V_readValue_99 : decode prog_9_method_3_code 99 = .ok (.goto 95, 3) := by decide +kernel
theorem d_V_readValue_102 : decode prog_9_method_3_code 102 = .ok (.iload_n 3, 1) := by decide +kernel
theorem d_V_readValue_103 : decode prog_9_method_3_code 103 = .ok (.bipush 123, 2) := by decide +kernel
theorem d_V_readValue_105 : decode prog_9_method_3_code 105 = .ok (.if_icmp .ne 25, 3) := by decide +kernel
theorem d_V_readValue_108 : decode prog_9_method_3_code 108 = .ok (.aload_n 0, 1) := by decide +kernel
theorem d_V_readValue_109 : decode prog_9_method_3_code 109 = .ok (.getfield 11, 3) := by decide +kernel
theorem d_V_readValue_112 : decode prog_9_method_3_code 112 = .ok (.iload_n 2, 1) := by decide +kernel
theorem d_V_readValue_113 : decode prog_9_method_3_code 113 = .ok (.iconst 4, 1) := by decide +kernel
theorem d_V_readValue_114 : decode prog_9_method_3_code 114 = .ok (.iastore, 1) := by decide +kernel
theorem d_V_readValue_115 : decode prog_9_method_3_code 115 = .ok (.aload_n 0, 1) := by decide +kernel
theorem d_V_readValue_116 : decode prog_9_method_3_code 116 = .ok (.iload_n 2, 1) := by decide +kernel
theorem d_V_readValue_117 : decode prog_9_method_3_code 117 = .ok (.bipush 125, 2) := by decide +kernel
theorem d_V_readValue_119 : decode prog_9_method_3_code 119 = .ok (.iload_n 1, 1) := by decide +kernel
theorem d_V_readValue_120 : decode prog_9_method_3_code 120 = .ok (.iconst 1, 1) := by decide +kernel
theorem d_V_readValue_121 : decode prog_9_method_3_code 121 = .ok (.iadd, 1) := by decide +kernel
theorem d_V_readValue_122 : decode prog_9_method_3_code 122 = .ok (.invokevirtual 71, 3) := by decide +kernel
theorem d_V_readValue_125 : decode prog_9_method_3_code 125 = .ok (.istore 4, 2) := by decide +kernel
theorem d_V_readValue_127 : decode prog_9_method_3_code 127 = .ok (.goto 67, 3) := by decide +kernel
theorem d_V_readValue_130 : decode prog_9_method_3_code 130 = .ok (.iload_n 3, 1) := by decide +kernel
theorem d_V_readValue_131 : decode prog_9_method_3_code 131 = .ok (.bipush 45, 2) := by decide +kernel
theorem d_V_readValue_133 : decode prog_9_method_3_code 133 = .ok (.if_icmp .eq 10, 3) := by decide +kernel
theorem d_V_readValue_136 : decode prog_9_method_3_code 136 = .ok (.iload_n 3, 1) := by decide +kernel
theorem d_V_readValue_137 : decode prog_9_method_3_code 137 = .ok (.invokestatic 75, 3) := by decide +kernel
theorem d_V_readValue_140 : decode prog_9_method_3_code 140 = .ok (.ifCond .eq 13, 3) := by decide +kernel
theorem d_V_readValue_143 : decode prog_9_method_3_code 143 = .ok (.aload_n 0, 1) := by decide +kernel
theorem d_V_readValue_144 : decode prog_9_method_3_code 144 = .ok (.iload_n 2, 1) := by decide +kernel
theorem d_V_readValue_145 : decode prog_9_method_3_code 145 = .ok (.invokevirtual 79, 3) := by decide +kernel
theorem d_V_readValue_148 : decode prog_9_method_3_code 148 = .ok (.istore 4, 2) := by decide +kernel
theorem d_V_readValue_150 : decode prog_9_method_3_code 150 = .ok (.goto 44, 3) := by decide +kernel
theorem d_V_readValue_153 : decode prog_9_method_3_code 153 = .ok (.aload_n 0, 1) := by decide +kernel
theorem d_V_readValue_154 : decode prog_9_method_3_code 154 = .ok (.getfield 11, 3) := by decide +kernel
theorem d_V_readValue_157 : decode prog_9_method_3_code 157 = .ok (.iload_n 2, 1) := by decide +kernel
theorem d_V_readValue_158 : decode prog_9_method_3_code 158 = .ok (.iconst 0, 1) := by decide +kernel
theorem d_V_readValue_159 : decode prog_9_method_3_code 159 = .ok (.iastore, 1) := by decide +kernel
theorem d_V_readValue_160 : decode prog_9_method_3_code 160 = .ok (.aload_n 0, 1) := by decide +kernel
theorem d_V_readValue_161 : decode prog_9_method_3_code 161 = .ok (.ldc 82, 2) := by decide +kernel
theorem d_V_readValue_163 : decode prog_9_method_3_code 163 = .ok (.invokevirtual 84, 3) := by decide +kernel
theorem d_V_readValue_166 : decode prog_9_method_3_code 166 = .ok (.ifCond .ne 21, 3) := by decide +kernel
theorem d_V_readValue_169 : decode prog_9_method_3_code 169 = .ok (.aload_n 0, 1) := by decide +kernel
theorem d_V_readValue_170 : decode prog_9_method_3_code 170 = .ok (.ldc 88, 2) := by decide +kernel
theorem d_V_readValue_172 : decode prog_9_method_3_code 172 = .ok (.invokevirtual 84, 3) := by decide +kernel
theorem d_V_readValue_175 : decode prog_9_method_3_code 175 = .ok (.ifCond .ne 12, 3) := by decide +kernel
theorem d_V_readValue_178 : decode prog_9_method_3_code 178 = .ok (.aload_n 0, 1) := by decide +kernel
theorem d_V_readValue_179 : decode prog_9_method_3_code 179 = .ok (.ldc 90, 2) := by decide +kernel
theorem d_V_readValue_181 : decode prog_9_method_3_code 181 = .ok (.invokevirtual 84, 3) := by decide +kernel
theorem d_V_readValue_184 : decode prog_9_method_3_code 184 = .ok (.ifCond .eq 7, 3) := by decide +kernel
theorem d_V_readValue_187 : decode prog_9_method_3_code 187 = .ok (.iconst 1, 1) := by decide +kernel
theorem d_V_readValue_188 : decode prog_9_method_3_code 188 = .ok (.goto 4, 3) := by decide +kernel
theorem d_V_readValue_191 : decode prog_9_method_3_code 191 = .ok (.iconst 0, 1) := by decide +kernel
theorem d_V_readValue_192 : decode prog_9_method_3_code 192 = .ok (.istore 4, 2) := by decide +kernel
theorem d_V_readValue_194 : decode prog_9_method_3_code 194 = .ok (.aload_n 0, 1) := by decide +kernel
theorem d_V_readValue_195 : decode prog_9_method_3_code 195 = .ok (.getfield 24, 3) := by decide +kernel
theorem d_V_readValue_198 : decode prog_9_method_3_code 198 = .ok (.iload_n 2, 1) := by decide +kernel
theorem d_V_readValue_199 : decode prog_9_method_3_code 199 = .ok (.aload_n 0, 1) := by decide +kernel
theorem d_V_readValue_200 : decode prog_9_method_3_code 200 = .ok (.getfield 55, 3) := by decide +kernel
theorem d_V_readValue_203 : decode prog_9_method_3_code 203 = .ok (.iastore, 1) := by decide +kernel
theorem d_V_readValue_204 : decode prog_9_method_3_code 204 = .ok (.aload_n 0, 1) := by decide +kernel
theorem d_V_readValue_205 : decode prog_9_method_3_code 205 = .ok (.invokevirtual 65, 3) := by decide +kernel
theorem d_V_readValue_208 : decode prog_9_method_3_code 208 = .ok (.iload 4, 2) := by decide +kernel
theorem d_V_readValue_210 : decode prog_9_method_3_code 210 = .ok (.ireturn, 1) := by decide +kernel
set_option maxHeartbeats 4000000 in
set_option maxRecDepth 100000 in
theorem cV_readValue (l : Launch) (dC : Nat → ClassId) (dI : Nat → Nat → Nat) (tk : Nat → ClassId) (A : Nat → Prop) (hV : Nat) (LV : Nat → Nat) (rw : va_W) (n : Nat) : ∀ (k : Nat) (v1 : Int32) (gV : aG) (aV : aA) (r0 : Int32) (ogV : aG) (oaV : aA), mV_readValue n k v1 gV aV = some (r0, ogV, oaV) → CtI l dC dI tk A ⟨"EditorServer$Values", "readValue", "(I)Z"⟩ prog_9_method_3_code 5 (some .boolean) (6 * k + 4) (200 * k + 100) [.ref hV, .int v1] (oW 3 hV ksV spV tk LV gV aV rw) r0 (oW 3 hV ksV spV tk LV ogV oaV rw) := by
  intro k
  induction k with
  | zero => intro v1 gV aV r0 ogV oaV hm; cases hm
  | succ k ih =>
    intro v1 gV aV r0 ogV oaV hm
    rw [mV_readValue] at hm
    refine ent (by decide) (Nat.le_of_ble_eq_true rfl) ?_
    intro p e s m args below meth c hx hb hr hml hown hlk hG hg hst ls hl
    skip
    have hl : lv_has ls 5 [(0, .ref hV), (1, .int v1)] := hl
    refine lv_aload_n hx hb d_V_readValue_0 rfl (lv_at hl 0 rfl) ?_
    obtain ⟨g1, hc2, hm⟩ := bd_u hm
    refine cl_vv hx hb hml hown hG hg (cV_skipBlanks l dC dI tk A hV LV gV aV rw n _ hc2) (cw_v 0 hG k_346 k_348 s_3 k_3 k_349 (by decide +kernel) ⟨by simp only [rmo]; omega, by simp only [rmo]; omega⟩) hst rfl oW_0 rfl hl.1 rfl (Nat.le_of_ble_eq_true rfl) ⟨Nat.le_refl 0, Nat.le_refl 0⟩ d_V_readValue_1 (fun H locs hst => ?_)
    refine lv_aload_n hx hb d_V_readValue_4 rfl (lv_at hl 0 rfl) ?_
    refine ro_geti hx hb hown hG hg cV hst 11 (by decide) rfl rfl k_81 d_V_readValue_5 ?_
    refine lv_bipush (v := 40) hx hb d_V_readValue_8 (by decide) ?_
    refine lv_icmp_ge (tgt := 24) hx hb d_V_readValue_10 (by decide) (fun h4 => ?_) (fun h4 => ?_)
    · have hm := it_t hm h4
      refine lv_iconst (v := 0) hx hb d_V_readValue_24 (by decide) ?_
      have he := (Option.some.inj hm)
      cases he
      exact rt_i hx hb hr hlk (by decide) hst rfl d_V_readValue_25
    · have hm := it_f hm h4
      refine lv_aload_n hx hb d_V_readValue_13 rfl (lv_at hl 0 rfl) ?_
      refine ro_geti hx hb hown hG hg cV hst 10 (by decide) rfl rfl k_80 d_V_readValue_14 ?_
      refine lv_aload_n hx hb d_V_readValue_17 rfl (lv_at hl 0 rfl) ?_
      refine ro_geti hx hb hown hG hg cV hst 9 (by decide) rfl rfl k_79 d_V_readValue_18 ?_
      refine lv_icmp_lt (tgt := 26) hx hb d_V_readValue_21 (by decide) (fun h5 => ?_) (fun h5 => ?_)
      · have hm := it_t hm h5
        refine lv_aload_n hx hb d_V_readValue_26 rfl (lv_at hl 0 rfl) ?_
        refine ro_geti hx hb hown hG hg cV hst 11 (by decide) rfl rfl k_81 d_V_readValue_27 ?_
        refine lv_istore_n (lv' := [(2, .int (g1 11)), (0, .ref hV), (1, .int v1)]) hx hb d_V_readValue_30 rfl hl (by decide) rfl (fun ls hl => ?_)
        refine lv_aload_n hx hb d_V_readValue_31 rfl (lv_at hl 1 rfl) ?_
        refine lv_dup hx hb d_V_readValue_32 rfl ?_
        refine ro_geti hx hb hown hG hg cV hst 11 (by decide) rfl rfl k_81 d_V_readValue_33 ?_
        refine lv_iconst (v := 1) hx hb d_V_readValue_36 (by decide) ?_
        refine lv_iadd hx hb d_V_readValue_37 ?_
        refine ro_puti hx hb hown hG hg cV hst 11 (by decide) rfl rfl rfl rfl rfl k_81 d_V_readValue_38 (fun g6 H locs eg6 hst => ?_)
        have hm := lt_u hm g6 eg6
        refine lv_aload_n hx hb d_V_readValue_41 rfl (lv_at hl 1 rfl) ?_
        refine ro_geta hx hb hown hG hg cV hst 3 3 (by decide) rfl rfl k_73 d_V_readValue_42 ?_
        refine lv_iload_n hx hb d_V_readValue_45 rfl (lv_at hl 0 rfl) ?_
        refine lv_iconst (v := 0) hx hb d_V_readValue_46 (by decide) ?_
        obtain ⟨hn7, hm⟩ := gd_u hm
        refine ro_iast hx hb hg hst 3 rfl hn7 d_V_readValue_47 (fun a8 H locs ea8 hst => ?_)
        have hm := lt_u hm a8 ea8
        refine lv_aload_n hx hb d_V_readValue_48 rfl (lv_at hl 1 rfl) ?_
        refine ro_geta hx hb hown hG hg cV hst 8 8 (by decide) rfl rfl k_78 d_V_readValue_49 ?_
        refine lv_aload_n hx hb d_V_readValue_52 rfl (lv_at hl 1 rfl) ?_
        refine ro_geti hx hb hown hG hg cV hst 10 (by decide) rfl rfl k_80 d_V_readValue_53 ?_
        obtain ⟨hn9, hm⟩ := gd_u hm
        refine ro_cald hx hb hg hst 8 rfl hn9 d_V_readValue_56 ?_
        refine lv_topi (fun x10 ex10 => ?_)
        have hm := lt_u hm x10 ex10
        refine lv_istore_n (lv' := [(3, .int x10), (2, .int (g1 11)), (0, .ref hV), (1, .int v1)]) hx hb d_V_readValue_57 rfl hl (by decide) rfl (fun ls hl => ?_)
        refine lv_iload_n hx hb d_V_readValue_58 rfl (lv_at hl 0 rfl) ?_
        refine lv_bipush (v := 34) hx hb d_V_readValue_59 (by decide) ?_
        obtain ⟨qJ11, hm, hLJ11, hR12⟩ := jn_u hm
        have hJ11 : ∀ (x13 : Int32) (g14 : aG) (a15 : aA), qJ11 = .inl (x13, g14, a15) → ∀ (H : Heap) (locs : List Loc) (ls : Array Slot), lv_has ls 5 [(0, .ref hV), (1, .int v1), (2, .int (g1 11)), (3, .int x10), (4, .int x13)] → St dC dI A s.heap H locs (oW 3 hV ksV spV tk LV g14 a15 rw) → W p l e (rmo (6 * (k + 1) + 4) (200 * (k + 1) + 100)) s m args below meth c H locs 0 0 (MQ below (QI dC dI A r0 (oW 3 hV ksV spV tk LV ogV oaV rw)) args s 0 0 A) (F0 m 194 ls []) := by
          intro x13 g14 a15 hq H locs ls hl hst
          have hm := hLJ11 _ hq
          dsimp only at hm
          refine lv_aload_n hx hb d_V_readValue_194 rfl (lv_at hl 0 rfl) ?_
          refine ro_geta hx hb hown hG hg cV hst 4 4 (by decide) rfl rfl k_74 d_V_readValue_195 ?_
          refine lv_iload_n hx hb d_V_readValue_198 rfl (lv_at hl 2 rfl) ?_
          refine lv_aload_n hx hb d_V_readValue_199 rfl (lv_at hl 0 rfl) ?_
          refine ro_geti hx hb hown hG hg cV hst 11 (by decide) rfl rfl k_81 d_V_readValue_200 ?_
          obtain ⟨hn17, hm⟩ := gd_u hm
          refine ro_iast hx hb hg hst 4 rfl hn17 d_V_readValue_203 (fun a18 H locs ea18 hst => ?_)
          have hm := lt_u hm a18 ea18
          refine lv_aload_n hx hb d_V_readValue_204 rfl (lv_at hl 0 rfl) ?_
          obtain ⟨g19, hc20, hm⟩ := bd_u hm
          refine cl_vv hx hb hml hown hG hg (cV_skipBlanks l dC dI tk A hV LV g14 a18 rw n _ hc20) (cw_v 0 hG k_346 k_348 s_3 k_3 k_349 (by decide +kernel) ⟨by simp only [rmo]; omega, by simp only [rmo]; omega⟩) hst rfl oW_0 rfl hl.1 rfl (Nat.le_of_ble_eq_true rfl) ⟨Nat.le_refl 0, Nat.le_refl 0⟩ d_V_readValue_205 (fun H locs hst => ?_)
          refine lv_iload hx hb d_V_readValue_208 (lv_at hl 4 rfl) ?_
          obtain ⟨hn22, hm⟩ := gd_u hm
          have he := (Option.some.inj hm)
          cases he
          exact rt_i hx hb hr hlk (okz_n hn22).1 hst rfl d_V_readValue_210
        refine lv_icmp_ne (tgt := 74) hx hb d_V_readValue_61 (by decide) (fun h23 => ?_) (fun h23 => ?_)
        · have hm := it_f hm h23
          refine lv_iload_n hx hb d_V_readValue_74 rfl (lv_at hl 0 rfl) ?_
          refine lv_bipush (v := 91) hx hb d_V_readValue_75 (by decide) ?_
          refine lv_icmp_ne (tgt := 102) hx hb d_V_readValue_77 (by decide) (fun h24 => ?_) (fun h24 => ?_)
          · have hm := it_f hm h24
            refine lv_iload_n hx hb d_V_readValue_102 rfl (lv_at hl 0 rfl) ?_
            refine lv_bipush (v := 123) hx hb d_V_readValue_103 (by decide) ?_
            refine lv_icmp_ne (tgt := 130) hx hb d_V_readValue_105 (by decide) (fun h25 => ?_) (fun h25 => ?_)
            · have hm := it_f hm h25
              refine lv_iload_n hx hb d_V_readValue_130 rfl (lv_at hl 0 rfl) ?_
              refine lv_bipush (v := 45) hx hb d_V_readValue_131 (by decide) ?_
              obtain ⟨qJ26, hm, hLJ26, hR27⟩ := jn_u hm
              have hJ26 : ∀ (g28 : aG) (a29 : aA), qJ26 = .inl (g28, a29) → ∀ (H : Heap) (locs : List Loc) (ls : Array Slot), lv_has ls 5 [(0, .ref hV), (1, .int v1), (2, .int (g1 11)), (3, .int x10)] → St dC dI A s.heap H locs (oW 3 hV ksV spV tk LV g28 a29 rw) → W p l e (rmo (6 * (k + 1) + 4) (200 * (k + 1) + 100)) s m args below meth c H locs 0 0 (MQ below (QI dC dI A r0 (oW 3 hV ksV spV tk LV ogV oaV rw)) args s 0 0 A) (F0 m 143 ls []) := by
                intro g28 a29 hq H locs ls hl hst
                have hm := hLJ26 _ hq
                dsimp only at hm
                refine lv_aload_n hx hb d_V_readValue_143 rfl (lv_at hl 0 rfl) ?_
                refine lv_iload_n hx hb d_V_readValue_144 rfl (lv_at hl 2 rfl) ?_
                obtain ⟨⟨x31, g32, a33⟩, hc34, hm⟩ := bd_u hm
                dsimp only at hm
                refine cl_vi hx hb hml hown hG hg (cV_readNumber l dC dI tk A hV LV g28 a29 rw n (g1 11) _ _ _ hc34) (cw_v 1 hG k_375 k_377 s_10 k_3 k_378 (by decide +kernel) ⟨by simp only [rmo]; omega, by simp only [rmo]; omega⟩) hst rfl oW_0 rfl hl.1 rfl (Nat.le_of_ble_eq_true rfl) ⟨Nat.le_refl 0, Nat.le_refl 0⟩ d_V_readValue_145 (fun H locs hst => ?_)
                refine lv_istore (lv' := [(4, .int x31), (0, .ref hV), (1, .int v1), (2, .int (g1 11)), (3, .int x10)]) hx hb d_V_readValue_148 hl (by decide) rfl (fun ls hl => ?_)
                refine lv_goto (tgt := 194) hx hb d_V_readValue_150 (by decide) ?_
                exact hJ11 x31 g32 a33 (Option.some.inj hm).symm _ _ _ (lv_sub hl [1, 2, 3, 4, 0] rfl) hst
              refine lv_icmp_eq (tgt := 143) hx hb d_V_readValue_133 (by decide) (fun h36 => ?_) (fun h36 => ?_)
              · have hm := it_t hm h36
                exact hJ26 g6 a8 (Option.some.inj hm).symm _ _ _ (lv_sub hl [2, 3, 1, 0] rfl) hst
              · have hm := it_f hm h36
                refine lv_iload_n hx hb d_V_readValue_136 rfl (lv_at hl 0 rfl) ?_
                obtain ⟨x37, hc38, hm⟩ := bd_u hm
                refine cl_sn (n := 1) hx hb hml hown hG hg (cE_isDigit l dC dI tk A (oW 3 hV ksV spV tk LV g6 a8 rw) n x10 _ hc38) t_374 k_325 k_1 k_326 (by decide +kernel) ⟨by simp only [rmo]; omega, by simp only [rmo]; omega⟩ hst rfl hl.1 rfl (Nat.le_of_ble_eq_true rfl) ⟨Nat.le_refl 0, Nat.le_refl 0⟩ d_V_readValue_137 (fun H locs hst => ?_)
                refine lv_if_eq (tgt := 153) hx hb d_V_readValue_140 (by decide) (fun h40 => ?_) (fun h40 => ?_)
                · have hm := it_t hm h40
                  refine lv_aload_n hx hb d_V_readValue_153 rfl (lv_at hl 2 rfl) ?_
                  refine ro_geta hx hb hown hG hg cV hst 0 0 (by decide) rfl rfl k_70 d_V_readValue_154 ?_
                  refine lv_iload_n hx hb d_V_readValue_157 rfl (lv_at hl 1 rfl) ?_
                  refine lv_iconst (v := 0) hx hb d_V_readValue_158 (by decide) ?_
                  obtain ⟨hn41, hm⟩ := gd_u hm
                  refine ro_iast hx hb hg hst 0 rfl hn41 d_V_readValue_159 (fun a42 H locs ea42 hst => ?_)
                  have hm := lt_u hm a42 ea42
                  refine lv_aload_n hx hb d_V_readValue_160 rfl (lv_at hl 2 rfl) ?_
                  refine va_ldcS hx hb hown (hg.2.2.2.1 0 (by decide)).2.2.2.2 d_V_readValue_161 ?_
                  obtain ⟨⟨x43, g44⟩, hc45, hm⟩ := bd_u hm
                  dsimp only at hm
                  refine cl_vi hx hb hml hown hG hg (cV_readWord l dC dI tk A hV LV g6 a42 rw n 0 (by decide) _ _ hc45) (cw_v 1 hG k_380 k_382 s_11 k_3 k_383 (by decide +kernel) ⟨by simp only [rmo]; omega, by simp only [rmo]; omega⟩) hst rfl oW_0 rfl hl.1 rfl (Nat.le_of_ble_eq_true rfl) ⟨Nat.le_refl 0, Nat.le_refl 0⟩ d_V_readValue_163 (fun H locs hst => ?_)
                  refine lv_if_ne (tgt := 187) hx hb d_V_readValue_166 (by decide) (fun h47 => ?_) (fun h47 => ?_)
                  · have hm := it_f hm h47
                    refine lv_iconst (v := 1) hx hb d_V_readValue_187 (by decide) ?_
                    refine lv_goto (tgt := 192) hx hb d_V_readValue_188 (by decide) ?_
                    refine lv_istore (lv' := [(4, .int 1), (3, .int x10), (2, .int (g1 11)), (0, .ref hV), (1, .int v1)]) hx hb d_V_readValue_192 hl (by decide) rfl (fun ls hl => ?_)
                    exact hJ11 1 g44 a42 (hR27 _ (Option.some.inj hm).symm).symm _ _ _ (lv_sub hl [3, 4, 2, 1, 0] rfl) hst
                  · have hm := it_t hm h47
                    refine lv_aload_n hx hb d_V_readValue_169 rfl (lv_at hl 2 rfl) ?_
                    refine va_ldcS hx hb hown (hg.2.2.2.1 1 (by decide)).2.2.2.2 d_V_readValue_170 ?_
                    obtain ⟨⟨x48, g49⟩, hc50, hm⟩ := bd_u hm
                    dsimp only at hm
                    refine cl_vi hx hb hml hown hG hg (cV_readWord l dC dI tk A hV LV g44 a42 rw n 1 (by decide) _ _ hc50) (cw_v 1 hG k_380 k_382 s_11 k_3 k_383 (by decide +kernel) ⟨by simp only [rmo]; omega, by simp only [rmo]; omega⟩) hst rfl oW_0 rfl hl.1 rfl (Nat.le_of_ble_eq_true rfl) ⟨Nat.le_refl 0, Nat.le_refl 0⟩ d_V_readValue_172 (fun H locs hst => ?_)
                    refine lv_if_ne (tgt := 187) hx hb d_V_readValue_175 (by decide) (fun h52 => ?_) (fun h52 => ?_)
                    · have hm := it_f hm h52
                      refine lv_iconst (v := 1) hx hb d_V_readValue_187 (by decide) ?_
                      refine lv_goto (tgt := 192) hx hb d_V_readValue_188 (by decide) ?_
                      refine lv_istore (lv' := [(4, .int 1), (3, .int x10), (2, .int (g1 11)), (0, .ref hV), (1, .int v1)]) hx hb d_V_readValue_192 hl (by decide) rfl (fun ls hl => ?_)
                      exact hJ11 1 g49 a42 (hR27 _ (Option.some.inj hm).symm).symm _ _ _ (lv_sub hl [3, 4, 2, 1, 0] rfl) hst
                    · have hm := it_t hm h52
                      refine lv_aload_n hx hb d_V_readValue_178 rfl (lv_at hl 2 rfl) ?_
                      refine va_ldcS hx hb hown (hg.2.2.2.1 2 (by decide)).2.2.2.2 d_V_readValue_179 ?_
                      obtain ⟨⟨x53, g54⟩, hc55, hm⟩ := bd_u hm
                      dsimp only at hm
                      refine cl_vi hx hb hml hown hG hg (cV_readWord l dC dI tk A hV LV g49 a42 rw n 2 (by decide) _ _ hc55) (cw_v 1 hG k_380 k_382 s_11 k_3 k_383 (by decide +kernel) ⟨by simp only [rmo]; omega, by simp only [rmo]; omega⟩) hst rfl oW_0 rfl hl.1 rfl (Nat.le_of_ble_eq_true rfl) ⟨Nat.le_refl 0, Nat.le_refl 0⟩ d_V_readValue_181 (fun H locs hst => ?_)
                      refine lv_if_eq (tgt := 191) hx hb d_V_readValue_184 (by decide) (fun h57 => ?_) (fun h57 => ?_)
                      · have hm := it_t hm h57
                        refine lv_iconst (v := 0) hx hb d_V_readValue_191 (by decide) ?_
                        refine lv_istore (lv' := [(4, .int 0), (3, .int x10), (2, .int (g1 11)), (0, .ref hV), (1, .int v1)]) hx hb d_V_readValue_192 hl (by decide) rfl (fun ls hl => ?_)
                        exact hJ11 0 g54 a42 (hR27 _ (Option.some.inj hm).symm).symm _ _ _ (lv_sub hl [3, 4, 2, 1, 0] rfl) hst
                      · have hm := it_f hm h57
                        refine lv_iconst (v := 1) hx hb d_V_readValue_187 (by decide) ?_
                        refine lv_goto (tgt := 192) hx hb d_V_readValue_188 (by decide) ?_
                        refine lv_istore (lv' := [(4, .int 1), (3, .int x10), (2, .int (g1 11)), (0, .ref hV), (1, .int v1)]) hx hb d_V_readValue_192 hl (by decide) rfl (fun ls hl => ?_)
                        exact hJ11 1 g54 a42 (hR27 _ (Option.some.inj hm).symm).symm _ _ _ (lv_sub hl [3, 4, 2, 1, 0] rfl) hst
                · have hm := it_f hm h40
                  exact hJ26 g6 a8 (Option.some.inj hm).symm _ _ _ (lv_sub hl [2, 3, 1, 0] rfl) hst
            · have hm := it_t hm h25
              refine lv_aload_n hx hb d_V_readValue_108 rfl (lv_at hl 2 rfl) ?_
              refine ro_geta hx hb hown hG hg cV hst 0 0 (by decide) rfl rfl k_70 d_V_readValue_109 ?_
              refine lv_iload_n hx hb d_V_readValue_112 rfl (lv_at hl 1 rfl) ?_
              refine lv_iconst (v := 4) hx hb d_V_readValue_113 (by decide) ?_
              obtain ⟨hn58, hm⟩ := gd_u hm
              refine ro_iast hx hb hg hst 0 rfl hn58 d_V_readValue_114 (fun a59 H locs ea59 hst => ?_)
              have hm := lt_u hm a59 ea59
              refine lv_aload_n hx hb d_V_readValue_115 rfl (lv_at hl 2 rfl) ?_
              refine lv_iload_n hx hb d_V_readValue_116 rfl (lv_at hl 1 rfl) ?_
              refine lv_bipush (v := 125) hx hb d_V_readValue_117 (by decide) ?_
              refine lv_iload_n hx hb d_V_readValue_119 rfl (lv_at hl 3 rfl) ?_
              refine lv_iconst (v := 1) hx hb d_V_readValue_120 (by decide) ?_
              refine lv_iadd hx hb d_V_readValue_121 ?_
              obtain ⟨⟨x60, g61, a62⟩, hc63, hm⟩ := bd_u hm
              dsimp only at hm
              refine cl_vi hx hb hml hown hG hg (cV_readParts l dC dI tk A hV LV g6 a59 rw n (mV_readValue n k) (6 * k + 4) (200 * k + 100) ih (g1 11) 125 (v1 + 1) _ _ _ hc63) (cw_v 3 hG k_366 k_368 s_8 k_3 k_369 (by decide +kernel) ⟨by simp only [rmo]; omega, by simp only [rmo]; omega⟩) hst rfl oW_0 rfl hl.1 rfl (Nat.le_of_ble_eq_true rfl) ⟨Nat.le_refl 0, Nat.le_refl 0⟩ d_V_readValue_122 (fun H locs hst => ?_)
              refine lv_istore (lv' := [(4, .int x60), (3, .int x10), (2, .int (g1 11)), (0, .ref hV), (1, .int v1)]) hx hb d_V_readValue_125 hl (by decide) rfl (fun ls hl => ?_)
              refine lv_goto (tgt := 194) hx hb d_V_readValue_127 (by decide) ?_
              exact hJ11 x60 g61 a62 (Option.some.inj hm).symm _ _ _ (lv_sub hl [3, 4, 2, 1, 0] rfl) hst
          · have hm := it_t hm h24
            refine lv_aload_n hx hb d_V_readValue_80 rfl (lv_at hl 2 rfl) ?_
            refine ro_geta hx hb hown hG hg cV hst 0 0 (by decide) rfl rfl k_70 d_V_readValue_81 ?_
            refine lv_iload_n hx hb d_V_readValue_84 rfl (lv_at hl 1 rfl) ?_
            refine lv_iconst (v := 3) hx hb d_V_readValue_85 (by decide) ?_
            obtain ⟨hn65, hm⟩ := gd_u hm
            refine ro_iast hx hb hg hst 0 rfl hn65 d_V_readValue_86 (fun a66 H locs ea66 hst => ?_)
            have hm := lt_u hm a66 ea66
            refine lv_aload_n hx hb d_V_readValue_87 rfl (lv_at hl 2 rfl) ?_
            refine lv_iload_n hx hb d_V_readValue_88 rfl (lv_at hl 1 rfl) ?_
            refine lv_bipush (v := 93) hx hb d_V_readValue_89 (by decide) ?_
            refine lv_iload_n hx hb d_V_readValue_91 rfl (lv_at hl 3 rfl) ?_
            refine lv_iconst (v := 1) hx hb d_V_readValue_92 (by decide) ?_
            refine lv_iadd hx hb d_V_readValue_93 ?_
            obtain ⟨⟨x67, g68, a69⟩, hc70, hm⟩ := bd_u hm
            dsimp only at hm
            refine cl_vi hx hb hml hown hG hg (cV_readParts l dC dI tk A hV LV g6 a66 rw n (mV_readValue n k) (6 * k + 4) (200 * k + 100) ih (g1 11) 93 (v1 + 1) _ _ _ hc70) (cw_v 3 hG k_366 k_368 s_8 k_3 k_369 (by decide +kernel) ⟨by simp only [rmo]; omega, by simp only [rmo]; omega⟩) hst rfl oW_0 rfl hl.1 rfl (Nat.le_of_ble_eq_true rfl) ⟨Nat.le_refl 0, Nat.le_refl 0⟩ d_V_readValue_94 (fun H locs hst => ?_)
            refine lv_istore (lv' := [(4, .int x67), (3, .int x10), (2, .int (g1 11)), (0, .ref hV), (1, .int v1)]) hx hb d_V_readValue_97 hl (by decide) rfl (fun ls hl => ?_)
            refine lv_goto (tgt := 194) hx hb d_V_readValue_99 (by decide) ?_
            exact hJ11 x67 g68 a69 (Option.some.inj hm).symm _ _ _ (lv_sub hl [3, 4, 2, 1, 0] rfl) hst
        · have hm := it_t hm h23
          refine lv_aload_n hx hb d_V_readValue_64 rfl (lv_at hl 2 rfl) ?_
          refine lv_iload_n hx hb d_V_readValue_65 rfl (lv_at hl 1 rfl) ?_
          obtain ⟨⟨x72, g73, a74⟩, hc75, hm⟩ := bd_u hm
          dsimp only at hm
          refine cl_vi hx hb hml hown hG hg (cV_readString l dC dI tk A hV LV g6 a8 rw n (g1 11) _ _ _ hc75) (cw_v 1 hG k_350 k_352 s_4 k_3 k_353 (by decide +kernel) ⟨by simp only [rmo]; omega, by simp only [rmo]; omega⟩) hst rfl oW_0 rfl hl.1 rfl (Nat.le_of_ble_eq_true rfl) ⟨Nat.le_refl 0, Nat.le_refl 0⟩ d_V_readValue_66 (fun H locs hst => ?_)
          refine lv_istore (lv' := [(4, .int x72), (3, .int x10), (2, .int (g1 11)), (0, .ref hV), (1, .int v1)]) hx hb d_V_readValue_69 hl (by decide) rfl (fun ls hl => ?_)
          refine lv_goto (tgt := 194) hx hb d_V_readValue_71 (by decide) ?_
          exact hJ11 x72 g73 a74 (Option.some.inj hm).symm _ _ _ (lv_sub hl [3, 4, 2, 1, 0] rfl) hst
      · have hm := it_f hm h5
        refine lv_iconst (v := 0) hx hb d_V_readValue_24 (by decide) ?_
        have he := (Option.some.inj hm)
        cases he
        exact rt_i hx hb hr hlk (by decide) hst rfl d_V_readValue_25
def mV_read (n : Nat) (v1 : Int32) (gV : aG) (aV : aA) : Option (Int32 × aG × aA) := lt (if 200 < v1 then 200 else v1) (fun x1 => lt (va_up gV 9 x1) (fun g2 => lt (va_up g2 10 0) (fun g3 => lt (va_up g3 11 0) (fun g4 => lt (va_up g4 12 0) (fun g5 => bd (mV_readValue n 8 0 g5 aV) (fun q10 => if q10.1 = 0 then (some ((0, q10.2.1, q10.2.2))) else (if (q10.2.1 10) = (q10.2.1 9) then (some ((1, q10.2.1, q10.2.2))) else (some ((0, q10.2.1, q10.2.2))))))))))
theorem d_V_read_0 : decode prog_9_method_2_code 0 = .ok (.aload_n 0, 1) := by decide +kernel
theorem d_V_read_1 : decode prog_9_method_2_code 1 = .ok (.iload_n 1, 1) := by decide +kernel
theorem d_V_read_2 : decode prog_9_method_2_code 2 = .ok (.aload_n 0, 1) := by decide +kernel
theorem d_V_read_3 : decode prog_9_method_2_code 3 = .ok (.getfield 39, 3) := by decide +kernel
theorem d_V_read_6 : decode prog_9_method_2_code 6 = .ok (.arraylength, 1) := by decide +kernel
theorem d_V_read_7 : decode prog_9_method_2_code 7 = .ok (.invokestatic 42, 3) := by decide +kernel
theorem d_V_read_10 : decode prog_9_method_2_code 10 = .ok (.putfield 48, 3) := by decide +kernel
theorem d_V_read_13 : decode prog_9_method_2_code 13 = .ok (.aload_n 0, 1) := by decide +kernel
theorem d_V_read_14 : decode prog_9_method_2_code 14 = .ok (.iconst 0, 1) := by decide +kernel
theorem d_V_read_15 : decode prog_9_method_2_code 15 = .ok (.putfield 52, 3) := by decide +kernel
theorem d_V_read_18 : decode prog_9_method_2_code 18 = .ok (.aload_n 0, 1) := by decide +kernel
theorem d_V_read_19 : decode prog_9_method_2_code 19 = .ok (.iconst 0, 1) := by decide +kernel
theorem d_V_read_20 : decode prog_9_method_2_code 20 = .ok (.putfield 55, 3) := by decide +kernel
theorem d_V_read_23 : decode prog_9_method_2_code 23 = .ok (.aload_n 0, 1) := by decide +kernel
theorem d_V_read_24 : decode prog_9_method_2_code 24 = .ok (.iconst 0, 1) := by decide +kernel
theorem d_V_read_25 : decode prog_9_method_2_code 25 = .ok (.putfield 58, 3) := by decide +kernel
theorem d_V_read_28 : decode prog_9_method_2_code 28 = .ok (.aload_n 0, 1) := by decide +kernel
theorem d_V_read_29 : decode prog_9_method_2_code 29 = .ok (.iconst 0, 1) := by decide +kernel
theorem d_V_read_30 : decode prog_9_method_2_code 30 = .ok (.invokevirtual 61, 3) := by decide +kernel
theorem d_V_read_33 : decode prog_9_method_2_code 33 = .ok (.ifCond .eq 18, 3) := by decide +kernel
theorem d_V_read_36 : decode prog_9_method_2_code 36 = .ok (.aload_n 0, 1) := by decide +kernel
theorem d_V_read_37 : decode prog_9_method_2_code 37 = .ok (.getfield 52, 3) := by decide +kernel
theorem d_V_read_40 : decode prog_9_method_2_code 40 = .ok (.aload_n 0, 1) := by decide +kernel
theorem d_V_read_41 : decode prog_9_method_2_code 41 = .ok (.getfield 48, 3) := by decide +kernel
theorem d_V_read_44 : decode prog_9_method_2_code 44 = .ok (.if_icmp .ne 7, 3) := by decide +kernel
theorem d_V_read_47 : decode prog_9_method_2_code 47 = .ok (.iconst 1, 1) := by decide +kernel
theorem d_V_read_48 : decode prog_9_method_2_code 48 = .ok (.goto 4, 3) := by decide +kernel
theorem d_V_read_51 : decode prog_9_method_2_code 51 = .ok (.iconst 0, 1) := by decide +kernel
theorem d_V_read_52 : decode prog_9_method_2_code 52 = .ok (.ireturn, 1) := by decide +kernel
set_option maxHeartbeats 4000000 in
set_option maxRecDepth 100000 in
theorem cV_read (l : Launch) (dC : Nat → ClassId) (dI : Nat → Nat → Nat) (tk : Nat → ClassId) (A : Nat → Prop) (hV : Nat) (LV : Nat → Nat) (gV : aG) (aV : aA) (rw : va_W) (n : Nat) (v1 r0 : Int32) (ogV : aG) (oaV : aA) (hm : mV_read n v1 gV aV = some (r0, ogV, oaV)) : CtI l dC dI tk A ⟨"EditorServer$Values", "read", "(I)Z"⟩ prog_9_method_2_code 2 (some .boolean) 53 1730 [.ref hV, .int v1] (oW 3 hV ksV spV tk LV gV aV rw) r0 (oW 3 hV ksV spV tk LV ogV oaV rw) := by
  refine ent (by decide) (Nat.le_of_ble_eq_true rfl) ?_
  intro p e s m args below meth c hx hb hr hml hown hlk hG hg hst ls hl
  unfold mV_read at hm
  have hl : lv_has ls 2 [(0, .ref hV), (1, .int v1)] := hl
  refine lv_aload_n hx hb d_V_read_0 rfl (lv_at hl 0 rfl) ?_
  refine lv_iload_n hx hb d_V_read_1 rfl (lv_at hl 1 rfl) ?_
  refine lv_aload_n hx hb d_V_read_2 rfl (lv_at hl 0 rfl) ?_
  refine ro_geta hx hb hown hG hg cV hst 8 8 (by decide) rfl rfl k_78 d_V_read_3 ?_
  refine va_alen (v := 200) hx hb hg.2.1 hst.1 9 1 (oW_g rfl) rfl rfl d_V_read_6 ?_
  refine va_mmin hx hb (hml.trans hl.1.symm) hown (hG _ k_339) (hG _ k_340) (hG _ k_15) (hG _ k_341) (Nat.le_of_ble_eq_true rfl) (Nat.le_of_ble_eq_true rfl) (Nat.le_refl 0) (Nat.le_refl 0) d_V_read_7 ?_
  refine lv_topi (fun x1 ex1 => ?_)
  have hm := lt_u hm x1 ex1
  refine ro_puti hx hb hown hG hg cV hst 9 (by decide) rfl rfl rfl rfl rfl k_79 d_V_read_10 (fun g2 H locs eg2 hst => ?_)
  have hm := lt_u hm g2 eg2
  refine lv_aload_n hx hb d_V_read_13 rfl (lv_at hl 0 rfl) ?_
  refine lv_iconst (v := 0) hx hb d_V_read_14 (by decide) ?_
  refine ro_puti hx hb hown hG hg cV hst 10 (by decide) rfl rfl rfl rfl rfl k_80 d_V_read_15 (fun g3 H locs eg3 hst => ?_)
  have hm := lt_u hm g3 eg3
  refine lv_aload_n hx hb d_V_read_18 rfl (lv_at hl 0 rfl) ?_
  refine lv_iconst (v := 0) hx hb d_V_read_19 (by decide) ?_
  refine ro_puti hx hb hown hG hg cV hst 11 (by decide) rfl rfl rfl rfl rfl k_81 d_V_read_20 (fun g4 H locs eg4 hst => ?_)
  have hm := lt_u hm g4 eg4
  refine lv_aload_n hx hb d_V_read_23 rfl (lv_at hl 0 rfl) ?_
  refine lv_iconst (v := 0) hx hb d_V_read_24 (by decide) ?_
  refine ro_puti hx hb hown hG hg cV hst 12 (by decide) rfl rfl rfl rfl rfl k_82 d_V_read_25 (fun g5 H locs eg5 hst => ?_)
  have hm := lt_u hm g5 eg5
  refine lv_aload_n hx hb d_V_read_28 rfl (lv_at hl 0 rfl) ?_
  refine lv_iconst (v := 0) hx hb d_V_read_29 (by decide) ?_
  obtain ⟨⟨x6, g7, a8⟩, hc9, hm⟩ := bd_u hm
  dsimp only at hm
  refine cl_vi hx hb hml hown hG hg (cV_readValue l dC dI tk A hV LV rw n 8 0 g5 aV _ _ _ hc9) (cw_v 1 hG k_342 k_344 s_2 k_3 k_345 (by decide +kernel) ⟨by decide, by decide⟩) hst rfl oW_0 rfl hl.1 rfl (Nat.le_of_ble_eq_true rfl) ⟨Nat.le_refl 0, Nat.le_refl 0⟩ d_V_read_30 (fun H locs hst => ?_)
  refine lv_if_eq (tgt := 51) hx hb d_V_read_33 (by decide) (fun h11 => ?_) (fun h11 => ?_)
  · have hm := it_t hm h11
    refine lv_iconst (v := 0) hx hb d_V_read_51 (by decide) ?_
    have he := (Option.some.inj hm)
    cases he
    exact rt_i hx hb hr hlk (by decide) hst rfl d_V_read_52
  · have hm := it_f hm h11
    refine lv_aload_n hx hb d_V_read_36 rfl (lv_at hl 0 rfl) ?_
    refine ro_geti hx hb hown hG hg cV hst 10 (by decide) rfl rfl k_80 d_V_read_37 ?_
    refine lv_aload_n hx hb d_V_read_40 rfl (lv_at hl 0 rfl) ?_
    refine ro_geti hx hb hown hG hg cV hst 9 (by decide) rfl rfl k_79 d_V_read_41 ?_
    refine lv_icmp_ne (tgt := 51) hx hb d_V_read_44 (by decide) (fun h12 => ?_) (fun h12 => ?_)
    · have hm := it_f hm h12
      refine lv_iconst (v := 0) hx hb d_V_read_51 (by decide) ?_
      have he := (Option.some.inj hm)
      cases he
      exact rt_i hx hb hr hlk (by decide) hst rfl d_V_read_52
    · have hm := it_t hm h12
      refine lv_iconst (v := 1) hx hb d_V_read_47 (by decide) ?_
      refine lv_goto (tgt := 52) hx hb d_V_read_48 (by decide) ?_
      have he := (Option.some.inj hm)
      cases he
      exact rt_i hx hb hr hlk (by decide) hst rfl d_V_read_52
