abbrev ksV : List (Option Nat) := [some 0, some 1, some 2, some 3, some 4, some 5, some 6, some 7, some 8, none, none, none, none]
abbrev spV : List (Nat × Nat) := [(0, 40), (0, 40), (0, 40), (0, 40), (0, 40), (0, 40), (0, 40), (1, 200), (1, 200)]
abbrev ksT : List (Option Nat) := [some 0, none]
abbrev spT : List (Nat × Nat) := [(1, 60)]
abbrev ksD : List (Option Nat) := [some 0, some 1, none, none]
abbrev spD : List (Nat × Nat) := [(1, 4)]
abbrev ksK : List (Option Nat) := [some 0, none, none, none, none, none]
abbrev spK : List (Nat × Nat) := []
abbrev ksF : List (Option Nat) := [some 0, none, none, none, none, none]
abbrev spF : List (Nat × Nat) := [(1, 200)]
abbrev ksN : List (Option Nat) := [some 0, some 1, some 2, some 3, some 4, none]
abbrev spN : List (Nat × Nat) := [(0, 60), (2, 60), (2, 60), (0, 60)]
abbrev ksE : List (Option Nat) := [some 0, some 1, some 2, some 3, some 4, none, none, none, none]
abbrev spE : List (Nat × Nat) := []
def mV_escaped (n : Nat) (gV : aG) (aV : aA) : Option (Int32 × aG) := jn (α := Int32) (if (gV 9) ≤ (gV 10) then (some (.inl 0)) else (gd (inb (gV 10) 200) (lt (aV 8 (gV 10).toNatClampNeg) (fun x14 => some (.inl x14))))) (fun x3 => lt (va_up gV 10 ((gV 10) + 1)) (fun g5 => if x3 = 110 then (gd (okc 10) (some ((10, g5)))) else (if x3 = 34 then (gd (okc x3) (some ((x3, g5)))) else (if x3 = 92 then (gd (okc x3) (some ((x3, g5)))) else (some ((0, g5)))))))
theorem d_V_escaped_0 : decode prog_9_method_8_code 0 = .ok (.aload_n 0, 1) := by decide +kernel
theorem d_V_escaped_1 : decode prog_9_method_8_code 1 = .ok (.getfield 52, 3) := by decide +kernel
theorem d_V_escaped_4 : decode prog_9_method_8_code 4 = .ok (.aload_n 0, 1) := by decide +kernel
theorem d_V_escaped_5 : decode prog_9_method_8_code 5 = .ok (.getfield 48, 3) := by decide +kernel
theorem d_V_escaped_8 : decode prog_9_method_8_code 8 = .ok (.if_icmp .ge 15, 3) := by decide +kernel
theorem d_V_escaped_11 : decode prog_9_method_8_code 11 = .ok (.aload_n 0, 1) := by decide +kernel
theorem d_V_escaped_12 : decode prog_9_method_8_code 12 = .ok (.getfield 39, 3) := by decide +kernel
theorem d_V_escaped_15 : decode prog_9_method_8_code 15 = .ok (.aload_n 0, 1) := by decide +kernel
theorem d_V_escaped_16 : decode prog_9_method_8_code 16 = .ok (.getfield 52, 3) := by decide +kernel
theorem d_V_escaped_19 : decode prog_9_method_8_code 19 = .ok (.caload, 1) := by decide +kernel
theorem d_V_escaped_20 : decode prog_9_method_8_code 20 = .ok (.goto 4, 3) := by decide +kernel
theorem d_V_escaped_23 : decode prog_9_method_8_code 23 = .ok (.iconst 0, 1) := by decide +kernel
theorem d_V_escaped_24 : decode prog_9_method_8_code 24 = .ok (.istore_n 1, 1) := by decide +kernel
theorem d_V_escaped_25 : decode prog_9_method_8_code 25 = .ok (.aload_n 0, 1) := by decide +kernel
theorem d_V_escaped_26 : decode prog_9_method_8_code 26 = .ok (.dup, 1) := by decide +kernel
theorem d_V_escaped_27 : decode prog_9_method_8_code 27 = .ok (.getfield 52, 3) := by decide +kernel
theorem d_V_escaped_30 : decode prog_9_method_8_code 30 = .ok (.iconst 1, 1) := by decide +kernel
theorem d_V_escaped_31 : decode prog_9_method_8_code 31 = .ok (.iadd, 1) := by decide +kernel
theorem d_V_escaped_32 : decode prog_9_method_8_code 32 = .ok (.putfield 52, 3) := by decide +kernel
theorem d_V_escaped_35 : decode prog_9_method_8_code 35 = .ok (.iload_n 1, 1) := by decide +kernel
theorem d_V_escaped_36 : decode prog_9_method_8_code 36 = .ok (.bipush 110, 2) := by decide +kernel
theorem d_V_escaped_38 : decode prog_9_method_8_code 38 = .ok (.if_icmp .ne 6, 3) := by decide +kernel
theorem d_V_escaped_41 : decode prog_9_method_8_code 41 = .ok (.bipush 10, 2) := by decide +kernel
theorem d_V_escaped_43 : decode prog_9_method_8_code 43 = .ok (.ireturn, 1) := by decide +kernel
theorem d_V_escaped_44 : decode prog_9_method_8_code 44 = .ok (.iload_n 1, 1) := by decide +kernel
theorem d_V_escaped_45 : decode prog_9_method_8_code 45 = .ok (.bipush 34, 2) := by decide +kernel
theorem d_V_escaped_47 : decode prog_9_method_8_code 47 = .ok (.if_icmp .eq 9, 3) := by decide +kernel
theorem d_V_escaped_50 : decode prog_9_method_8_code 50 = .ok (.iload_n 1, 1) := by decide +kernel
theorem d_V_escaped_51 : decode prog_9_method_8_code 51 = .ok (.bipush 92, 2) := by decide +kernel
theorem d_V_escaped_53 : decode prog_9_method_8_code 53 = .ok (.if_icmp .ne 7, 3) := by decide +kernel
theorem d_V_escaped_56 : decode prog_9_method_8_code 56 = .ok (.iload_n 1, 1) := by decide +kernel
theorem d_V_escaped_57 : decode prog_9_method_8_code 57 = .ok (.goto 4, 3) := by decide +kernel
theorem d_V_escaped_60 : decode prog_9_method_8_code 60 = .ok (.iconst 0, 1) := by decide +kernel
theorem d_V_escaped_61 : decode prog_9_method_8_code 61 = .ok (.ireturn, 1) := by decide +kernel
set_option maxHeartbeats 4000000 in
set_option maxRecDepth 100000 in
theorem cV_escaped (l : Launch) (dC : Nat → ClassId) (dI : Nat → Nat → Nat) (tk : Nat → ClassId) (A : Nat → Prop) (hV : Nat) (LV : Nat → Nat) (gV : aG) (aV : aA) (rw : va_W) (n : Nat) (r0 : Int32) (ogV : aG) (hm : mV_escaped n gV aV = some (r0, ogV)) : CtI l dC dI tk A ⟨"EditorServer$Values", "escaped", "()C"⟩ prog_9_method_8_code 2 (some .char) 0 0 [.ref hV] (oW 3 hV ksV spV tk LV gV aV rw) r0 (oW 3 hV ksV spV tk LV ogV aV rw) := by
  refine ent (by decide) (Nat.le_of_ble_eq_true rfl) ?_
  intro p e s m args below meth c hx hb hr hml hown hlk hG hg hst ls hl
  unfold mV_escaped at hm
  have hl : lv_has ls 2 [(0, .ref hV)] := hl
  refine lv_aload_n hx hb d_V_escaped_0 rfl (lv_at hl 0 rfl) ?_
  refine ro_geti hx hb hown hG hg cV hst 10 (by decide) rfl rfl k_80 d_V_escaped_1 ?_
  refine lv_aload_n hx hb d_V_escaped_4 rfl (lv_at hl 0 rfl) ?_
  refine ro_geti hx hb hown hG hg cV hst 9 (by decide) rfl rfl k_79 d_V_escaped_5 ?_
  obtain ⟨qJ1, hm, hLJ1, hR2⟩ := jn_u hm
  have hJ1 : ∀ (x3 : Int32), qJ1 = .inl x3 → ∀ (H : Heap) (locs : List Loc) (ls : Array Slot), lv_has ls 2 [(0, .ref hV)] → St dC dI A s.heap H locs (oW 3 hV ksV spV tk LV gV aV rw) → W p l e (rmo 0 0) s m args below meth c H locs 0 0 (MQ below (QI dC dI A r0 (oW 3 hV ksV spV tk LV ogV aV rw)) args s 0 0 A) (F0 m 24 ls [.int x3]) := by
    intro x3 hq H locs ls hl hst
    have hm := hLJ1 _ hq
    refine lv_istore_n (lv' := [(1, .int x3), (0, .ref hV)]) hx hb d_V_escaped_24 rfl hl (by decide) rfl (fun ls hl => ?_)
    refine lv_aload_n hx hb d_V_escaped_25 rfl (lv_at hl 1 rfl) ?_
    refine lv_dup hx hb d_V_escaped_26 rfl ?_
    refine ro_geti hx hb hown hG hg cV hst 10 (by decide) rfl rfl k_80 d_V_escaped_27 ?_
    refine lv_iconst (v := 1) hx hb d_V_escaped_30 (by decide) ?_
    refine lv_iadd hx hb d_V_escaped_31 ?_
    refine ro_puti hx hb hown hG hg cV hst 10 (by decide) rfl rfl rfl rfl rfl k_80 d_V_escaped_32 (fun g5 H locs eg5 hst => ?_)
    have hm := lt_u hm g5 eg5
    refine lv_iload_n hx hb d_V_escaped_35 rfl (lv_at hl 0 rfl) ?_
    refine lv_bipush (v := 110) hx hb d_V_escaped_36 (by decide) ?_
    refine lv_icmp_ne (tgt := 44) hx hb d_V_escaped_38 (by decide) (fun h6 => ?_) (fun h6 => ?_)
    · have hm := it_f hm h6
      refine lv_iload_n hx hb d_V_escaped_44 rfl (lv_at hl 0 rfl) ?_
      refine lv_bipush (v := 34) hx hb d_V_escaped_45 (by decide) ?_
      refine lv_icmp_eq (tgt := 56) hx hb d_V_escaped_47 (by decide) (fun h7 => ?_) (fun h7 => ?_)
      · have hm := it_t hm h7
        refine lv_iload_n hx hb d_V_escaped_56 rfl (lv_at hl 0 rfl) ?_
        refine lv_goto (tgt := 61) hx hb d_V_escaped_57 (by decide) ?_
        obtain ⟨hn8, hm⟩ := gd_u hm
        have he := (Option.some.inj hm)
        cases he
        exact rt_i hx hb hr hlk (okc_n hn8).1 hst rfl d_V_escaped_61
      · have hm := it_f hm h7
        refine lv_iload_n hx hb d_V_escaped_50 rfl (lv_at hl 0 rfl) ?_
        refine lv_bipush (v := 92) hx hb d_V_escaped_51 (by decide) ?_
        refine lv_icmp_ne (tgt := 60) hx hb d_V_escaped_53 (by decide) (fun h9 => ?_) (fun h9 => ?_)
        · have hm := it_f hm h9
          refine lv_iconst (v := 0) hx hb d_V_escaped_60 (by decide) ?_
          have he := (Option.some.inj hm)
          cases he
          exact rt_i hx hb hr hlk (by decide) hst rfl d_V_escaped_61
        · have hm := it_t hm h9
          refine lv_iload_n hx hb d_V_escaped_56 rfl (lv_at hl 0 rfl) ?_
          refine lv_goto (tgt := 61) hx hb d_V_escaped_57 (by decide) ?_
          obtain ⟨hn10, hm⟩ := gd_u hm
          have he := (Option.some.inj hm)
          cases he
          exact rt_i hx hb hr hlk (okc_n hn10).1 hst rfl d_V_escaped_61
    · have hm := it_t hm h6
      refine lv_bipush (v := 10) hx hb d_V_escaped_41 (by decide) ?_
      obtain ⟨hn11, hm⟩ := gd_u hm
      have he := (Option.some.inj hm)
      cases he
      exact rt_i hx hb hr hlk (okc_n hn11).1 hst rfl d_V_escaped_43
  refine lv_icmp_ge (tgt := 23) hx hb d_V_escaped_8 (by decide) (fun h12 => ?_) (fun h12 => ?_)
  · have hm := it_t hm h12
    refine lv_iconst (v := 0) hx hb d_V_escaped_23 (by decide) ?_
    exact hJ1 0 (Option.some.inj hm).symm _ _ _ (lv_sub hl [0] rfl) hst
  · have hm := it_f hm h12
    refine lv_aload_n hx hb d_V_escaped_11 rfl (lv_at hl 0 rfl) ?_
    refine ro_geta hx hb hown hG hg cV hst 8 8 (by decide) rfl rfl k_78 d_V_escaped_12 ?_
    refine lv_aload_n hx hb d_V_escaped_15 rfl (lv_at hl 0 rfl) ?_
    refine ro_geti hx hb hown hG hg cV hst 10 (by decide) rfl rfl k_80 d_V_escaped_16 ?_
    obtain ⟨hn13, hm⟩ := gd_u hm
    refine ro_cald hx hb hg hst 8 rfl hn13 d_V_escaped_19 ?_
    refine lv_topi (fun x14 ex14 => ?_)
    have hm := lt_u hm x14 ex14
    refine lv_goto (tgt := 24) hx hb d_V_escaped_20 (by decide) ?_
    exact hJ1 x14 (Option.some.inj hm).symm _ _ _ (lv_sub hl [0] rfl) hst
def mV_skip (n : Nat) (v1 : Int32) (gV : aG) (aV : aA) : Option (Int32 × aG) := if (gV 9) ≤ (gV 10) then (some ((0, gV))) else (gd (inb (gV 10) 200) (lt (aV 8 (gV 10).toNatClampNeg) (fun x3 => if x3 = v1 then (lt (va_up gV 10 ((gV 10) + 1)) (fun g5 => some ((1, g5)))) else (some ((0, gV))))))
theorem d_V_skip_0 : decode prog_9_method_11_code 0 = .ok (.aload_n 0, 1) := by decide +kernel
theorem d_V_skip_1 : decode prog_9_method_11_code 1 = .ok (.getfield 52, 3) := by decide +kernel
theorem d_V_skip_4 : decode prog_9_method_11_code 4 = .ok (.aload_n 0, 1) := by decide +kernel
theorem d_V_skip_5 : decode prog_9_method_11_code 5 = .ok (.getfield 48, 3) := by decide +kernel
theorem d_V_skip_8 : decode prog_9_method_11_code 8 = .ok (.if_icmp .ge 28, 3) := by decide +kernel
theorem d_V_skip_11 : decode prog_9_method_11_code 11 = .ok (.aload_n 0, 1) := by decide +kernel
theorem d_V_skip_12 : decode prog_9_method_11_code 12 = .ok (.getfield 39, 3) := by decide +kernel
theorem d_V_skip_15 : decode prog_9_method_11_code 15 = .ok (.aload_n 0, 1) := by decide +kernel
theorem d_V_skip_16 : decode prog_9_method_11_code 16 = .ok (.getfield 52, 3) := by decide +kernel
theorem d_V_skip_19 : decode prog_9_method_11_code 19 = .ok (.caload, 1) := by decide +kernel
theorem d_V_skip_20 : decode prog_9_method_11_code 20 = .ok (.iload_n 1, 1) := by decide +kernel
theorem d_V_skip_21 : decode prog_9_method_11_code 21 = .ok (.if_icmp .ne 15, 3) := by decide +kernel
theorem d_V_skip_24 : decode prog_9_method_11_code 24 = .ok (.aload_n 0, 1) := by decide +kernel
theorem d_V_skip_25 : decode prog_9_method_11_code 25 = .ok (.dup, 1) := by decide +kernel
theorem d_V_skip_26 : decode prog_9_method_11_code 26 = .ok (.getfield 52, 3) := by decide +kernel
theorem d_V_skip_29 : decode prog_9_method_11_code 29 = .ok (.iconst 1, 1) := by decide +kernel
theorem d_V_skip_30 : decode prog_9_method_11_code 30 = .ok (.iadd, 1) := by decide +kernel
theorem d_V_skip_31 : decode prog_9_method_11_code 31 = .ok (.putfield 52, 3) := by decide +kernel
theorem d_V_skip_34 : decode prog_9_method_11_code 34 = .ok (.iconst 1, 1) := by decide +kernel
theorem d_V_skip_35 : decode prog_9_method_11_code 35 = .ok (.ireturn, 1) := by decide +kernel
theorem d_V_skip_36 : decode prog_9_method_11_code 36 = .ok (.iconst 0, 1) := by decide +kernel
theorem d_V_skip_37 : decode prog_9_method_11_code 37 = .ok (.ireturn, 1) := by decide +kernel
set_option maxHeartbeats 4000000 in
set_option maxRecDepth 100000 in
theorem cV_skip (l : Launch) (dC : Nat → ClassId) (dI : Nat → Nat → Nat) (tk : Nat → ClassId) (A : Nat → Prop) (hV : Nat) (LV : Nat → Nat) (gV : aG) (aV : aA) (rw : va_W) (n : Nat) (v1 : Int32) (r0 : Int32) (ogV : aG) (hm : mV_skip n v1 gV aV = some (r0, ogV)) : CtI l dC dI tk A ⟨"EditorServer$Values", "skip", "(C)Z"⟩ prog_9_method_11_code 2 (some .boolean) 0 0 [.ref hV, .int v1] (oW 3 hV ksV spV tk LV gV aV rw) r0 (oW 3 hV ksV spV tk LV ogV aV rw) := by
  refine ent (by decide) (Nat.le_of_ble_eq_true rfl) ?_
  intro p e s m args below meth c hx hb hr hml hown hlk hG hg hst ls hl
  unfold mV_skip at hm
  have hl : lv_has ls 2 [(0, .ref hV), (1, .int v1)] := hl
  refine lv_aload_n hx hb d_V_skip_0 rfl (lv_at hl 0 rfl) ?_
  refine ro_geti hx hb hown hG hg cV hst 10 (by decide) rfl rfl k_80 d_V_skip_1 ?_
  refine lv_aload_n hx hb d_V_skip_4 rfl (lv_at hl 0 rfl) ?_
  refine ro_geti hx hb hown hG hg cV hst 9 (by decide) rfl rfl k_79 d_V_skip_5 ?_
  refine lv_icmp_ge (tgt := 36) hx hb d_V_skip_8 (by decide) (fun h1 => ?_) (fun h1 => ?_)
  · have hm := it_t hm h1
    refine lv_iconst (v := 0) hx hb d_V_skip_36 (by decide) ?_
    have he := (Option.some.inj hm)
    cases he
    exact rt_i hx hb hr hlk (by decide) hst rfl d_V_skip_37
  · have hm := it_f hm h1
    refine lv_aload_n hx hb d_V_skip_11 rfl (lv_at hl 0 rfl) ?_
    refine ro_geta hx hb hown hG hg cV hst 8 8 (by decide) rfl rfl k_78 d_V_skip_12 ?_
    refine lv_aload_n hx hb d_V_skip_15 rfl (lv_at hl 0 rfl) ?_
    refine ro_geti hx hb hown hG hg cV hst 10 (by decide) rfl rfl k_80 d_V_skip_16 ?_
    obtain ⟨hn2, hm⟩ := gd_u hm
    refine ro_cald hx hb hg hst 8 rfl hn2 d_V_skip_19 ?_
    refine lv_topi (fun x3 ex3 => ?_)
    have hm := lt_u hm x3 ex3
    refine lv_iload_n hx hb d_V_skip_20 rfl (lv_at hl 1 rfl) ?_
    refine lv_icmp_ne (tgt := 36) hx hb d_V_skip_21 (by decide) (fun h4 => ?_) (fun h4 => ?_)
    · have hm := it_f hm h4
      refine lv_iconst (v := 0) hx hb d_V_skip_36 (by decide) ?_
      have he := (Option.some.inj hm)
      cases he
      exact rt_i hx hb hr hlk (by decide) hst rfl d_V_skip_37
    · have hm := it_t hm h4
      refine lv_aload_n hx hb d_V_skip_24 rfl (lv_at hl 0 rfl) ?_
      refine lv_dup hx hb d_V_skip_25 rfl ?_
      refine ro_geti hx hb hown hG hg cV hst 10 (by decide) rfl rfl k_80 d_V_skip_26 ?_
      refine lv_iconst (v := 1) hx hb d_V_skip_29 (by decide) ?_
      refine lv_iadd hx hb d_V_skip_30 ?_
      refine ro_puti hx hb hown hG hg cV hst 10 (by decide) rfl rfl rfl rfl rfl k_80 d_V_skip_31 (fun g5 H locs eg5 hst => ?_)
      have hm := lt_u hm g5 eg5
      refine lv_iconst (v := 1) hx hb d_V_skip_34 (by decide) ?_
      have he := (Option.some.inj hm)
      cases he
      exact rt_i hx hb hr hlk (by decide) hst rfl d_V_skip_35
def mV_readLetters (n : Nat) (gV : aG) (aV : aA) : Option (Int32 × aG × aA) := bd (mV_skip n 34 gV aV) (fun q4 => if q4.1 = 0 then (some ((0, q4.2, aV))) else (lp (ε := aG × aA) (fun q8 => if (q8.1 9) ≤ (q8.1 10) then (some (.inr ((0, q8.1, q8.2)))) else (bd (mV_skip n 34 q8.1 q8.2) (fun q16 => if q16.1 = 0 then (gd (inb (q16.2 10) 200) (lt (q8.2 8 (q16.2 10).toNatClampNeg) (fun x19 => lt (va_up q16.2 10 ((q16.2 10) + 1)) (fun g20 => jn (α := Int32 × aG) (if x19 = 92 then (bd (mV_escaped n g20 q8.2) (fun q37 => some (.inl (q37.1, q37.2)))) else (if x19 < 32 then (some (.inr (.inr ((0, g20, q8.2))))) else (if x19 ≤ 126 then (some (.inl (x19, g20))) else (some (.inr (.inr ((0, g20, q8.2)))))))) (fun q25 => if q25.1 = 0 then (some (.inr ((0, q25.2, q8.2)))) else (if (q25.2 12) < 200 then (gd (inb (q25.2 12) 200) (lt (va_up q8.2 7 (upd (q8.2 7) (q25.2 12).toNatClampNeg (vp_nar .char q25.1))) (fun a29 => lt (va_up q25.2 12 ((q25.2 12) + 1)) (fun g30 => some (.inl (g30, a29)))))) else (some (.inr ((0, q25.2, q8.2)))))))))) else (some (.inr ((1, q16.2, q8.2))))))) n (q4.2, aV)))
theorem d_V_readLetters_0 : decode prog_9_method_7_code 0 = .ok (.aload_n 0, 1) := by decide +kernel
theorem d_V_readLetters_1 : decode prog_9_method_7_code 1 = .ok (.bipush 34, 2) := by decide +kernel
theorem d_V_readLetters_3 : decode prog_9_method_7_code 3 = .ok (.invokevirtual 92, 3) := by decide +kernel
theorem d_V_readLetters_6 : decode prog_9_method_7_code 6 = .ok (.ifCond .ne 5, 3) := by decide +kernel
theorem d_V_readLetters_9 : decode prog_9_method_7_code 9 = .ok (.iconst 0, 1) := by decide +kernel
theorem d_V_readLetters_10 : decode prog_9_method_7_code 10 = .ok (.ireturn, 1) := by decide +kernel
theorem d_V_readLetters_11 : decode prog_9_method_7_code 11 = .ok (.aload_n 0, 1) := by decide +kernel
theorem d_V_readLetters_12 : decode prog_9_method_7_code 12 = .ok (.getfield 52, 3) := by decide +kernel
theorem d_V_readLetters_15 : decode prog_9_method_7_code 15 = .ok (.aload_n 0, 1) := by decide +kernel
theorem d_V_readLetters_16 : decode prog_9_method_7_code 16 = .ok (.getfield 48, 3) := by decide +kernel
theorem d_V_readLetters_19 : decode prog_9_method_7_code 19 = .ok (.if_icmp .ge 103, 3) := by decide +kernel
theorem d_V_readLetters_22 : decode prog_9_method_7_code 22 = .ok (.aload_n 0, 1) := by decide +kernel
theorem d_V_readLetters_23 : decode prog_9_method_7_code 23 = .ok (.bipush 34, 2) := by decide +kernel
theorem d_V_readLetters_25 : decode prog_9_method_7_code 25 = .ok (.invokevirtual 92, 3) := by decide +kernel
theorem d_V_readLetters_28 : decode prog_9_method_7_code 28 = .ok (.ifCond .eq 5, 3) := by decide +kernel
theorem d_V_readLetters_31 : decode prog_9_method_7_code 31 = .ok (.iconst 1, 1) := by decide +kernel
theorem d_V_readLetters_32 : decode prog_9_method_7_code 32 = .ok (.ireturn, 1) := by decide +kernel
theorem d_V_readLetters_33 : decode prog_9_method_7_code 33 = .ok (.aload_n 0, 1) := by decide +kernel
theorem d_V_readLetters_34 : decode prog_9_method_7_code 34 = .ok (.getfield 39, 3) := by decide +kernel
theorem d_V_readLetters_37 : decode prog_9_method_7_code 37 = .ok (.aload_n 0, 1) := by decide +kernel
theorem d_V_readLetters_38 : decode prog_9_method_7_code 38 = .ok (.getfield 52, 3) := by decide +kernel
theorem d_V_readLetters_41 : decode prog_9_method_7_code 41 = .ok (.caload, 1) := by decide +kernel
theorem d_V_readLetters_42 : decode prog_9_method_7_code 42 = .ok (.istore_n 1, 1) := by decide +kernel
theorem d_V_readLetters_43 : decode prog_9_method_7_code 43 = .ok (.aload_n 0, 1) := by decide +kernel
theorem d_V_readLetters_44 : decode prog_9_method_7_code 44 = .ok (.dup, 1) := by decide +kernel
theorem d_V_readLetters_45 : decode prog_9_method_7_code 45 = .ok (.getfield 52, 3) := by decide +kernel
theorem d_V_readLetters_48 : decode prog_9_method_7_code 48 = .ok (.iconst 1, 1) := by decide +kernel
theorem d_V_readLetters_49 : decode prog_9_method_7_code 49 = .ok (.iadd, 1) := by decide +kernel
theorem d_V_readLetters_50 : decode prog_9_method_7_code 50 = .ok (.putfield 52, 3) := by decide +kernel
theorem d_V_readLetters_53 : decode prog_9_method_7_code 53 = .ok (.iload_n 1, 1) := by decide +kernel
theorem d_V_readLetters_54 : decode prog_9_method_7_code 54 = .ok (.bipush 92, 2) := by decide +kernel
theorem d_V_readLetters_56 : decode prog_9_method_7_code 56 = .ok (.if_icmp .ne 11, 3) := by decide +kernel
theorem d_V_readLetters_59 : decode prog_9_method_7_code 59 = .ok (.aload_n 0, 1) := by decide +kernel
theorem d_V_readLetters_60 : decode prog_9_method_7_code 60 = .ok (.invokevirtual 102, 3) := by decide +kernel
theorem d_V_readLetters_63 : decode prog_9_method_7_code 63 = .ok (.istore_n 1, 1) := by decide +kernel
theorem d_V_readLetters_64 : decode prog_9_method_7_code 64 = .ok (.goto 17, 3) := by decide +kernel
theorem d_V_readLetters_67 : decode prog_9_method_7_code 67 = .ok (.iload_n 1, 1) := by decide +kernel
theorem d_V_readLetters_68 : decode prog_9_method_7_code 68 = .ok (.bipush 32, 2) := by decide +kernel
theorem d_V_readLetters_70 : decode prog_9_method_7_code 70 = .ok (.if_icmp .lt 9, 3) := by decide +kernel
theorem d_V_readLetters_73 : decode prog_9_method_7_code 73 = .ok (.iload_n 1, 1) := by decide +kernel
theorem d_V_readLetters_74 : decode prog_9_method_7_code 74 = .ok (.bipush 126, 2) := by decide +kernel
theorem d_V_readLetters_76 : decode prog_9_method_7_code 76 = .ok (.if_icmp .le 5, 3) := by decide +kernel
theorem d_V_readLetters_79 : decode prog_9_method_7_code 79 = .ok (.iconst 0, 1) := by decide +kernel
theorem d_V_readLetters_80 : decode prog_9_method_7_code 80 = .ok (.ireturn, 1) := by decide +kernel
theorem d_V_readLetters_81 : decode prog_9_method_7_code 81 = .ok (.iload_n 1, 1) := by decide +kernel
theorem d_V_readLetters_82 : decode prog_9_method_7_code 82 = .ok (.ifCond .eq 15, 3) := by decide +kernel
theorem d_V_readLetters_85 : decode prog_9_method_7_code 85 = .ok (.aload_n 0, 1) := by decide +kernel
theorem d_V_readLetters_86 : decode prog_9_method_7_code 86 = .ok (.getfield 58, 3) := by decide +kernel
theorem d_V_readLetters_89 : decode prog_9_method_7_code 89 = .ok (.aload_n 0, 1) := by decide +kernel
theorem d_V_readLetters_90 : decode prog_9_method_7_code 90 = .ok (.getfield 35, 3) := by decide +kernel
theorem d_V_readLetters_93 : decode prog_9_method_7_code 93 = .ok (.arraylength, 1) := by decide +kernel
theorem d_V_readLetters_94 : decode prog_9_method_7_code 94 = .ok (.if_icmp .lt 5, 3) := by decide +kernel
theorem d_V_readLetters_97 : decode prog_9_method_7_code 97 = .ok (.iconst 0, 1) := by decide +kernel
theorem d_V_readLetters_98 : decode prog_9_method_7_code 98 = .ok (.ireturn, 1) := by decide +kernel
theorem d_V_readLetters_99 : decode prog_9_method_7_code 99 = .ok (.aload_n 0, 1) := by decide +kernel
theorem d_V_readLetters_100 : decode prog_9_method_7_code 100 = .ok (.getfield 35, 3) := by decide +kernel
theorem d_V_readLetters_103 : decode prog_9_method_7_code 103 = .ok (.aload_n 0, 1) := by decide +kernel
theorem d_V_readLetters_104 : decode prog_9_method_7_code 104 = .ok (.getfield 58, 3) := by decide +kernel
theorem d_V_readLetters_107 : decode prog_9_method_7_code 107 = .ok (.iload_n 1, 1) := by decide +kernel
theorem d_V_readLetters_108 : decode prog_9_method_7_code 108 = .ok (.castore, 1) := by decide +kernel
theorem d_V_readLetters_109 : decode prog_9_method_7_code 109 = .ok (.aload_n 0, 1) := by decide +kernel
theorem d_V_readLetters_110 : decode prog_9_method_7_code 110 = .ok (.dup, 1) := by decide +kernel
theorem d_V_readLetters_111 : decode prog_9_method_7_code 111 = .ok (.getfield 58, 3) := by decide +kernel
theorem d_V_readLetters_114 : decode prog_9_method_7_code 114 = .ok (.iconst 1, 1) := by decide +kernel
theorem d_V_readLetters_115 : decode prog_9_method_7_code 115 = .ok (.iadd, 1) := by decide +kernel
theorem d_V_readLetters_116 : decode prog_9_method_7_code 116 = .ok (.putfield 58, 3) := by decide +kernel
theorem d_V_readLetters_119 : decode prog_9_method_7_code 119 = .ok (.goto (-108), 3) := by decide +kernel
theorem d_V_readLetters_122 : decode prog_9_method_7_code 122 = .ok (.iconst 0, 1) := by decide +kernel
theorem d_V_readLetters_123 : decode prog_9_method_7_code 123 = .ok (.ireturn, 1) := by decide +kernel
set_option maxHeartbeats 4000000 in
set_option maxRecDepth 100000 in
theorem cV_readLetters (l : Launch) (dC : Nat → ClassId) (dI : Nat → Nat → Nat) (tk : Nat → ClassId) (A : Nat → Prop) (hV : Nat) (LV : Nat → Nat) (gV : aG) (aV : aA) (rw : va_W) (n : Nat) (r0 : Int32) (ogV : aG) (oaV : aA) (hm : mV_readLetters n gV aV = some (r0, ogV, oaV)) : CtI l dC dI tk A ⟨"EditorServer$Values", "readLetters", "()Z"⟩ prog_9_method_7_code 2 (some .boolean) 1 21 [.ref hV] (oW 3 hV ksV spV tk LV gV aV rw) r0 (oW 3 hV ksV spV tk LV ogV oaV rw) := by
  refine ent (by decide) (Nat.le_of_ble_eq_true rfl) ?_
  intro p e s m args below meth c hx hb hr hml hown hlk hG hg hst ls hl
  unfold mV_readLetters at hm
  have hl : lv_has ls 2 [(0, .ref hV)] := hl
  refine lv_aload_n hx hb d_V_readLetters_0 rfl (lv_at hl 0 rfl) ?_
  refine lv_bipush (v := 34) hx hb d_V_readLetters_1 (by decide) ?_
  obtain ⟨⟨x1, g2⟩, hc3, hm⟩ := bd_u hm
  dsimp only at hm
  refine cl_vi hx hb hml hown hG hg (cV_skip l dC dI tk A hV LV gV aV rw n 34 _ _ hc3) (cw_v 1 hG k_358 k_360 s_6 k_3 k_361 (by decide +kernel) ⟨by decide, by decide⟩) hst rfl oW_0 rfl hl.1 rfl (Nat.le_of_ble_eq_true rfl) ⟨Nat.le_refl 0, Nat.le_refl 0⟩ d_V_readLetters_3 (fun H locs hst => ?_)
  refine lv_if_ne (tgt := 11) hx hb d_V_readLetters_6 (by decide) (fun h5 => ?_) (fun h5 => ?_)
  · have hm := it_f hm h5
    refine lp_u (fun q8 : aG × aA => ∀ (H : Heap) (locs : List Loc) (ls : Array Slot), lv_has ls 2 [(0, .ref hV)] → St dC dI A s.heap H locs (oW 3 hV ksV spV tk LV q8.1 q8.2 rw) → W p l e (rmo 1 21) s m args below meth c H locs 0 0 (MQ below (QI dC dI A r0 (oW 3 hV ksV spV tk LV ogV oaV rw)) args s 0 0 A) (F0 m 11 ls [])) ?_ n (g2, aV) hm _ _ _ (lv_sub hl [0] rfl) hst
    rintro ⟨g6, a7⟩ r11 hm hJ90 hR10 H locs ls hl hst
    dsimp only at hm hl hst ⊢
    have hJ9 := fun y0 y1 (e : r11 = .inl (y0, y1)) => hJ90 (y0, y1) e
    dsimp only at hJ9
    refine lv_aload_n hx hb d_V_readLetters_11 rfl (lv_at hl 0 rfl) ?_
    refine ro_geti hx hb hown hG hg cV hst 10 (by decide) rfl rfl k_80 d_V_readLetters_12 ?_
    refine lv_aload_n hx hb d_V_readLetters_15 rfl (lv_at hl 0 rfl) ?_
    refine ro_geti hx hb hown hG hg cV hst 9 (by decide) rfl rfl k_79 d_V_readLetters_16 ?_
    refine lv_icmp_ge (tgt := 122) hx hb d_V_readLetters_19 (by decide) (fun h12 => ?_) (fun h12 => ?_)
    · have hm := it_t hm h12
      refine lv_iconst (v := 0) hx hb d_V_readLetters_122 (by decide) ?_
      have he := (hR10 _ (Option.some.inj hm).symm)
      cases he
      exact rt_i hx hb hr hlk (by decide) hst rfl d_V_readLetters_123
    · have hm := it_f hm h12
      refine lv_aload_n hx hb d_V_readLetters_22 rfl (lv_at hl 0 rfl) ?_
      refine lv_bipush (v := 34) hx hb d_V_readLetters_23 (by decide) ?_
      obtain ⟨⟨x13, g14⟩, hc15, hm⟩ := bd_u hm
      dsimp only at hm
      refine cl_vi hx hb hml hown hG hg (cV_skip l dC dI tk A hV LV g6 a7 rw n 34 _ _ hc15) (cw_v 1 hG k_358 k_360 s_6 k_3 k_361 (by decide +kernel) ⟨by decide, by decide⟩) hst rfl oW_0 rfl hl.1 rfl (Nat.le_of_ble_eq_true rfl) ⟨Nat.le_refl 0, Nat.le_refl 0⟩ d_V_readLetters_25 (fun H locs hst => ?_)
      refine lv_if_eq (tgt := 33) hx hb d_V_readLetters_28 (by decide) (fun h17 => ?_) (fun h17 => ?_)
      · have hm := it_t hm h17
        refine lv_aload_n hx hb d_V_readLetters_33 rfl (lv_at hl 0 rfl) ?_
        refine ro_geta hx hb hown hG hg cV hst 8 8 (by decide) rfl rfl k_78 d_V_readLetters_34 ?_
        refine lv_aload_n hx hb d_V_readLetters_37 rfl (lv_at hl 0 rfl) ?_
        refine ro_geti hx hb hown hG hg cV hst 10 (by decide) rfl rfl k_80 d_V_readLetters_38 ?_
        obtain ⟨hn18, hm⟩ := gd_u hm
        refine ro_cald hx hb hg hst 8 rfl hn18 d_V_readLetters_41 ?_
        refine lv_topi (fun x19 ex19 => ?_)
        have hm := lt_u hm x19 ex19
        refine lv_istore_n (lv' := [(1, .int x19), (0, .ref hV)]) hx hb d_V_readLetters_42 rfl hl (by decide) rfl (fun ls hl => ?_)
        refine lv_aload_n hx hb d_V_readLetters_43 rfl (lv_at hl 1 rfl) ?_
        refine lv_dup hx hb d_V_readLetters_44 rfl ?_
        refine ro_geti hx hb hown hG hg cV hst 10 (by decide) rfl rfl k_80 d_V_readLetters_45 ?_
        refine lv_iconst (v := 1) hx hb d_V_readLetters_48 (by decide) ?_
        refine lv_iadd hx hb d_V_readLetters_49 ?_
        refine ro_puti hx hb hown hG hg cV hst 10 (by decide) rfl rfl rfl rfl rfl k_80 d_V_readLetters_50 (fun g20 H locs eg20 hst => ?_)
        have hm := lt_u hm g20 eg20
        refine lv_iload_n hx hb d_V_readLetters_53 rfl (lv_at hl 0 rfl) ?_
        refine lv_bipush (v := 92) hx hb d_V_readLetters_54 (by decide) ?_
        obtain ⟨qJ21, hm, hLJ21, hR22⟩ := jn_u hm
        have hJ21 : ∀ (x23 : Int32) (g24 : aG), qJ21 = .inl (x23, g24) → ∀ (H : Heap) (locs : List Loc) (ls : Array Slot), lv_has ls 2 [(0, .ref hV), (1, .int x23)] → St dC dI A s.heap H locs (oW 3 hV ksV spV tk LV g24 a7 rw) → W p l e (rmo 1 21) s m args below meth c H locs 0 0 (MQ below (QI dC dI A r0 (oW 3 hV ksV spV tk LV ogV oaV rw)) args s 0 0 A) (F0 m 81 ls []) := by
          intro x23 g24 hq H locs ls hl hst
          have hm := hLJ21 _ hq
          dsimp only at hm
          refine lv_iload_n hx hb d_V_readLetters_81 rfl (lv_at hl 1 rfl) ?_
          refine lv_if_eq (tgt := 97) hx hb d_V_readLetters_82 (by decide) (fun h26 => ?_) (fun h26 => ?_)
          · have hm := it_t hm h26
            refine lv_iconst (v := 0) hx hb d_V_readLetters_97 (by decide) ?_
            have he := (hR10 _ (Option.some.inj hm).symm)
            cases he
            exact rt_i hx hb hr hlk (by decide) hst rfl d_V_readLetters_98
          · have hm := it_f hm h26
            refine lv_aload_n hx hb d_V_readLetters_85 rfl (lv_at hl 0 rfl) ?_
            refine ro_geti hx hb hown hG hg cV hst 12 (by decide) rfl rfl k_82 d_V_readLetters_86 ?_
            refine lv_aload_n hx hb d_V_readLetters_89 rfl (lv_at hl 0 rfl) ?_
            refine ro_geta hx hb hown hG hg cV hst 7 7 (by decide) rfl rfl k_77 d_V_readLetters_90 ?_
            refine va_alen (v := 200) hx hb hg.2.1 hst.1 8 1 (oW_g rfl) rfl rfl d_V_readLetters_93 ?_
            refine lv_icmp_lt (tgt := 99) hx hb d_V_readLetters_94 (by decide) (fun h27 => ?_) (fun h27 => ?_)
            · have hm := it_t hm h27
              refine lv_aload_n hx hb d_V_readLetters_99 rfl (lv_at hl 0 rfl) ?_
              refine ro_geta hx hb hown hG hg cV hst 7 7 (by decide) rfl rfl k_77 d_V_readLetters_100 ?_
              refine lv_aload_n hx hb d_V_readLetters_103 rfl (lv_at hl 0 rfl) ?_
              refine ro_geti hx hb hown hG hg cV hst 12 (by decide) rfl rfl k_82 d_V_readLetters_104 ?_
              refine lv_iload_n hx hb d_V_readLetters_107 rfl (lv_at hl 1 rfl) ?_
              obtain ⟨hn28, hm⟩ := gd_u hm
              refine ro_cast hx hb hg hst 7 rfl hn28 d_V_readLetters_108 (fun a29 H locs ea29 hst => ?_)
              have hm := lt_u hm a29 ea29
              refine lv_aload_n hx hb d_V_readLetters_109 rfl (lv_at hl 0 rfl) ?_
              refine lv_dup hx hb d_V_readLetters_110 rfl ?_
              refine ro_geti hx hb hown hG hg cV hst 12 (by decide) rfl rfl k_82 d_V_readLetters_111 ?_
              refine lv_iconst (v := 1) hx hb d_V_readLetters_114 (by decide) ?_
              refine lv_iadd hx hb d_V_readLetters_115 ?_
              refine ro_puti hx hb hown hG hg cV hst 12 (by decide) rfl rfl rfl rfl rfl k_82 d_V_readLetters_116 (fun g30 H locs eg30 hst => ?_)
              have hm := lt_u hm g30 eg30
              refine lv_goto (tgt := 11) hx hb d_V_readLetters_119 (by decide) ?_
              exact hJ9 g30 a29 (Option.some.inj hm).symm _ _ _ (lv_sub hl [0] rfl) hst
            · have hm := it_f hm h27
              refine lv_iconst (v := 0) hx hb d_V_readLetters_97 (by decide) ?_
              have he := (hR10 _ (Option.some.inj hm).symm)
              cases he
              exact rt_i hx hb hr hlk (by decide) hst rfl d_V_readLetters_98
        refine lv_icmp_ne (tgt := 67) hx hb d_V_readLetters_56 (by decide) (fun h31 => ?_) (fun h31 => ?_)
        · have hm := it_f hm h31
          refine lv_iload_n hx hb d_V_readLetters_67 rfl (lv_at hl 0 rfl) ?_
          refine lv_bipush (v := 32) hx hb d_V_readLetters_68 (by decide) ?_
          refine lv_icmp_lt (tgt := 79) hx hb d_V_readLetters_70 (by decide) (fun h32 => ?_) (fun h32 => ?_)
          · have hm := it_t hm h32
            refine lv_iconst (v := 0) hx hb d_V_readLetters_79 (by decide) ?_
            have he := (hR10 _ (hR22 _ (Option.some.inj hm).symm).symm)
            cases he
            exact rt_i hx hb hr hlk (by decide) hst rfl d_V_readLetters_80
          · have hm := it_f hm h32
            refine lv_iload_n hx hb d_V_readLetters_73 rfl (lv_at hl 0 rfl) ?_
            refine lv_bipush (v := 126) hx hb d_V_readLetters_74 (by decide) ?_
            refine lv_icmp_le (tgt := 81) hx hb d_V_readLetters_76 (by decide) (fun h33 => ?_) (fun h33 => ?_)
            · have hm := it_t hm h33
              exact hJ21 x19 g20 (Option.some.inj hm).symm _ _ _ (lv_sub hl [1, 0] rfl) hst
            · have hm := it_f hm h33
              refine lv_iconst (v := 0) hx hb d_V_readLetters_79 (by decide) ?_
              have he := (hR10 _ (hR22 _ (Option.some.inj hm).symm).symm)
              cases he
              exact rt_i hx hb hr hlk (by decide) hst rfl d_V_readLetters_80
        · have hm := it_t hm h31
          refine lv_aload_n hx hb d_V_readLetters_59 rfl (lv_at hl 1 rfl) ?_
          obtain ⟨⟨x34, g35⟩, hc36, hm⟩ := bd_u hm
          dsimp only at hm
          refine cl_vi hx hb hml hown hG hg (cV_escaped l dC dI tk A hV LV g20 a7 rw n _ _ hc36) (cw_v 0 hG k_362 k_364 s_7 k_3 k_365 (by decide +kernel) ⟨by decide, by decide⟩) hst rfl oW_0 rfl hl.1 rfl (Nat.le_of_ble_eq_true rfl) ⟨Nat.le_refl 0, Nat.le_refl 0⟩ d_V_readLetters_60 (fun H locs hst => ?_)
          refine lv_istore_n (lv' := [(1, .int x34), (0, .ref hV)]) hx hb d_V_readLetters_63 rfl hl (by decide) rfl (fun ls hl => ?_)
          refine lv_goto (tgt := 81) hx hb d_V_readLetters_64 (by decide) ?_
          exact hJ21 x34 g35 (Option.some.inj hm).symm _ _ _ (lv_sub hl [1, 0] rfl) hst
      · have hm := it_f hm h17
        refine lv_iconst (v := 1) hx hb d_V_readLetters_31 (by decide) ?_
        have he := (hR10 _ (Option.some.inj hm).symm)
        cases he
        exact rt_i hx hb hr hlk (by decide) hst rfl d_V_readLetters_32
  · have hm := it_t hm h5
    refine lv_iconst (v := 0) hx hb d_V_readLetters_9 (by decide) ?_
    have he := (Option.some.inj hm)
    cases he
    exact rt_i hx hb hr hlk (by decide) hst rfl d_V_readLetters_10
def mV_skipBlanks (n : Nat) (gV : aG) (aV : aA) : Option (aG) := lp (ε := aG) (fun g1 => if (g1 9) ≤ (g1 10) then (some (.inr (g1))) else (gd (inb (g1 10) 200) (lt (aV 8 (g1 10).toNatClampNeg) (fun x8 => if x8 = 32 then (lt (va_up g1 10 ((g1 10) + 1)) (fun g10 => some (.inl g10))) else (gd (inb (g1 10) 200) (lt (aV 8 (g1 10).toNatClampNeg) (fun x12 => if x12 = 10 then (lt (va_up g1 10 ((g1 10) + 1)) (fun g14 => some (.inl g14))) else (some (.inr (g1)))))))))) n gV
theorem d_V_skipBlanks_0 : decode prog_9_method_12_code 0 = .ok (.aload_n 0, 1) := by decide +kernel
theorem d_V_skipBlanks_1 : decode prog_9_method_12_code 1 = .ok (.getfield 52, 3) := by decide +kernel
theorem d_V_skipBlanks_4 : decode prog_9_method_12_code 4 = .ok (.aload_n 0, 1) := by decide +kernel
theorem d_V_skipBlanks_5 : decode prog_9_method_12_code 5 = .ok (.getfield 48, 3) := by decide +kernel
theorem d_V_skipBlanks_8 : decode prog_9_method_12_code 8 = .ok (.if_icmp .ge 44, 3) := by decide +kernel
theorem d_V_skipBlanks_11 : decode prog_9_method_12_code 11 = .ok (.aload_n 0, 1) := by decide +kernel
theorem d_V_skipBlanks_12 : decode prog_9_method_12_code 12 = .ok (.getfield 39, 3) := by decide +kernel
theorem d_V_skipBlanks_15 : decode prog_9_method_12_code 15 = .ok (.aload_n 0, 1) := by decide +kernel
theorem d_V_skipBlanks_16 : decode prog_9_method_12_code 16 = .ok (.getfield 52, 3) := by decide +kernel
theorem d_V_skipBlanks_19 : decode prog_9_method_12_code 19 = .ok (.caload, 1) := by decide +kernel
theorem d_V_skipBlanks_20 : decode prog_9_method_12_code 20 = .ok (.bipush 32, 2) := by decide +kernel
theorem d_V_skipBlanks_22 : decode prog_9_method_12_code 22 = .ok (.if_icmp .eq 17, 3) := by decide +kernel
theorem d_V_skipBlanks_25 : decode prog_9_method_12_code 25 = .ok (.aload_n 0, 1) := by decide +kernel
theorem d_V_skipBlanks_26 : decode prog_9_method_12_code 26 = .ok (.getfield 39, 3) := by decide +kernel
theorem d_V_skipBlanks_29 : decode prog_9_method_12_code 29 = .ok (.aload_n 0, 1) := by decide +kernel
theorem d_V_skipBlanks_30 : decode prog_9_method_12_code 30 = .ok (.getfield 52, 3) := by decide +kernel
theorem d_V_skipBlanks_33 : decode prog_9_method_12_code 33 = .ok (.caload, 1) := by decide +kernel
theorem d_V_skipBlanks_34 : decode prog_9_method_12_code 34 = .ok (.bipush 10, 2) := by decide +kernel
theorem d_V_skipBlanks_36 : decode prog_9_method_12_code 36 = .ok (.if_icmp .ne 16, 3) := by decide +kernel
theorem d_V_skipBlanks_39 : decode prog_9_method_12_code 39 = .ok (.aload_n 0, 1) := by decide +kernel
theorem d_V_skipBlanks_40 : decode prog_9_method_12_code 40 = .ok (.dup, 1) := by decide +kernel
theorem d_V_skipBlanks_41 : decode prog_9_method_12_code 41 = .ok (.getfield 52, 3) := by decide +kernel
theorem d_V_skipBlanks_44 : decode prog_9_method_12_code 44 = .ok (.iconst 1, 1) := by decide +kernel
theorem d_V_skipBlanks_45 : decode prog_9_method_12_code 45 = .ok (.iadd, 1) := by decide +kernel
theorem d_V_skipBlanks_46 : decode prog_9_method_12_code 46 = .ok (.putfield 52, 3) := by decide +kernel
theorem d_V_skipBlanks_49 : decode prog_9_method_12_code 49 = .ok (.goto (-49), 3) := by decide +kernel
theorem d_V_skipBlanks_52 : decode prog_9_method_12_code 52 = .ok (.return_, 1) := by decide +kernel
set_option maxHeartbeats 4000000 in
set_option maxRecDepth 100000 in
theorem cV_skipBlanks (l : Launch) (dC : Nat → ClassId) (dI : Nat → Nat → Nat) (tk : Nat → ClassId) (A : Nat → Prop) (hV : Nat) (LV : Nat → Nat) (gV : aG) (aV : aA) (rw : va_W) (n : Nat) (ogV : aG) (hm : mV_skipBlanks n gV aV = some ogV) : CtV l dC dI tk A ⟨"EditorServer$Values", "skipBlanks", "()V"⟩ prog_9_method_12_code 1 0 0 [.ref hV] (oW 3 hV ksV spV tk LV gV aV rw) (oW 3 hV ksV spV tk LV ogV aV rw) := by
  refine ent (by decide) (Nat.le_of_ble_eq_true rfl) ?_
  intro p e s m args below meth c hx hb hr hml hown hlk hG hg hst ls hl
  unfold mV_skipBlanks at hm
  have hl : lv_has ls 1 [(0, .ref hV)] := hl
  refine lp_u (fun g1 : aG => ∀ (H : Heap) (locs : List Loc) (ls : Array Slot), lv_has ls 1 [(0, .ref hV)] → St dC dI A s.heap H locs (oW 3 hV ksV spV tk LV g1 aV rw) → W p l e (rmo 0 0) s m args below meth c H locs 0 0 (MQ below (QV dC dI A (oW 3 hV ksV spV tk LV ogV aV rw)) args s 0 0 A) (F0 m 0 ls [])) ?_ n gV hm _ _ _ (lv_sub hl [0] rfl) hst
  rintro g1 r5 hm hJ30 hR4 H locs ls hl hst
  have hJ3 := fun y0 (e : r5 = .inl y0) => hJ30 y0 e
  refine lv_aload_n hx hb d_V_skipBlanks_0 rfl (lv_at hl 0 rfl) ?_
  refine ro_geti hx hb hown hG hg cV hst 10 (by decide) rfl rfl k_80 d_V_skipBlanks_1 ?_
  refine lv_aload_n hx hb d_V_skipBlanks_4 rfl (lv_at hl 0 rfl) ?_
  refine ro_geti hx hb hown hG hg cV hst 9 (by decide) rfl rfl k_79 d_V_skipBlanks_5 ?_
  refine lv_icmp_ge (tgt := 52) hx hb d_V_skipBlanks_8 (by decide) (fun h6 => ?_) (fun h6 => ?_)
  · have hm := it_t hm h6
    have he := (hR4 _ (Option.some.inj hm).symm)
    cases he
    exact rt_v hx hb hr hlk hst d_V_skipBlanks_52
  · have hm := it_f hm h6
    refine lv_aload_n hx hb d_V_skipBlanks_11 rfl (lv_at hl 0 rfl) ?_
    refine ro_geta hx hb hown hG hg cV hst 8 8 (by decide) rfl rfl k_78 d_V_skipBlanks_12 ?_
    refine lv_aload_n hx hb d_V_skipBlanks_15 rfl (lv_at hl 0 rfl) ?_
    refine ro_geti hx hb hown hG hg cV hst 10 (by decide) rfl rfl k_80 d_V_skipBlanks_16 ?_
    obtain ⟨hn7, hm⟩ := gd_u hm
    refine ro_cald hx hb hg hst 8 rfl hn7 d_V_skipBlanks_19 ?_
    refine lv_topi (fun x8 ex8 => ?_)
    have hm := lt_u hm x8 ex8
    refine lv_bipush (v := 32) hx hb d_V_skipBlanks_20 (by decide) ?_
    refine lv_icmp_eq (tgt := 39) hx hb d_V_skipBlanks_22 (by decide) (fun h9 => ?_) (fun h9 => ?_)
    · have hm := it_t hm h9
      refine lv_aload_n hx hb d_V_skipBlanks_39 rfl (lv_at hl 0 rfl) ?_
      refine lv_dup hx hb d_V_skipBlanks_40 rfl ?_
      refine ro_geti hx hb hown hG hg cV hst 10 (by decide) rfl rfl k_80 d_V_skipBlanks_41 ?_
      refine lv_iconst (v := 1) hx hb d_V_skipBlanks_44 (by decide) ?_
      refine lv_iadd hx hb d_V_skipBlanks_45 ?_
      refine ro_puti hx hb hown hG hg cV hst 10 (by decide) rfl rfl rfl rfl rfl k_80 d_V_skipBlanks_46 (fun g10 H locs eg10 hst => ?_)
      have hm := lt_u hm g10 eg10
      refine lv_goto (tgt := 0) hx hb d_V_skipBlanks_49 (by decide) ?_
      exact hJ3 g10 (Option.some.inj hm).symm _ _ _ (lv_sub hl [0] rfl) hst
    · have hm := it_f hm h9
      refine lv_aload_n hx hb d_V_skipBlanks_25 rfl (lv_at hl 0 rfl) ?_
      refine ro_geta hx hb hown hG hg cV hst 8 8 (by decide) rfl rfl k_78 d_V_skipBlanks_26 ?_
      refine lv_aload_n hx hb d_V_skipBlanks_29 rfl (lv_at hl 0 rfl) ?_
      refine ro_geti hx hb hown hG hg cV hst 10 (by decide) rfl rfl k_80 d_V_skipBlanks_30 ?_
      obtain ⟨hn11, hm⟩ := gd_u hm
      refine ro_cald hx hb hg hst 8 rfl hn11 d_V_skipBlanks_33 ?_
      refine lv_topi (fun x12 ex12 => ?_)
      have hm := lt_u hm x12 ex12
      refine lv_bipush (v := 10) hx hb d_V_skipBlanks_34 (by decide) ?_
      refine lv_icmp_ne (tgt := 52) hx hb d_V_skipBlanks_36 (by decide) (fun h13 => ?_) (fun h13 => ?_)
      · have hm := it_f hm h13
        have he := (hR4 _ (Option.some.inj hm).symm)
        cases he
        exact rt_v hx hb hr hlk hst d_V_skipBlanks_52
      · have hm := it_t hm h13
        refine lv_aload_n hx hb d_V_skipBlanks_39 rfl (lv_at hl 0 rfl) ?_
        refine lv_dup hx hb d_V_skipBlanks_40 rfl ?_
        refine ro_geti hx hb hown hG hg cV hst 10 (by decide) rfl rfl k_80 d_V_skipBlanks_41 ?_
        refine lv_iconst (v := 1) hx hb d_V_skipBlanks_44 (by decide) ?_
        refine lv_iadd hx hb d_V_skipBlanks_45 ?_
        refine ro_puti hx hb hown hG hg cV hst 10 (by decide) rfl rfl rfl rfl rfl k_80 d_V_skipBlanks_46 (fun g14 H locs eg14 hst => ?_)
        have hm := lt_u hm g14 eg14
        refine lv_goto (tgt := 0) hx hb d_V_skipBlanks_49 (by decide) ?_
        exact hJ3 g14 (Option.some.inj hm).symm _ _ _ (lv_sub hl [0] rfl) hst
def mV_readMemberName (n : Nat) (v1 : Int32) (gV : aG) (aV : aA) : Option (Int32 × aG × aA) := bd (mV_skipBlanks n gV aV) (fun g1 => if 40 ≤ v1 then (some ((0, g1, aV))) else (bd (mV_readLetters n g1 aV) (fun q9 => if q9.1 = 0 then (some ((0, q9.2.1, q9.2.2))) else (gd (inb v1 40) (lt (va_up q9.2.2 5 (upd (q9.2.2 5) v1.toNatClampNeg (g1 12))) (fun a12 => gd (inb v1 40) (lt (va_up a12 6 (upd (a12 6) v1.toNatClampNeg ((q9.2.1 12) - (g1 12)))) (fun a14 => bd (mV_skipBlanks n q9.2.1 a14) (fun g15 => bd (mV_skip n 58 g15 a14) (fun q21 => gd (okz q21.1) (some ((q21.1, q21.2, a14)))))))))))))
theorem d_V_readMemberName_0 : decode prog_9_method_5_code 0 = .ok (.aload_n 0, 1) := by decide +kernel
theorem d_V_readMemberName_1 : decode prog_9_method_5_code 1 = .ok (.invokevirtual 65, 3) := by decide +kernel
theorem d_V_readMemberName_4 : decode prog_9_method_5_code 4 = .ok (.aload_n 0, 1) := by decide +kernel
theorem d_V_readMemberName_5 : decode prog_9_method_5_code 5 = .ok (.getfield 58, 3) := by decide +kernel
theorem d_V_readMemberName_8 : decode prog_9_method_5_code 8 = .ok (.istore_n 2, 1) := by decide +kernel
theorem d_V_readMemberName_9 : decode prog_9_method_5_code 9 = .ok (.iload_n 1, 1) := by decide +kernel
theorem d_V_readMemberName_10 : decode prog_9_method_5_code 10 = .ok (.bipush 40, 2) := by decide +kernel
theorem d_V_readMemberName_12 : decode prog_9_method_5_code 12 = .ok (.if_icmp .ge 10, 3) := by decide +kernel
theorem d_V_readMemberName_15 : decode prog_9_method_5_code 15 = .ok (.aload_n 0, 1) := by decide +kernel
theorem d_V_readMemberName_16 : decode prog_9_method_5_code 16 = .ok (.invokevirtual 98, 3) := by decide +kernel
theorem d_V_readMemberName_19 : decode prog_9_method_5_code 19 = .ok (.ifCond .ne 5, 3) := by decide +kernel
theorem d_V_readMemberName_22 : decode prog_9_method_5_code 22 = .ok (.iconst 0, 1) := by decide +kernel
theorem d_V_readMemberName_23 : decode prog_9_method_5_code 23 = .ok (.ireturn, 1) := by decide +kernel
theorem d_V_readMemberName_24 : decode prog_9_method_5_code 24 = .ok (.aload_n 0, 1) := by decide +kernel
theorem d_V_readMemberName_25 : decode prog_9_method_5_code 25 = .ok (.getfield 27, 3) := by decide +kernel
theorem d_V_readMemberName_28 : decode prog_9_method_5_code 28 = .ok (.iload_n 1, 1) := by decide +kernel
theorem d_V_readMemberName_29 : decode prog_9_method_5_code 29 = .ok (.iload_n 2, 1) := by decide +kernel
theorem d_V_readMemberName_30 : decode prog_9_method_5_code 30 = .ok (.iastore, 1) := by decide +kernel
theorem d_V_readMemberName_31 : decode prog_9_method_5_code 31 = .ok (.aload_n 0, 1) := by decide +kernel
theorem d_V_readMemberName_32 : decode prog_9_method_5_code 32 = .ok (.getfield 30, 3) := by decide +kernel
theorem d_V_readMemberName_35 : decode prog_9_method_5_code 35 = .ok (.iload_n 1, 1) := by decide +kernel
theorem d_V_readMemberName_36 : decode prog_9_method_5_code 36 = .ok (.aload_n 0, 1) := by decide +kernel
theorem d_V_readMemberName_37 : decode prog_9_method_5_code 37 = .ok (.getfield 58, 3) := by decide +kernel
theorem d_V_readMemberName_40 : decode prog_9_method_5_code 40 = .ok (.iload_n 2, 1) := by decide +kernel
theorem d_V_readMemberName_41 : decode prog_9_method_5_code 41 = .ok (.isub, 1) := by decide +kernel
theorem d_V_readMemberName_42 : decode prog_9_method_5_code 42 = .ok (.iastore, 1) := by decide +kernel
theorem d_V_readMemberName_43 : decode prog_9_method_5_code 43 = .ok (.aload_n 0, 1) := by decide +kernel
theorem d_V_readMemberName_44 : decode prog_9_method_5_code 44 = .ok (.invokevirtual 65, 3) := by decide +kernel
theorem d_V_readMemberName_47 : decode prog_9_method_5_code 47 = .ok (.aload_n 0, 1) := by decide +kernel
theorem d_V_readMemberName_48 : decode prog_9_method_5_code 48 = .ok (.bipush 58, 2) := by decide +kernel
theorem d_V_readMemberName_50 : decode prog_9_method_5_code 50 = .ok (.invokevirtual 92, 3) := by decide +kernel
theorem d_V_readMemberName_53 : decode prog_9_method_5_code 53 = .ok (.ireturn, 1) := by decide +kernel
set_option maxHeartbeats 4000000 in
set_option maxRecDepth 100000 in
theorem cV_readMemberName (l : Launch) (dC : Nat → ClassId) (dI : Nat → Nat → Nat) (tk : Nat → ClassId) (A : Nat → Prop) (hV : Nat) (LV : Nat → Nat) (gV : aG) (aV : aA) (rw : va_W) (n : Nat) (v1 : Int32) (r0 : Int32) (ogV : aG) (oaV : aA) (hm : mV_readMemberName n v1 gV aV = some (r0, ogV, oaV)) : CtI l dC dI tk A ⟨"EditorServer$Values", "readMemberName", "(I)Z"⟩ prog_9_method_5_code 3 (some .boolean) 2 42 [.ref hV, .int v1] (oW 3 hV ksV spV tk LV gV aV rw) r0 (oW 3 hV ksV spV tk LV ogV oaV rw) := by
  refine ent (by decide) (Nat.le_of_ble_eq_true rfl) ?_
  intro p e s m args below meth c hx hb hr hml hown hlk hG hg hst ls hl
  unfold mV_readMemberName at hm
  have hl : lv_has ls 3 [(0, .ref hV), (1, .int v1)] := hl
  refine lv_aload_n hx hb d_V_readMemberName_0 rfl (lv_at hl 0 rfl) ?_
  obtain ⟨g1, hc2, hm⟩ := bd_u hm
  refine cl_vv hx hb hml hown hG hg (cV_skipBlanks l dC dI tk A hV LV gV aV rw n _ hc2) (cw_v 0 hG k_346 k_348 s_3 k_3 k_349 (by decide +kernel) ⟨by decide, by decide⟩) hst rfl oW_0 rfl hl.1 rfl (Nat.le_of_ble_eq_true rfl) ⟨Nat.le_refl 0, Nat.le_refl 0⟩ d_V_readMemberName_1 (fun H locs hst => ?_)
  refine lv_aload_n hx hb d_V_readMemberName_4 rfl (lv_at hl 0 rfl) ?_
  refine ro_geti hx hb hown hG hg cV hst 12 (by decide) rfl rfl k_82 d_V_readMemberName_5 ?_
  refine lv_istore_n (lv' := [(2, .int (g1 12)), (0, .ref hV), (1, .int v1)]) hx hb d_V_readMemberName_8 rfl hl (by decide) rfl (fun ls hl => ?_)
  refine lv_iload_n hx hb d_V_readMemberName_9 rfl (lv_at hl 2 rfl) ?_
  refine lv_bipush (v := 40) hx hb d_V_readMemberName_10 (by decide) ?_
  refine lv_icmp_ge (tgt := 22) hx hb d_V_readMemberName_12 (by decide) (fun h4 => ?_) (fun h4 => ?_)
  · have hm := it_t hm h4
    refine lv_iconst (v := 0) hx hb d_V_readMemberName_22 (by decide) ?_
    have he := (Option.some.inj hm)
    cases he
    exact rt_i hx hb hr hlk (by decide) hst rfl d_V_readMemberName_23
  · have hm := it_f hm h4
    refine lv_aload_n hx hb d_V_readMemberName_15 rfl (lv_at hl 1 rfl) ?_
    obtain ⟨⟨x5, g6, a7⟩, hc8, hm⟩ := bd_u hm
    dsimp only at hm
    refine cl_vi hx hb hml hown hG hg (cV_readLetters l dC dI tk A hV LV g1 aV rw n _ _ _ hc8) (cw_v 0 hG k_354 k_356 s_5 k_3 k_357 (by decide +kernel) ⟨by decide, by decide⟩) hst rfl oW_0 rfl hl.1 rfl (Nat.le_of_ble_eq_true rfl) ⟨Nat.le_refl 0, Nat.le_refl 0⟩ d_V_readMemberName_16 (fun H locs hst => ?_)
    refine lv_if_ne (tgt := 24) hx hb d_V_readMemberName_19 (by decide) (fun h10 => ?_) (fun h10 => ?_)
    · have hm := it_f hm h10
      refine lv_aload_n hx hb d_V_readMemberName_24 rfl (lv_at hl 1 rfl) ?_
      refine ro_geta hx hb hown hG hg cV hst 5 5 (by decide) rfl rfl k_75 d_V_readMemberName_25 ?_
      refine lv_iload_n hx hb d_V_readMemberName_28 rfl (lv_at hl 2 rfl) ?_
      refine lv_iload_n hx hb d_V_readMemberName_29 rfl (lv_at hl 0 rfl) ?_
      obtain ⟨hn11, hm⟩ := gd_u hm
      refine ro_iast hx hb hg hst 5 rfl hn11 d_V_readMemberName_30 (fun a12 H locs ea12 hst => ?_)
      have hm := lt_u hm a12 ea12
      refine lv_aload_n hx hb d_V_readMemberName_31 rfl (lv_at hl 1 rfl) ?_
      refine ro_geta hx hb hown hG hg cV hst 6 6 (by decide) rfl rfl k_76 d_V_readMemberName_32 ?_
      refine lv_iload_n hx hb d_V_readMemberName_35 rfl (lv_at hl 2 rfl) ?_
      refine lv_aload_n hx hb d_V_readMemberName_36 rfl (lv_at hl 1 rfl) ?_
      refine ro_geti hx hb hown hG hg cV hst 12 (by decide) rfl rfl k_82 d_V_readMemberName_37 ?_
      refine lv_iload_n hx hb d_V_readMemberName_40 rfl (lv_at hl 0 rfl) ?_
      refine lv_isub hx hb d_V_readMemberName_41 ?_
      obtain ⟨hn13, hm⟩ := gd_u hm
      refine ro_iast hx hb hg hst 6 rfl hn13 d_V_readMemberName_42 (fun a14 H locs ea14 hst => ?_)
      have hm := lt_u hm a14 ea14
      refine lv_aload_n hx hb d_V_readMemberName_43 rfl (lv_at hl 1 rfl) ?_
      obtain ⟨g15, hc16, hm⟩ := bd_u hm
      refine cl_vv hx hb hml hown hG hg (cV_skipBlanks l dC dI tk A hV LV g6 a14 rw n _ hc16) (cw_v 0 hG k_346 k_348 s_3 k_3 k_349 (by decide +kernel) ⟨by decide, by decide⟩) hst rfl oW_0 rfl hl.1 rfl (Nat.le_of_ble_eq_true rfl) ⟨Nat.le_refl 0, Nat.le_refl 0⟩ d_V_readMemberName_44 (fun H locs hst => ?_)
      refine lv_aload_n hx hb d_V_readMemberName_47 rfl (lv_at hl 1 rfl) ?_
      refine lv_bipush (v := 58) hx hb d_V_readMemberName_48 (by decide) ?_
      obtain ⟨⟨x18, g19⟩, hc20, hm⟩ := bd_u hm
      dsimp only at hm
      refine cl_vi hx hb hml hown hG hg (cV_skip l dC dI tk A hV LV g15 a14 rw n 58 _ _ hc20) (cw_v 1 hG k_358 k_360 s_6 k_3 k_361 (by decide +kernel) ⟨by decide, by decide⟩) hst rfl oW_0 rfl hl.1 rfl (Nat.le_of_ble_eq_true rfl) ⟨Nat.le_refl 0, Nat.le_refl 0⟩ d_V_readMemberName_50 (fun H locs hst => ?_)
      obtain ⟨hn22, hm⟩ := gd_u hm
      have he := (Option.some.inj hm)
      cases he
      exact rt_i hx hb hr hlk (okz_n hn22).1 hst rfl d_V_readMemberName_53
    · have hm := it_t hm h10
      refine lv_iconst (v := 0) hx hb d_V_readMemberName_22 (by decide) ?_
      have he := (Option.some.inj hm)
      cases he
      exact rt_i hx hb hr hlk (by decide) hst rfl d_V_readMemberName_23
def mV_readString (n : Nat) (v1 : Int32) (gV : aG) (aV : aA) : Option (Int32 × aG × aA) := gd (inb v1 40) (lt (va_up aV 0 (upd (aV 0) v1.toNatClampNeg 2)) (fun a2 => gd (inb v1 40) (lt (va_up a2 2 (upd (a2 2) v1.toNatClampNeg (gV 12))) (fun a4 => bd (mV_readLetters n gV a4) (fun q9 => gd (inb v1 40) (lt (q9.2.2 2 v1.toNatClampNeg) (fun x11 => gd (inb v1 40) (lt (va_up q9.2.2 3 (upd (q9.2.2 3) v1.toNatClampNeg ((q9.2.1 12) - x11))) (fun a13 => gd (okz q9.1) (some ((q9.1, q9.2.1, a13))))))))))))
theorem d_V_readString_0 : decode prog_9_method_6_code 0 = .ok (.aload_n 0, 1) := by decide +kernel
theorem d_V_readString_1 : decode prog_9_method_6_code 1 = .ok (.getfield 11, 3) := by decide +kernel
theorem d_V_readString_4 : decode prog_9_method_6_code 4 = .ok (.iload_n 1, 1) := by decide +kernel
theorem d_V_readString_5 : decode prog_9_method_6_code 5 = .ok (.iconst 2, 1) := by decide +kernel
theorem d_V_readString_6 : decode prog_9_method_6_code 6 = .ok (.iastore, 1) := by decide +kernel
theorem d_V_readString_7 : decode prog_9_method_6_code 7 = .ok (.aload_n 0, 1) := by decide +kernel
theorem d_V_readString_8 : decode prog_9_method_6_code 8 = .ok (.getfield 18, 3) := by decide +kernel
theorem d_V_readString_11 : decode prog_9_method_6_code 11 = .ok (.iload_n 1, 1) := by decide +kernel
theorem d_V_readString_12 : decode prog_9_method_6_code 12 = .ok (.aload_n 0, 1) := by decide +kernel
theorem d_V_readString_13 : decode prog_9_method_6_code 13 = .ok (.getfield 58, 3) := by decide +kernel
theorem d_V_readString_16 : decode prog_9_method_6_code 16 = .ok (.iastore, 1) := by decide +kernel
theorem d_V_readString_17 : decode prog_9_method_6_code 17 = .ok (.aload_n 0, 1) := by decide +kernel
theorem d_V_readString_18 : decode prog_9_method_6_code 18 = .ok (.invokevirtual 98, 3) := by decide +kernel
theorem d_V_readString_21 : decode prog_9_method_6_code 21 = .ok (.istore_n 2, 1) := by decide +kernel
theorem d_V_readString_22 : decode prog_9_method_6_code 22 = .ok (.aload_n 0, 1) := by decide +kernel
theorem d_V_readString_23 : decode prog_9_method_6_code 23 = .ok (.getfield 21, 3) := by decide +kernel
theorem d_V_readString_26 : decode prog_9_method_6_code 26 = .ok (.iload_n 1, 1) := by decide +kernel
theorem d_V_readString_27 : decode prog_9_method_6_code 27 = .ok (.aload_n 0, 1) := by decide +kernel
theorem d_V_readString_28 : decode prog_9_method_6_code 28 = .ok (.getfield 58, 3) := by decide +kernel
theorem d_V_readString_31 : decode prog_9_method_6_code 31 = .ok (.aload_n 0, 1) := by decide +kernel
theorem d_V_readString_32 : decode prog_9_method_6_code 32 = .ok (.getfield 18, 3) := by decide +kernel
theorem d_V_readString_35 : decode prog_9_method_6_code 35 = .ok (.iload_n 1, 1) := by decide +kernel
theorem d_V_readString_36 : decode prog_9_method_6_code 36 = .ok (.iaload, 1) := by decide +kernel
theorem d_V_readString_37 : decode prog_9_method_6_code 37 = .ok (.isub, 1) := by decide +kernel
theorem d_V_readString_38 : decode prog_9_method_6_code 38 = .ok (.iastore, 1) := by decide +kernel
theorem d_V_readString_39 : decode prog_9_method_6_code 39 = .ok (.iload_n 2, 1) := by decide +kernel
theorem d_V_readString_40 : decode prog_9_method_6_code 40 = .ok (.ireturn, 1) := by decide +kernel
set_option maxHeartbeats 4000000 in
set_option maxRecDepth 100000 in
theorem cV_readString (l : Launch) (dC : Nat → ClassId) (dI : Nat → Nat → Nat) (tk : Nat → ClassId) (A : Nat → Prop) (hV : Nat) (LV : Nat → Nat) (gV : aG) (aV : aA) (rw : va_W) (n : Nat) (v1 : Int32) (r0 : Int32) (ogV : aG) (oaV : aA) (hm : mV_readString n v1 gV aV = some (r0, ogV, oaV)) : CtI l dC dI tk A ⟨"EditorServer$Values", "readString", "(I)Z"⟩ prog_9_method_6_code 3 (some .boolean) 2 42 [.ref hV, .int v1] (oW 3 hV ksV spV tk LV gV aV rw) r0 (oW 3 hV ksV spV tk LV ogV oaV rw) := by
  refine ent (by decide) (Nat.le_of_ble_eq_true rfl) ?_
  intro p e s m args below meth c hx hb hr hml hown hlk hG hg hst ls hl
  unfold mV_readString at hm
  have hl : lv_has ls 3 [(0, .ref hV), (1, .int v1)] := hl
  refine lv_aload_n hx hb d_V_readString_0 rfl (lv_at hl 0 rfl) ?_
  refine ro_geta hx hb hown hG hg cV hst 0 0 (by decide) rfl rfl k_70 d_V_readString_1 ?_
  refine lv_iload_n hx hb d_V_readString_4 rfl (lv_at hl 1 rfl) ?_
  refine lv_iconst (v := 2) hx hb d_V_readString_5 (by decide) ?_
  obtain ⟨hn1, hm⟩ := gd_u hm
  refine ro_iast hx hb hg hst 0 rfl hn1 d_V_readString_6 (fun a2 H locs ea2 hst => ?_)
  have hm := lt_u hm a2 ea2
  refine lv_aload_n hx hb d_V_readString_7 rfl (lv_at hl 0 rfl) ?_
  refine ro_geta hx hb hown hG hg cV hst 2 2 (by decide) rfl rfl k_72 d_V_readString_8 ?_
  refine lv_iload_n hx hb d_V_readString_11 rfl (lv_at hl 1 rfl) ?_
  refine lv_aload_n hx hb d_V_readString_12 rfl (lv_at hl 0 rfl) ?_
  refine ro_geti hx hb hown hG hg cV hst 12 (by decide) rfl rfl k_82 d_V_readString_13 ?_
  obtain ⟨hn3, hm⟩ := gd_u hm
  refine ro_iast hx hb hg hst 2 rfl hn3 d_V_readString_16 (fun a4 H locs ea4 hst => ?_)
  have hm := lt_u hm a4 ea4
  refine lv_aload_n hx hb d_V_readString_17 rfl (lv_at hl 0 rfl) ?_
  obtain ⟨⟨x5, g6, a7⟩, hc8, hm⟩ := bd_u hm
  dsimp only at hm
  refine cl_vi hx hb hml hown hG hg (cV_readLetters l dC dI tk A hV LV gV a4 rw n _ _ _ hc8) (cw_v 0 hG k_354 k_356 s_5 k_3 k_357 (by decide +kernel) ⟨by decide, by decide⟩) hst rfl oW_0 rfl hl.1 rfl (Nat.le_of_ble_eq_true rfl) ⟨Nat.le_refl 0, Nat.le_refl 0⟩ d_V_readString_18 (fun H locs hst => ?_)
  refine lv_istore_n (lv' := [(2, .int x5), (0, .ref hV), (1, .int v1)]) hx hb d_V_readString_21 rfl hl (by decide) rfl (fun ls hl => ?_)
  refine lv_aload_n hx hb d_V_readString_22 rfl (lv_at hl 1 rfl) ?_
  refine ro_geta hx hb hown hG hg cV hst 3 3 (by decide) rfl rfl k_73 d_V_readString_23 ?_
  refine lv_iload_n hx hb d_V_readString_26 rfl (lv_at hl 2 rfl) ?_
  refine lv_aload_n hx hb d_V_readString_27 rfl (lv_at hl 1 rfl) ?_
  refine ro_geti hx hb hown hG hg cV hst 12 (by decide) rfl rfl k_82 d_V_readString_28 ?_
  refine lv_aload_n hx hb d_V_readString_31 rfl (lv_at hl 1 rfl) ?_
  refine ro_geta hx hb hown hG hg cV hst 2 2 (by decide) rfl rfl k_72 d_V_readString_32 ?_
  refine lv_iload_n hx hb d_V_readString_35 rfl (lv_at hl 2 rfl) ?_
  obtain ⟨hn10, hm⟩ := gd_u hm
  refine ro_iald hx hb hg hst 2 rfl hn10 d_V_readString_36 ?_
  refine lv_topi (fun x11 ex11 => ?_)
  have hm := lt_u hm x11 ex11
  refine lv_isub hx hb d_V_readString_37 ?_
  obtain ⟨hn12, hm⟩ := gd_u hm
  refine ro_iast hx hb hg hst 3 rfl hn12 d_V_readString_38 (fun a13 H locs ea13 hst => ?_)
  have hm := lt_u hm a13 ea13
  refine lv_iload_n hx hb d_V_readString_39 rfl (lv_at hl 0 rfl) ?_
  obtain ⟨hn14, hm⟩ := gd_u hm
  have he := (Option.some.inj hm)
  cases he
  exact rt_i hx hb hr hlk (okz_n hn14).1 hst rfl d_V_readString_40
def mV_readWord (n : Nat) (is : Nat) (gV : aG) (aV : aA) : Option (Int32 × aG) := if (Int32.ofNat (slen is)) ≤ ((gV 9) - (gV 10)) then (jn (α := Unit) (lp (ε := Int32) (fun x6 => if (Int32.ofNat (slen is)) ≤ x6 then (some (.inr (.inl ()))) else (gd (inb ((gV 10) + x6) 200) (lt (aV 8 ((gV 10) + x6).toNatClampNeg) (fun x13 => gd (inb x6 (slen is)) (lt (sbyt is x6.toNatClampNeg) (fun x15 => if x13 = x15 then (some (.inl (x6 + 1))) else (some (.inr (.inr ((0, gV))))))))))) n 0) (fun _ => lt (va_up gV 10 ((gV 10) + (Int32.ofNat (slen is)))) (fun g5 => some ((1, g5))))) else (some ((0, gV)))
theorem d_V_readWord_0 : decode prog_9_method_9_code 0 = .ok (.aload_n 1, 1) := by decide +kernel
theorem d_V_readWord_1 : decode prog_9_method_9_code 1 = .ok (.invokevirtual 106, 3) := by decide +kernel
theorem d_V_readWord_4 : decode prog_9_method_9_code 4 = .ok (.aload_n 0, 1) := by decide +kernel
theorem d_V_readWord_5 : decode prog_9_method_9_code 5 = .ok (.getfield 48, 3) := by decide +kernel
theorem d_V_readWord_8 : decode prog_9_method_9_code 8 = .ok (.aload_n 0, 1) := by decide +kernel
theorem d_V_readWord_9 : decode prog_9_method_9_code 9 = .ok (.getfield 52, 3) := by decide +kernel
theorem d_V_readWord_12 : decode prog_9_method_9_code 12 = .ok (.isub, 1) := by decide +kernel
theorem d_V_readWord_13 : decode prog_9_method_9_code 13 = .ok (.if_icmp .le 5, 3) := by decide +kernel
theorem d_V_readWord_16 : decode prog_9_method_9_code 16 = .ok (.iconst 0, 1) := by decide +kernel
theorem d_V_readWord_17 : decode prog_9_method_9_code 17 = .ok (.ireturn, 1) := by decide +kernel
theorem d_V_readWord_18 : decode prog_9_method_9_code 18 = .ok (.iconst 0, 1) := by decide +kernel
theorem d_V_readWord_19 : decode prog_9_method_9_code 19 = .ok (.istore_n 2, 1) := by decide +kernel
theorem d_V_readWord_20 : decode prog_9_method_9_code 20 = .ok (.iload_n 2, 1) := by decide +kernel
theorem d_V_readWord_21 : decode prog_9_method_9_code 21 = .ok (.aload_n 1, 1) := by decide +kernel
theorem d_V_readWord_22 : decode prog_9_method_9_code 22 = .ok (.invokevirtual 106, 3) := by decide +kernel
theorem d_V_readWord_25 : decode prog_9_method_9_code 25 = .ok (.if_icmp .ge 30, 3) := by decide +kernel
theorem d_V_readWord_28 : decode prog_9_method_9_code 28 = .ok (.aload_n 0, 1) := by decide +kernel
theorem d_V_readWord_29 : decode prog_9_method_9_code 29 = .ok (.getfield 39, 3) := by decide +kernel
theorem d_V_readWord_32 : decode prog_9_method_9_code 32 = .ok (.aload_n 0, 1) := by decide +kernel
theorem d_V_readWord_33 : decode prog_9_method_9_code 33 = .ok (.getfield 52, 3) := by decide +kernel
theorem d_V_readWord_36 : decode prog_9_method_9_code 36 = .ok (.iload_n 2, 1) := by decide +kernel
theorem d_V_readWord_37 : decode prog_9_method_9_code 37 = .ok (.iadd, 1) := by decide +kernel
theorem d_V_readWord_38 : decode prog_9_method_9_code 38 = .ok (.caload, 1) := by decide +kernel
theorem d_V_readWord_39 : decode prog_9_method_9_code 39 = .ok (.aload_n 1, 1) := by decide +kernel
theorem d_V_readWord_40 : decode prog_9_method_9_code 40 = .ok (.iload_n 2, 1) := by decide +kernel
theorem d_V_readWord_41 : decode prog_9_method_9_code 41 = .ok (.invokevirtual 112, 3) := by decide +kernel
theorem d_V_readWord_44 : decode prog_9_method_9_code 44 = .ok (.if_icmp .eq 5, 3) := by decide +kernel
theorem d_V_readWord_47 : decode prog_9_method_9_code 47 = .ok (.iconst 0, 1) := by decide +kernel
theorem d_V_readWord_48 : decode prog_9_method_9_code 48 = .ok (.ireturn, 1) := by decide +kernel
theorem d_V_readWord_49 : decode prog_9_method_9_code 49 = .ok (.iinc 2 1, 3) := by decide +kernel
theorem d_V_readWord_52 : decode prog_9_method_9_code 52 = .ok (.goto (-32), 3) := by decide +kernel
theorem d_V_readWord_55 : decode prog_9_method_9_code 55 = .ok (.aload_n 0, 1) := by decide +kernel
theorem d_V_readWord_56 : decode prog_9_method_9_code 56 = .ok (.dup, 1) := by decide +kernel
theorem d_V_readWord_57 : decode prog_9_method_9_code 57 = .ok (.getfield 52, 3) := by decide +kernel
theorem d_V_readWord_60 : decode prog_9_method_9_code 60 = .ok (.aload_n 1, 1) := by decide +kernel
theorem d_V_readWord_61 : decode prog_9_method_9_code 61 = .ok (.invokevirtual 106, 3) := by decide +kernel
theorem d_V_readWord_64 : decode prog_9_method_9_code 64 = .ok (.iadd, 1) := by decide +kernel
theorem d_V_readWord_65 : decode prog_9_method_9_code 65 = .ok (.putfield 52, 3) := by decide +kernel
theorem d_V_readWord_68 : decode prog_9_method_9_code 68 = .ok (.iconst 1, 1) := by decide +kernel
theorem d_V_readWord_69 : decode prog_9_method_9_code 69 = .ok (.ireturn, 1) := by decide +kernel
set_option maxHeartbeats 4000000 in
set_option maxRecDepth 100000 in
theorem cV_readWord (l : Launch) (dC : Nat → ClassId) (dI : Nat → Nat → Nat) (tk : Nat → ClassId) (A : Nat → Prop) (hV : Nat) (LV : Nat → Nat) (gV : aG) (aV : aA) (rw : va_W) (n : Nat) (is : Nat) (his : is < 29) (r0 : Int32) (ogV : aG) (hm : mV_readWord n is gV aV = some (r0, ogV)) : CtI l dC dI tk A ⟨"EditorServer$Values", "readWord", "(Ljava/lang/String;)Z"⟩ prog_9_method_9_code 3 (some .boolean) 4 85 [.ref hV, .ref (dI 1000 is)] (oW 3 hV ksV spV tk LV gV aV rw) r0 (oW 3 hV ksV spV tk LV ogV aV rw) := by
  refine ent (by decide) (Nat.le_of_ble_eq_true rfl) ?_
  intro p e s m args below meth c hx hb hr hml hown hlk hG hg hst ls hl
  unfold mV_readWord at hm
  have hl : lv_has ls 3 [(0, .ref hV), (1, .ref (dI 1000 is))] := hl
  refine lv_aload_n hx hb d_V_readWord_0 rfl (lv_at hl 1 rfl) ?_
  refine cl_vo (As := []) hx hb hml hown hG hg (c_sn l dC dI tk A _ is his) (cw_v 0 hG k_384 k_385 k_386 k_12 k_387 (by decide +kernel) ⟨by decide, by decide⟩) hst (hg.2.2.2.1 is his).1 rfl hl.1 rfl (Nat.le_of_ble_eq_true rfl) ⟨Nat.le_refl 0, Nat.le_refl 0⟩ d_V_readWord_1 (fun H locs hst => ?_)
  refine lv_aload_n hx hb d_V_readWord_4 rfl (lv_at hl 0 rfl) ?_
  refine ro_geti hx hb hown hG hg cV hst 9 (by decide) rfl rfl k_79 d_V_readWord_5 ?_
  refine lv_aload_n hx hb d_V_readWord_8 rfl (lv_at hl 0 rfl) ?_
  refine ro_geti hx hb hown hG hg cV hst 10 (by decide) rfl rfl k_80 d_V_readWord_9 ?_
  refine lv_isub hx hb d_V_readWord_12 ?_
  refine lv_icmp_le (tgt := 18) hx hb d_V_readWord_13 (by decide) (fun h1 => ?_) (fun h1 => ?_)
  · have hm := it_t hm h1
    refine lv_iconst (v := 0) hx hb d_V_readWord_18 (by decide) ?_
    refine lv_istore_n (lv' := [(2, .int 0), (0, .ref hV), (1, .ref (dI 1000 is))]) hx hb d_V_readWord_19 rfl hl (by decide) rfl (fun ls hl => ?_)
    obtain ⟨qJ2, hm, hLJ2, hR3⟩ := jn_u hm
    have hJ2 : qJ2 = .inl () → ∀ (H : Heap) (locs : List Loc) (ls : Array Slot), lv_has ls 3 [(0, .ref hV), (1, .ref (dI 1000 is))] → St dC dI A s.heap H locs (oW 3 hV ksV spV tk LV gV aV rw) → W p l e (rmo 4 85) s m args below meth c H locs 0 0 (MQ below (QI dC dI A r0 (oW 3 hV ksV spV tk LV ogV aV rw)) args s 0 0 A) (F0 m 55 ls []) := by
      intro hq H locs ls hl hst
      have hm := hLJ2 _ hq
      refine lv_aload_n hx hb d_V_readWord_55 rfl (lv_at hl 0 rfl) ?_
      refine lv_dup hx hb d_V_readWord_56 rfl ?_
      refine ro_geti hx hb hown hG hg cV hst 10 (by decide) rfl rfl k_80 d_V_readWord_57 ?_
      refine lv_aload_n hx hb d_V_readWord_60 rfl (lv_at hl 1 rfl) ?_
      refine cl_vo (As := []) hx hb hml hown hG hg (c_sn l dC dI tk A _ is his) (cw_v 0 hG k_384 k_385 k_386 k_12 k_387 (by decide +kernel) ⟨by decide, by decide⟩) hst (hg.2.2.2.1 is his).1 rfl hl.1 rfl (Nat.le_of_ble_eq_true rfl) ⟨Nat.le_refl 0, Nat.le_refl 0⟩ d_V_readWord_61 (fun H locs hst => ?_)
      refine lv_iadd hx hb d_V_readWord_64 ?_
      refine ro_puti hx hb hown hG hg cV hst 10 (by decide) rfl rfl rfl rfl rfl k_80 d_V_readWord_65 (fun g5 H locs eg5 hst => ?_)
      have hm := lt_u hm g5 eg5
      refine lv_iconst (v := 1) hx hb d_V_readWord_68 (by decide) ?_
      have he := (Option.some.inj hm)
      cases he
      exact rt_i hx hb hr hlk (by decide) hst rfl d_V_readWord_69
    refine lp_u (fun x6 : Int32 => ∀ (H : Heap) (locs : List Loc) (ls : Array Slot), lv_has ls 3 [(0, .ref hV), (1, .ref (dI 1000 is)), (2, .int x6)] → St dC dI A s.heap H locs (oW 3 hV ksV spV tk LV gV aV rw) → W p l e (rmo 4 85) s m args below meth c H locs 0 0 (MQ below (QI dC dI A r0 (oW 3 hV ksV spV tk LV ogV aV rw)) args s 0 0 A) (F0 m 20 ls [])) ?_ n 0 hm _ _ _ (lv_sub hl [1, 2, 0] rfl) hst
    rintro x6 r10 hm hJ80 hR9 H locs ls hl hst
    have hJ8 := fun y0 (e : r10 = .inl y0) => hJ80 y0 e
    refine lv_iload_n hx hb d_V_readWord_20 rfl (lv_at hl 2 rfl) ?_
    refine lv_aload_n hx hb d_V_readWord_21 rfl (lv_at hl 1 rfl) ?_
    refine cl_vo (As := []) hx hb hml hown hG hg (c_sn l dC dI tk A _ is his) (cw_v 0 hG k_384 k_385 k_386 k_12 k_387 (by decide +kernel) ⟨by decide, by decide⟩) hst (hg.2.2.2.1 is his).1 rfl hl.1 rfl (Nat.le_of_ble_eq_true rfl) ⟨Nat.le_refl 0, Nat.le_refl 0⟩ d_V_readWord_22 (fun H locs hst => ?_)
    refine lv_icmp_ge (tgt := 55) hx hb d_V_readWord_25 (by decide) (fun h11 => ?_) (fun h11 => ?_)
    · have hm := it_t hm h11
      exact hJ2  (hR9 _ (Option.some.inj hm).symm).symm _ _ _ (lv_sub hl [0, 1] rfl) hst
    · have hm := it_f hm h11
      refine lv_aload_n hx hb d_V_readWord_28 rfl (lv_at hl 0 rfl) ?_
      refine ro_geta hx hb hown hG hg cV hst 8 8 (by decide) rfl rfl k_78 d_V_readWord_29 ?_
      refine lv_aload_n hx hb d_V_readWord_32 rfl (lv_at hl 0 rfl) ?_
      refine ro_geti hx hb hown hG hg cV hst 10 (by decide) rfl rfl k_80 d_V_readWord_33 ?_
      refine lv_iload_n hx hb d_V_readWord_36 rfl (lv_at hl 2 rfl) ?_
      refine lv_iadd hx hb d_V_readWord_37 ?_
      obtain ⟨hn12, hm⟩ := gd_u hm
      refine ro_cald hx hb hg hst 8 rfl hn12 d_V_readWord_38 ?_
      refine lv_topi (fun x13 ex13 => ?_)
      have hm := lt_u hm x13 ex13
      refine lv_aload_n hx hb d_V_readWord_39 rfl (lv_at hl 1 rfl) ?_
      refine lv_iload_n hx hb d_V_readWord_40 rfl (lv_at hl 2 rfl) ?_
      obtain ⟨hn14, hm⟩ := gd_u hm
      refine cl_vo (As := [.int x6]) hx hb hml hown hG hg (c_sa l dC dI tk A _ is his x6 hn14) (cw_v 1 hG k_393 k_394 k_395 k_12 k_396 (by decide +kernel) ⟨by decide, by decide⟩) hst (hg.2.2.2.1 is his).1 rfl hl.1 rfl (Nat.le_of_ble_eq_true rfl) ⟨Nat.le_refl 0, Nat.le_refl 0⟩ d_V_readWord_41 (fun H locs hst => ?_)
      refine lv_topi (fun x15 ex15 => ?_)
      have hm := lt_u hm x15 ex15
      refine lv_icmp_eq (tgt := 49) hx hb d_V_readWord_44 (by decide) (fun h16 => ?_) (fun h16 => ?_)
      · have hm := it_t hm h16
        refine lv_iinc (k := 2) (v := (x6 + 1)) (lv' := [(2, .int (x6 + 1)), (0, .ref hV), (1, .ref (dI 1000 is))]) hx hb d_V_readWord_49 hl rfl (by rfl) (by decide) rfl (fun ls hl => ?_)
        refine lv_goto (tgt := 20) hx hb d_V_readWord_52 (by decide) ?_
        exact hJ8 (x6 + 1) (Option.some.inj hm).symm _ _ _ (lv_sub hl [1, 2, 0] rfl) hst
      · have hm := it_f hm h16
        refine lv_iconst (v := 0) hx hb d_V_readWord_47 (by decide) ?_
        have he := (hR3 _ (hR9 _ (Option.some.inj hm).symm).symm)
        cases he
        exact rt_i hx hb hr hlk (by decide) hst rfl d_V_readWord_48
  · have hm := it_f hm h1
    refine lv_iconst (v := 0) hx hb d_V_readWord_16 (by decide) ?_
    have he := (Option.some.inj hm)
    cases he
    exact rt_i hx hb hr hlk (by decide) hst rfl d_V_readWord_17
def mE_isDigit (n : Nat) (v0 : Int32) : Option (Int32) := if v0 < 48 then (some (0)) else (if 57 < v0 then (some (0)) else (some (1)))
theorem d_E_isDigit_0 : decode prog_1_method_26_code 0 = .ok (.iload_n 0, 1) := by decide +kernel
theorem d_E_isDigit_1 : decode prog_1_method_26_code 1 = .ok (.bipush 48, 2) := by decide +kernel
theorem d_E_isDigit_3 : decode prog_1_method_26_code 3 = .ok (.if_icmp .lt 13, 3) := by decide +kernel
theorem d_E_isDigit_6 : decode prog_1_method_26_code 6 = .ok (.iload_n 0, 1) := by decide +kernel
theorem d_E_isDigit_7 : decode prog_1_method_26_code 7 = .ok (.bipush 57, 2) := by decide +kernel
theorem d_E_isDigit_9 : decode prog_1_method_26_code 9 = .ok (.if_icmp .gt 7, 3) := by decide +kernel
theorem d_E_isDigit_12 : decode prog_1_method_26_code 12 = .ok (.iconst 1, 1) := by decide +kernel
theorem d_E_isDigit_13 : decode prog_1_method_26_code 13 = .ok (.goto 4, 3) := by decide +kernel
theorem d_E_isDigit_16 : decode prog_1_method_26_code 16 = .ok (.iconst 0, 1) := by decide +kernel
theorem d_E_isDigit_17 : decode prog_1_method_26_code 17 = .ok (.ireturn, 1) := by decide +kernel
set_option maxHeartbeats 4000000 in
set_option maxRecDepth 100000 in
theorem cE_isDigit (l : Launch) (dC : Nat → ClassId) (dI : Nat → Nat → Nat) (tk : Nat → ClassId) (A : Nat → Prop) (ws : va_W) (n : Nat) (v0 : Int32) (r0 : Int32) (hm : mE_isDigit n v0 = some r0) : CtI l dC dI tk A ⟨"EditorServer", "isDigit", "(C)Z"⟩ prog_1_method_26_code 1 (some .boolean) 0 0 [.int v0] ws r0 ws := by
  refine ent (by decide) (Nat.le_of_ble_eq_true rfl) ?_
  intro p e s m args below meth c hx hb hr hml hown hlk hG hg hst ls hl
  unfold mE_isDigit at hm
  have hl : lv_has ls 1 [(0, .int v0)] := hl
  refine lv_iload_n hx hb d_E_isDigit_0 rfl (lv_at hl 0 rfl) ?_
  refine lv_bipush (v := 48) hx hb d_E_isDigit_1 (by decide) ?_
  refine lv_icmp_lt (tgt := 16) hx hb d_E_isDigit_3 (by decide) (fun h1 => ?_) (fun h1 => ?_)
  · have hm := it_t hm h1
    refine lv_iconst (v := 0) hx hb d_E_isDigit_16 (by decide) ?_
    have he := (Option.some.inj hm)
    cases he
    exact rt_i hx hb hr hlk (by decide) hst rfl d_E_isDigit_17
  · have hm := it_f hm h1
    refine lv_iload_n hx hb d_E_isDigit_6 rfl (lv_at hl 0 rfl) ?_
    refine lv_bipush (v := 57) hx hb d_E_isDigit_7 (by decide) ?_
    refine lv_icmp_gt (tgt := 16) hx hb d_E_isDigit_9 (by decide) (fun h2 => ?_) (fun h2 => ?_)
    · have hm := it_t hm h2
      refine lv_iconst (v := 0) hx hb d_E_isDigit_16 (by decide) ?_
      have he := (Option.some.inj hm)
      cases he
      exact rt_i hx hb hr hlk (by decide) hst rfl d_E_isDigit_17
    · have hm := it_f hm h2
      refine lv_iconst (v := 1) hx hb d_E_isDigit_12 (by decide) ?_
      refine lv_goto (tgt := 17) hx hb d_E_isDigit_13 (by decide) ?_
      have he := (Option.some.inj hm)
      cases he
      exact rt_i hx hb hr hlk (by decide) hst rfl d_E_isDigit_17
def mV_readNumber (n : Nat) (v1 : Int32) (gV : aG) (aV : aA) : Option (Int32 × aG × aA) := bd (mV_skip n 45 gV aV) (fun q4 => jn (α := Int32 × aG) (lp (ε := Int32 × aG) (fun q35 => if (q35.2 9) ≤ (q35.2 10) then (some (.inr (.inl (q35.1, q35.2)))) else (if ((q4.2 10) + 6) ≤ (q35.2 10) then (some (.inr (.inl (q35.1, q35.2)))) else (gd (inb (q35.2 10) 200) (lt (aV 8 (q35.2 10).toNatClampNeg) (fun x42 => bd (mE_isDigit n x42) (fun x43 => if x43 = 0 then (some (.inr (.inl (q35.1, q35.2)))) else (gd (inb (q35.2 10) 200) (lt (aV 8 (q35.2 10).toNatClampNeg) (fun x48 => lt (((q35.1 * 10) + (x48 - 48))) (fun x49 => lt (va_up q35.2 10 ((q35.2 10) + 1)) (fun g50 => some (.inl (x49, g50))))))))))))) n (0, q4.2)) (fun q9 => gd (inb v1 40) (lt (va_up aV 0 (upd (aV 0) v1.toNatClampNeg 1)) (fun a11 => jn (α := Int32) (if q4.1 = 0 then (some (.inl q9.1)) else (some (.inl (-q9.1)))) (fun x14 => gd (inb v1 40) (lt (va_up a11 1 (upd (a11 1) v1.toNatClampNeg x14)) (fun a17 => lt (((q9.2 10) - (q4.2 10))) (fun x18 => jn (α := Unit) (if x18 ≤ 0 then (some (.inl ())) else (gd (inb (q4.2 10) 200) (lt (a17 8 (q4.2 10).toNatClampNeg) (fun x26 => if x26 = 48 then (if x18 ≤ 0 then (some (.inr ((0, q9.2, a17)))) else (if x18 = 1 then (if q4.1 = 0 then (some (.inr ((1, q9.2, a17)))) else (some (.inr ((0, q9.2, a17))))) else (some (.inr ((0, q9.2, a17)))))) else (some (.inl ())))))) (fun _ => if x18 ≤ 0 then (some ((0, q9.2, a17))) else (some ((1, q9.2, a17))))))))))))
theorem d_V_readNumber_0 : decode prog_9_method_10_code 0 = .ok (.aload_n 0, 1) := by decide +kernel
theorem d_V_readNumber_1 : decode prog_9_method_10_code 1 = .ok (.bipush 45, 2) := by decide +kernel
theorem d_V_readNumber_3 : decode prog_9_method_10_code 3 = .ok (.invokevirtual 92, 3) := by decide +kernel
theorem d_V_readNumber_6 : decode prog_9_method_10_code 6 = .ok (.istore_n 2, 1) := by decide +kernel
theorem d_V_readNumber_7 : decode prog_9_method_10_code 7 = .ok (.aload_n 0, 1) := by decide +kernel
theorem d_V_readNumber_8 : decode prog_9_method_10_code 8 = .ok (.getfield 52, 3) := by decide +kernel
theorem d_V_readNumber_11 : decode prog_9_method_10_code 11 = .ok (.istore_n 3, 1) := by decide +kernel
theorem d_V_readNumber_12 : decode prog_9_method_10_code 12 = .ok (.iconst 0, 1) := by decide +kernel
theorem d_V_readNumber_13 : decode prog_9_method_10_code 13 = .ok (.istore 4, 2) := by decide +kernel
theorem d_V_readNumber_15 : decode prog_9_method_10_code 15 = .ok (.aload_n 0, 1) := by decide +kernel
theorem d_V_readNumber_16 : decode prog_9_method_10_code 16 = .ok (.getfield 52, 3) := by decide +kernel
theorem d_V_readNumber_19 : decode prog_9_method_10_code 19 = .ok (.aload_n 0, 1) := by decide +kernel
theorem d_V_readNumber_20 : decode prog_9_method_10_code 20 = .ok (.getfield 48, 3) := by decide +kernel
theorem d_V_readNumber_23 : decode prog_9_method_10_code 23 = .ok (.if_icmp .ge 62, 3) := by decide +kernel
theorem d_V_readNumber_26 : decode prog_9_method_10_code 26 = .ok (.aload_n 0, 1) := by decide +kernel
theorem d_V_readNumber_27 : decode prog_9_method_10_code 27 = .ok (.getfield 52, 3) := by decide +kernel
theorem d_V_readNumber_30 : decode prog_9_method_10_code 30 = .ok (.iload_n 3, 1) := by decide +kernel
theorem d_V_readNumber_31 : decode prog_9_method_10_code 31 = .ok (.bipush 6, 2) := by decide +kernel
theorem d_V_readNumber_33 : decode prog_9_method_10_code 33 = .ok (.iadd, 1) := by decide +kernel
theorem d_V_readNumber_34 : decode prog_9_method_10_code 34 = .ok (.if_icmp .ge 51, 3) := by decide +kernel
theorem d_V_readNumber_37 : decode prog_9_method_10_code 37 = .ok (.aload_n 0, 1) := by decide +kernel
theorem d_V_readNumber_38 : decode prog_9_method_10_code 38 = .ok (.getfield 39, 3) := by decide +kernel
theorem d_V_readNumber_41 : decode prog_9_method_10_code 41 = .ok (.aload_n 0, 1) := by decide +kernel
theorem d_V_readNumber_42 : decode prog_9_method_10_code 42 = .ok (.getfield 52, 3) := by decide +kernel
theorem d_V_readNumber_45 : decode prog_9_method_10_code 45 = .ok (.caload, 1) := by decide +kernel
theorem d_V_readNumber_46 : decode prog_9_method_10_code 46 = .ok (.invokestatic 75, 3) := by decide +kernel
theorem d_V_readNumber_49 : decode prog_9_method_10_code 49 = .ok (.ifCond .eq 36, 3) := by decide +kernel
theorem d_V_readNumber_52 : decode prog_9_method_10_code 52 = .ok (.iload 4, 2) := by decide +kernel
theorem d_V_readNumber_54 : decode prog_9_method_10_code 54 = .ok (.bipush 10, 2) := by decide +kernel
theorem d_V_readNumber_56 : decode prog_9_method_10_code 56 = .ok (.imul, 1) := by decide +kernel
theorem d_V_readNumber_57 : decode prog_9_method_10_code 57 = .ok (.aload_n 0, 1) := by decide +kernel
theorem d_V_readNumber_58 : decode prog_9_method_10_code 58 = .ok (.getfield 39, 3) := by decide +kernel
theorem d_V_readNumber_61 : decode prog_9_method_10_code 61 = .ok (.aload_n 0, 1) := by decide +kernel
theorem d_V_readNumber_62 : decode prog_9_method_10_code 62 = .ok (.getfield 52, 3) := by decide +kernel
theorem d_V_readNumber_65 : decode prog_9_method_10_code 65 = .ok (.caload, 1) := by decide +kernel
theorem d_V_readNumber_66 : decode prog_9_method_10_code 66 = .ok (.bipush 48, 2) := by decide +kernel
theorem d_V_readNumber_68 : decode prog_9_method_10_code 68 = .ok (.isub, 1) := by decide +kernel
theorem d_V_readNumber_69 : decode prog_9_method_10_code 69 = .ok (.iadd, 1) := by decide +kernel
theorem d_V_readNumber_70 : decode prog_9_method_10_code 70 = .ok (.istore 4, 2) := by decide +kernel
theorem d_V_readNumber_72 : decode prog_9_method_10_code 72 = .ok (.aload_n 0, 1) := by decide +kernel
theorem d_V_readNumber_73 : decode prog_9_method_10_code 73 = .ok (.dup, 1) := by decide +kernel
theorem d_V_readNumber_74 : decode prog_9_method_10_code 74 = .ok (.getfield 52, 3) := by decide +kernel
theorem d_V_readNumber_77 : decode prog_9_method_10_code 77 = .ok (.iconst 1, 1) := by decide +kernel
theorem d_V_readNumber_78 : decode prog_9_method_10_code 78 = .ok (.iadd, 1) := by decide +kernel
theorem d_V_readNumber_79 : decode prog_9_method_10_code 79 = .ok (.putfield 52, 3) := by decide +kernel
theorem d_V_readNumber_82 : decode prog_9_method_10_code 82 = .ok (.goto (-67), 3) := by decide +kernel
theorem d_V_readNumber_85 : decode prog_9_method_10_code 85 = .ok (.aload_n 0, 1) := by decide +kernel
theorem d_V_readNumber_86 : decode prog_9_method_10_code 86 = .ok (.getfield 11, 3) := by decide +kernel
theorem d_V_readNumber_89 : decode prog_9_method_10_code 89 = .ok (.iload_n 1, 1) := by decide +kernel
theorem d_V_readNumber_90 : decode prog_9_method_10_code 90 = .ok (.iconst 1, 1) := by decide +kernel
theorem d_V_readNumber_91 : decode prog_9_method_10_code 91 = .ok (.iastore, 1) := by decide +kernel
theorem d_V_readNumber_92 : decode prog_9_method_10_code 92 = .ok (.aload_n 0, 1) := by decide +kernel
theorem d_V_readNumber_93 : decode prog_9_method_10_code 93 = .ok (.getfield 15, 3) := by decide +kernel
theorem d_V_readNumber_96 : decode prog_9_method_10_code 96 = .ok (.iload_n 1, 1) := by decide +kernel
theorem d_V_readNumber_97 : decode prog_9_method_10_code 97 = .ok (.iload_n 2, 1) := by decide +kernel
theorem d_V_readNumber_98 : decode prog_9_method_10_code 98 = .ok (.ifCond .eq 9, 3) := by decide +kernel
theorem d_V_readNumber_101 : decode prog_9_method_10_code 101 = .ok (.iload 4, 2) := by decide +kernel
theorem d_V_readNumber_103 : decode prog_9_method_10_code 103 = .ok (.ineg, 1) := by decide +kernel
theorem d_V_readNumber_104 : decode prog_9_method_10_code 104 = .ok (.goto 5, 3) := by decide +kernel
theorem d_V_readNumber_107 : decode prog_9_method_10_code 107 = .ok (.iload 4, 2) := by decide +kernel
theorem d_V_readNumber_109 : decode prog_9_method_10_code 109 = .ok (.iastore, 1) := by decide +kernel
theorem d_V_readNumber_110 : decode prog_9_method_10_code 110 = .ok (.aload_n 0, 1) := by decide +kernel
theorem d_V_readNumber_111 : decode prog_9_method_10_code 111 = .ok (.getfield 52, 3) := by decide +kernel
theorem d_V_readNumber_114 : decode prog_9_method_10_code 114 = .ok (.iload_n 3, 1) := by decide +kernel
theorem d_V_readNumber_115 : decode prog_9_method_10_code 115 = .ok (.isub, 1) := by decide +kernel
theorem d_V_readNumber_116 : decode prog_9_method_10_code 116 = .ok (.istore 5, 2) := by decide +kernel
theorem d_V_readNumber_118 : decode prog_9_method_10_code 118 = .ok (.iload 5, 2) := by decide +kernel
theorem d_V_readNumber_120 : decode prog_9_method_10_code 120 = .ok (.ifCond .le 18, 3) := by decide +kernel
theorem d_V_readNumber_123 : decode prog_9_method_10_code 123 = .ok (.aload_n 0, 1) := by decide +kernel
theorem d_V_readNumber_124 : decode prog_9_method_10_code 124 = .ok (.getfield 39, 3) := by decide +kernel
theorem d_V_readNumber_127 : decode prog_9_method_10_code 127 = .ok (.iload_n 3, 1) := by decide +kernel
theorem d_V_readNumber_128 : decode prog_9_method_10_code 128 = .ok (.caload, 1) := by decide +kernel
theorem d_V_readNumber_129 : decode prog_9_method_10_code 129 = .ok (.bipush 48, 2) := by decide +kernel
theorem d_V_readNumber_131 : decode prog_9_method_10_code 131 = .ok (.if_icmp .ne 7, 3) := by decide +kernel
theorem d_V_readNumber_134 : decode prog_9_method_10_code 134 = .ok (.iconst 1, 1) := by decide +kernel
theorem d_V_readNumber_135 : decode prog_9_method_10_code 135 = .ok (.goto 4, 3) := by decide +kernel
theorem d_V_readNumber_138 : decode prog_9_method_10_code 138 = .ok (.iconst 0, 1) := by decide +kernel
theorem d_V_readNumber_139 : decode prog_9_method_10_code 139 = .ok (.istore 6, 2) := by decide +kernel
theorem d_V_readNumber_141 : decode prog_9_method_10_code 141 = .ok (.iload 5, 2) := by decide +kernel
theorem d_V_readNumber_143 : decode prog_9_method_10_code 143 = .ok (.ifCond .le 22, 3) := by decide +kernel
theorem d_V_readNumber_146 : decode prog_9_method_10_code 146 = .ok (.iload 6, 2) := by decide +kernel
theorem d_V_readNumber_148 : decode prog_9_method_10_code 148 = .ok (.ifCond .eq 13, 3) := by decide +kernel
theorem d_V_readNumber_151 : decode prog_9_method_10_code 151 = .ok (.iload 5, 2) := by decide +kernel
theorem d_V_readNumber_153 : decode prog_9_method_10_code 153 = .ok (.iconst 1, 1) := by decide +kernel
theorem d_V_readNumber_154 : decode prog_9_method_10_code 154 = .ok (.if_icmp .ne 11, 3) := by decide +kernel
theorem d_V_readNumber_157 : decode prog_9_method_10_code 157 = .ok (.iload_n 2, 1) := by decide +kernel
theorem d_V_readNumber_158 : decode prog_9_method_10_code 158 = .ok (.ifCond .ne 7, 3) := by decide +kernel
theorem d_V_readNumber_161 : decode prog_9_method_10_code 161 = .ok (.iconst 1, 1) := by decide +kernel
theorem d_V_readNumber_162 : decode prog_9_method_10_code 162 = .ok (.goto 4, 3) := by decide +kernel
theorem d_V_readNumber_165 : decode prog_9_method_10_code 165 = .ok (.iconst 0, 1) := by decide +kernel
theorem d_V_readNumber_166 : decode prog_9_method_10_code 166 = .ok (.ireturn, 1) := by decide +kernel
set_option maxHeartbeats 4000000 in
set_option maxRecDepth 100000 in
theorem cV_readNumber (l : Launch) (dC : Nat → ClassId) (dI : Nat → Nat → Nat) (tk : Nat → ClassId) (A : Nat → Prop) (hV : Nat) (LV : Nat → Nat) (gV : aG) (aV : aA) (rw : va_W) (n : Nat) (v1 : Int32) (r0 : Int32) (ogV : aG) (oaV : aA) (hm : mV_readNumber n v1 gV aV = some (r0, ogV, oaV)) : CtI l dC dI tk A ⟨"EditorServer$Values", "readNumber", "(I)Z"⟩ prog_9_method_10_code 7 (some .boolean) 1 21 [.ref hV, .int v1] (oW 3 hV ksV spV tk LV gV aV rw) r0 (oW 3 hV ksV spV tk LV ogV oaV rw) := by
  refine ent (by decide) (Nat.le_of_ble_eq_true rfl) ?_
  intro p e s m args below meth c hx hb hr hml hown hlk hG hg hst ls hl
  unfold mV_readNumber at hm
  have hl : lv_has ls 7 [(0, .ref hV), (1, .int v1)] := hl
  refine lv_aload_n hx hb d_V_readNumber_0 rfl (lv_at hl 0 rfl) ?_
  refine lv_bipush (v := 45) hx hb d_V_readNumber_1 (by decide) ?_
  obtain ⟨⟨x1, g2⟩, hc3, hm⟩ := bd_u hm
  dsimp only at hm
  refine cl_vi hx hb hml hown hG hg (cV_skip l dC dI tk A hV LV gV aV rw n 45 _ _ hc3) (cw_v 1 hG k_358 k_360 s_6 k_3 k_361 (by decide +kernel) ⟨by decide, by decide⟩) hst rfl oW_0 rfl hl.1 rfl (Nat.le_of_ble_eq_true rfl) ⟨Nat.le_refl 0, Nat.le_refl 0⟩ d_V_readNumber_3 (fun H locs hst => ?_)
  refine lv_istore_n (lv' := [(2, .int x1), (0, .ref hV), (1, .int v1)]) hx hb d_V_readNumber_6 rfl hl (by decide) rfl (fun ls hl => ?_)
  refine lv_aload_n hx hb d_V_readNumber_7 rfl (lv_at hl 1 rfl) ?_
  refine ro_geti hx hb hown hG hg cV hst 10 (by decide) rfl rfl k_80 d_V_readNumber_8 ?_
  refine lv_istore_n (lv' := [(3, .int (g2 10)), (2, .int x1), (0, .ref hV), (1, .int v1)]) hx hb d_V_readNumber_11 rfl hl (by decide) rfl (fun ls hl => ?_)
  refine lv_iconst (v := 0) hx hb d_V_readNumber_12 (by decide) ?_
  refine lv_istore (lv' := [(4, .int 0), (3, .int (g2 10)), (2, .int x1), (0, .ref hV), (1, .int v1)]) hx hb d_V_readNumber_13 hl (by decide) rfl (fun ls hl => ?_)
  obtain ⟨qJ5, hm, hLJ5, hR6⟩ := jn_u hm
  have hJ5 : ∀ (x7 : Int32) (g8 : aG), qJ5 = .inl (x7, g8) → ∀ (H : Heap) (locs : List Loc) (ls : Array Slot), lv_has ls 7 [(0, .ref hV), (1, .int v1), (2, .int x1), (3, .int (g2 10)), (4, .int x7)] → St dC dI A s.heap H locs (oW 3 hV ksV spV tk LV g8 aV rw) → W p l e (rmo 1 21) s m args below meth c H locs 0 0 (MQ below (QI dC dI A r0 (oW 3 hV ksV spV tk LV ogV oaV rw)) args s 0 0 A) (F0 m 85 ls []) := by
    intro x7 g8 hq H locs ls hl hst
    have hm := hLJ5 _ hq
    dsimp only at hm
    refine lv_aload_n hx hb d_V_readNumber_85 rfl (lv_at hl 0 rfl) ?_
    refine ro_geta hx hb hown hG hg cV hst 0 0 (by decide) rfl rfl k_70 d_V_readNumber_86 ?_
    refine lv_iload_n hx hb d_V_readNumber_89 rfl (lv_at hl 1 rfl) ?_
    refine lv_iconst (v := 1) hx hb d_V_readNumber_90 (by decide) ?_
    obtain ⟨hn10, hm⟩ := gd_u hm
    refine ro_iast hx hb hg hst 0 rfl hn10 d_V_readNumber_91 (fun a11 H locs ea11 hst => ?_)
    have hm := lt_u hm a11 ea11
    refine lv_aload_n hx hb d_V_readNumber_92 rfl (lv_at hl 0 rfl) ?_
    refine ro_geta hx hb hown hG hg cV hst 1 1 (by decide) rfl rfl k_71 d_V_readNumber_93 ?_
    refine lv_iload_n hx hb d_V_readNumber_96 rfl (lv_at hl 1 rfl) ?_
    refine lv_iload_n hx hb d_V_readNumber_97 rfl (lv_at hl 2 rfl) ?_
    obtain ⟨qJ12, hm, hLJ12, hR13⟩ := jn_u hm
    have hJ12 : ∀ (x14 : Int32), qJ12 = .inl x14 → ∀ (H : Heap) (locs : List Loc) (ls : Array Slot), lv_has ls 7 [(0, .ref hV), (1, .int v1), (2, .int x1), (3, .int (g2 10)), (4, .int x7)] → St dC dI A s.heap H locs (oW 3 hV ksV spV tk LV g8 a11 rw) → W p l e (rmo 1 21) s m args below meth c H locs 0 0 (MQ below (QI dC dI A r0 (oW 3 hV ksV spV tk LV ogV oaV rw)) args s 0 0 A) (F0 m 109 ls [.int x14, .int v1, .ref (LV 1)]) := by
      intro x14 hq H locs ls hl hst
      have hm := hLJ12 _ hq
      obtain ⟨hn16, hm⟩ := gd_u hm
      refine ro_iast hx hb hg hst 1 rfl hn16 d_V_readNumber_109 (fun a17 H locs ea17 hst => ?_)
      have hm := lt_u hm a17 ea17
      refine lv_aload_n hx hb d_V_readNumber_110 rfl (lv_at hl 0 rfl) ?_
      refine ro_geti hx hb hown hG hg cV hst 10 (by decide) rfl rfl k_80 d_V_readNumber_111 ?_
      refine lv_iload_n hx hb d_V_readNumber_114 rfl (lv_at hl 3 rfl) ?_
      refine lv_isub hx hb d_V_readNumber_115 ?_
      refine lv_topi (fun x18 ex18 => ?_)
      have hm := lt_u hm x18 ex18
      refine lv_istore (lv' := [(5, .int x18), (0, .ref hV), (1, .int v1), (2, .int x1), (3, .int (g2 10)), (4, .int x7)]) hx hb d_V_readNumber_116 hl (by decide) rfl (fun ls hl => ?_)
      refine lv_iload hx hb d_V_readNumber_118 (lv_at hl 0 rfl) ?_
      obtain ⟨qJ19, hm, hLJ19, hR20⟩ := jn_u hm
      have hJ19 : qJ19 = .inl () → ∀ (H : Heap) (locs : List Loc) (ls : Array Slot), lv_has ls 7 [(0, .ref hV), (1, .int v1), (2, .int x1), (3, .int (g2 10)), (4, .int x7), (5, .int x18)] → St dC dI A s.heap H locs (oW 3 hV ksV spV tk LV g8 a17 rw) → W p l e (rmo 1 21) s m args below meth c H locs 0 0 (MQ below (QI dC dI A r0 (oW 3 hV ksV spV tk LV ogV oaV rw)) args s 0 0 A) (F0 m 138 ls []) := by
        intro hq H locs ls hl hst
        have hm := hLJ19 _ hq
        refine lv_iconst (v := 0) hx hb d_V_readNumber_138 (by decide) ?_
        refine lv_istore (lv' := [(6, .int 0), (0, .ref hV), (1, .int v1), (2, .int x1), (3, .int (g2 10)), (4, .int x7), (5, .int x18)]) hx hb d_V_readNumber_139 hl (by decide) rfl (fun ls hl => ?_)
        refine lv_iload hx hb d_V_readNumber_141 (lv_at hl 6 rfl) ?_
        refine lv_if_le (tgt := 165) hx hb d_V_readNumber_143 (by decide) (fun h22 => ?_) (fun h22 => ?_)
        · have hm := it_t hm h22
          refine lv_iconst (v := 0) hx hb d_V_readNumber_165 (by decide) ?_
          have he := (Option.some.inj hm)
          cases he
          exact rt_i hx hb hr hlk (by decide) hst rfl d_V_readNumber_166
        · have hm := it_f hm h22
          refine lv_iload hx hb d_V_readNumber_146 (lv_at hl 0 rfl) ?_
          refine lv_if_eq (tgt := 161) hx hb d_V_readNumber_148 (by decide) (fun h23 => ?_) (fun h23 => ?_)
          rotate_left
          · exact absurd h23 (by decide)
          refine lv_iconst (v := 1) hx hb d_V_readNumber_161 (by decide) ?_
          refine lv_goto (tgt := 166) hx hb d_V_readNumber_162 (by decide) ?_
          have he := (Option.some.inj hm)
          cases he
          exact rt_i hx hb hr hlk (by decide) hst rfl d_V_readNumber_166
      refine lv_if_le (tgt := 138) hx hb d_V_readNumber_120 (by decide) (fun h24 => ?_) (fun h24 => ?_)
      · have hm := it_t hm h24
        exact hJ19  (Option.some.inj hm).symm _ _ _ (lv_sub hl [1, 2, 3, 4, 5, 0] rfl) hst
      · have hm := it_f hm h24
        refine lv_aload_n hx hb d_V_readNumber_123 rfl (lv_at hl 1 rfl) ?_
        refine ro_geta hx hb hown hG hg cV hst 8 8 (by decide) rfl rfl k_78 d_V_readNumber_124 ?_
        refine lv_iload_n hx hb d_V_readNumber_127 rfl (lv_at hl 4 rfl) ?_
        obtain ⟨hn25, hm⟩ := gd_u hm
        refine ro_cald hx hb hg hst 8 rfl hn25 d_V_readNumber_128 ?_
        refine lv_topi (fun x26 ex26 => ?_)
        have hm := lt_u hm x26 ex26
        refine lv_bipush (v := 48) hx hb d_V_readNumber_129 (by decide) ?_
        refine lv_icmp_ne (tgt := 138) hx hb d_V_readNumber_131 (by decide) (fun h27 => ?_) (fun h27 => ?_)
        · have hm := it_f hm h27
          exact hJ19  (Option.some.inj hm).symm _ _ _ (lv_sub hl [1, 2, 3, 4, 5, 0] rfl) hst
        · have hm := it_t hm h27
          refine lv_iconst (v := 1) hx hb d_V_readNumber_134 (by decide) ?_
          refine lv_goto (tgt := 139) hx hb d_V_readNumber_135 (by decide) ?_
          refine lv_istore (lv' := [(6, .int 1), (5, .int x18), (0, .ref hV), (1, .int v1), (2, .int x1), (3, .int (g2 10)), (4, .int x7)]) hx hb d_V_readNumber_139 hl (by decide) rfl (fun ls hl => ?_)
          refine lv_iload hx hb d_V_readNumber_141 (lv_at hl 1 rfl) ?_
          refine lv_if_le (tgt := 165) hx hb d_V_readNumber_143 (by decide) (fun h28 => ?_) (fun h28 => ?_)
          · have hm := it_t hm h28
            refine lv_iconst (v := 0) hx hb d_V_readNumber_165 (by decide) ?_
            have he := (hR20 _ (Option.some.inj hm).symm)
            cases he
            exact rt_i hx hb hr hlk (by decide) hst rfl d_V_readNumber_166
          · have hm := it_f hm h28
            refine lv_iload hx hb d_V_readNumber_146 (lv_at hl 0 rfl) ?_
            refine lv_if_eq (tgt := 161) hx hb d_V_readNumber_148 (by decide) (fun h29 => ?_) (fun h29 => ?_)
            · exact absurd h29 (by decide)
            refine lv_iload hx hb d_V_readNumber_151 (lv_at hl 1 rfl) ?_
            refine lv_iconst (v := 1) hx hb d_V_readNumber_153 (by decide) ?_
            refine lv_icmp_ne (tgt := 165) hx hb d_V_readNumber_154 (by decide) (fun h30 => ?_) (fun h30 => ?_)
            · have hm := it_f hm h30
              refine lv_iconst (v := 0) hx hb d_V_readNumber_165 (by decide) ?_
              have he := (hR20 _ (Option.some.inj hm).symm)
              cases he
              exact rt_i hx hb hr hlk (by decide) hst rfl d_V_readNumber_166
            · have hm := it_t hm h30
              refine lv_iload_n hx hb d_V_readNumber_157 rfl (lv_at hl 4 rfl) ?_
              refine lv_if_ne (tgt := 165) hx hb d_V_readNumber_158 (by decide) (fun h31 => ?_) (fun h31 => ?_)
              · have hm := it_f hm h31
                refine lv_iconst (v := 0) hx hb d_V_readNumber_165 (by decide) ?_
                have he := (hR20 _ (Option.some.inj hm).symm)
                cases he
                exact rt_i hx hb hr hlk (by decide) hst rfl d_V_readNumber_166
              · have hm := it_t hm h31
                refine lv_iconst (v := 1) hx hb d_V_readNumber_161 (by decide) ?_
                refine lv_goto (tgt := 166) hx hb d_V_readNumber_162 (by decide) ?_
                have he := (hR20 _ (Option.some.inj hm).symm)
                cases he
                exact rt_i hx hb hr hlk (by decide) hst rfl d_V_readNumber_166
    refine lv_if_eq (tgt := 107) hx hb d_V_readNumber_98 (by decide) (fun h32 => ?_) (fun h32 => ?_)
    · have hm := it_t hm h32
      refine lv_iload hx hb d_V_readNumber_107 (lv_at hl 4 rfl) ?_
      exact hJ12 x7 (Option.some.inj hm).symm _ _ _ (lv_sub hl [0, 1, 2, 3, 4] rfl) hst
    · have hm := it_f hm h32
      refine lv_iload hx hb d_V_readNumber_101 (lv_at hl 4 rfl) ?_
      refine lv_ineg hx hb d_V_readNumber_103 ?_
      refine lv_goto (tgt := 109) hx hb d_V_readNumber_104 (by decide) ?_
      exact hJ12 (-x7) (Option.some.inj hm).symm _ _ _ (lv_sub hl [0, 1, 2, 3, 4] rfl) hst
  refine lp_u (fun q35 : Int32 × aG => ∀ (H : Heap) (locs : List Loc) (ls : Array Slot), lv_has ls 7 [(0, .ref hV), (1, .int v1), (2, .int x1), (3, .int (g2 10)), (4, .int q35.1)] → St dC dI A s.heap H locs (oW 3 hV ksV spV tk LV q35.2 aV rw) → W p l e (rmo 1 21) s m args below meth c H locs 0 0 (MQ below (QI dC dI A r0 (oW 3 hV ksV spV tk LV ogV oaV rw)) args s 0 0 A) (F0 m 15 ls [])) ?_ n (0, g2) hm _ _ _ (lv_sub hl [3, 4, 2, 1, 0] rfl) hst
  rintro ⟨x33, g34⟩ r38 hm hJ360 hR37 H locs ls hl hst
  dsimp only at hm hl hst ⊢
  have hJ36 := fun y0 y1 (e : r38 = .inl (y0, y1)) => hJ360 (y0, y1) e
  dsimp only at hJ36
  refine lv_aload_n hx hb d_V_readNumber_15 rfl (lv_at hl 0 rfl) ?_
  refine ro_geti hx hb hown hG hg cV hst 10 (by decide) rfl rfl k_80 d_V_readNumber_16 ?_
  refine lv_aload_n hx hb d_V_readNumber_19 rfl (lv_at hl 0 rfl) ?_
  refine ro_geti hx hb hown hG hg cV hst 9 (by decide) rfl rfl k_79 d_V_readNumber_20 ?_
  refine lv_icmp_ge (tgt := 85) hx hb d_V_readNumber_23 (by decide) (fun h39 => ?_) (fun h39 => ?_)
  · have hm := it_t hm h39
    exact hJ5 x33 g34 (hR37 _ (Option.some.inj hm).symm).symm _ _ _ (lv_sub hl [0, 1, 2, 3, 4] rfl) hst
  · have hm := it_f hm h39
    refine lv_aload_n hx hb d_V_readNumber_26 rfl (lv_at hl 0 rfl) ?_
    refine ro_geti hx hb hown hG hg cV hst 10 (by decide) rfl rfl k_80 d_V_readNumber_27 ?_
    refine lv_iload_n hx hb d_V_readNumber_30 rfl (lv_at hl 3 rfl) ?_
    refine lv_bipush (v := 6) hx hb d_V_readNumber_31 (by decide) ?_
    refine lv_iadd hx hb d_V_readNumber_33 ?_
    refine lv_icmp_ge (tgt := 85) hx hb d_V_readNumber_34 (by decide) (fun h40 => ?_) (fun h40 => ?_)
    · have hm := it_t hm h40
      exact hJ5 x33 g34 (hR37 _ (Option.some.inj hm).symm).symm _ _ _ (lv_sub hl [0, 1, 2, 3, 4] rfl) hst
    · have hm := it_f hm h40
      refine lv_aload_n hx hb d_V_readNumber_37 rfl (lv_at hl 0 rfl) ?_
      refine ro_geta hx hb hown hG hg cV hst 8 8 (by decide) rfl rfl k_78 d_V_readNumber_38 ?_
      refine lv_aload_n hx hb d_V_readNumber_41 rfl (lv_at hl 0 rfl) ?_
      refine ro_geti hx hb hown hG hg cV hst 10 (by decide) rfl rfl k_80 d_V_readNumber_42 ?_
      obtain ⟨hn41, hm⟩ := gd_u hm
      refine ro_cald hx hb hg hst 8 rfl hn41 d_V_readNumber_45 ?_
      refine lv_topi (fun x42 ex42 => ?_)
      have hm := lt_u hm x42 ex42
      obtain ⟨x43, hc44, hm⟩ := bd_u hm
      refine cl_sn (n := 1) hx hb hml hown hG hg (cE_isDigit l dC dI tk A (oW 3 hV ksV spV tk LV g34 aV rw) n x42 _ hc44) t_374 k_325 k_1 k_326 (by decide +kernel) ⟨by decide, by decide⟩ hst rfl hl.1 rfl (Nat.le_of_ble_eq_true rfl) ⟨Nat.le_refl 0, Nat.le_refl 0⟩ d_V_readNumber_46 (fun H locs hst => ?_)
      refine lv_if_eq (tgt := 85) hx hb d_V_readNumber_49 (by decide) (fun h46 => ?_) (fun h46 => ?_)
      · have hm := it_t hm h46
        exact hJ5 x33 g34 (hR37 _ (Option.some.inj hm).symm).symm _ _ _ (lv_sub hl [0, 1, 2, 3, 4] rfl) hst
      · have hm := it_f hm h46
        refine lv_iload hx hb d_V_readNumber_52 (lv_at hl 4 rfl) ?_
        refine lv_bipush (v := 10) hx hb d_V_readNumber_54 (by decide) ?_
        refine lv_imul hx hb d_V_readNumber_56 ?_
        refine lv_aload_n hx hb d_V_readNumber_57 rfl (lv_at hl 0 rfl) ?_
        refine ro_geta hx hb hown hG hg cV hst 8 8 (by decide) rfl rfl k_78 d_V_readNumber_58 ?_
        refine lv_aload_n hx hb d_V_readNumber_61 rfl (lv_at hl 0 rfl) ?_
        refine ro_geti hx hb hown hG hg cV hst 10 (by decide) rfl rfl k_80 d_V_readNumber_62 ?_
        obtain ⟨hn47, hm⟩ := gd_u hm
        refine ro_cald hx hb hg hst 8 rfl hn47 d_V_readNumber_65 ?_
        refine lv_topi (fun x48 ex48 => ?_)
        have hm := lt_u hm x48 ex48
        refine lv_bipush (v := 48) hx hb d_V_readNumber_66 (by decide) ?_
        refine lv_isub hx hb d_V_readNumber_68 ?_
        refine lv_iadd hx hb d_V_readNumber_69 ?_
        refine lv_topi (fun x49 ex49 => ?_)
        have hm := lt_u hm x49 ex49
        refine lv_istore (lv' := [(4, .int x49), (0, .ref hV), (1, .int v1), (2, .int x1), (3, .int (g2 10))]) hx hb d_V_readNumber_70 hl (by decide) rfl (fun ls hl => ?_)
        refine lv_aload_n hx hb d_V_readNumber_72 rfl (lv_at hl 1 rfl) ?_
        refine lv_dup hx hb d_V_readNumber_73 rfl ?_
        refine ro_geti hx hb hown hG hg cV hst 10 (by decide) rfl rfl k_80 d_V_readNumber_74 ?_
        refine lv_iconst (v := 1) hx hb d_V_readNumber_77 (by decide) ?_
        refine lv_iadd hx hb d_V_readNumber_78 ?_
        refine ro_puti hx hb hown hG hg cV hst 10 (by decide) rfl rfl rfl rfl rfl k_80 d_V_readNumber_79 (fun g50 H locs eg50 hst => ?_)
        have hm := lt_u hm g50 eg50
        refine lv_goto (tgt := 15) hx hb d_V_readNumber_82 (by decide) ?_
        exact hJ36 x49 g50 (Option.some.inj hm).symm _ _ _ (lv_sub hl [1, 2, 3, 4, 0] rfl) hst
def mV_sameLetters (n : Nat) (is : Nat) (v1 : Int32) (v2 : Int32) (gV : aG) (aV : aA) : Option (Int32) := if v2 = (Int32.ofNat (slen is)) then (if (v1 + v2) ≤ (gV 12) then (lp (ε := Int32) (fun x3 => if v2 ≤ x3 then (some (.inr (1))) else (gd (inb (v1 + x3) 200) (lt (aV 7 (v1 + x3).toNatClampNeg) (fun x10 => gd (inb x3 (slen is)) (lt (sbyt is x3.toNatClampNeg) (fun x12 => if x10 = x12 then (some (.inl (x3 + 1))) else (some (.inr (0))))))))) n 0) else (some (0))) else (some (0))
theorem d_V_sameLetters_0 : decode prog_9_method_21_code 0 = .ok (.iload_n 2, 1) := by decide +kernel
theorem d_V_sameLetters_1 : decode prog_9_method_21_code 1 = .ok (.aload_n 3, 1) := by decide +kernel
theorem d_V_sameLetters_2 : decode prog_9_method_21_code 2 = .ok (.invokevirtual 106, 3) := by decide +kernel
theorem d_V_sameLetters_5 : decode prog_9_method_21_code 5 = .ok (.if_icmp .ne 13, 3) := by decide +kernel
theorem d_V_sameLetters_8 : decode prog_9_method_21_code 8 = .ok (.iload_n 1, 1) := by decide +kernel
theorem d_V_sameLetters_9 : decode prog_9_method_21_code 9 = .ok (.iload_n 2, 1) := by decide +kernel
theorem d_V_sameLetters_10 : decode prog_9_method_21_code 10 = .ok (.iadd, 1) := by decide +kernel
theorem d_V_sameLetters_11 : decode prog_9_method_21_code 11 = .ok (.aload_n 0, 1) := by decide +kernel
theorem d_V_sameLetters_12 : decode prog_9_method_21_code 12 = .ok (.getfield 58, 3) := by decide +kernel
theorem d_V_sameLetters_15 : decode prog_9_method_21_code 15 = .ok (.if_icmp .le 5, 3) := by decide +kernel
theorem d_V_sameLetters_18 : decode prog_9_method_21_code 18 = .ok (.iconst 0, 1) := by decide +kernel
theorem d_V_sameLetters_19 : decode prog_9_method_21_code 19 = .ok (.ireturn, 1) := by decide +kernel
theorem d_V_sameLetters_20 : decode prog_9_method_21_code 20 = .ok (.iconst 0, 1) := by decide +kernel
theorem d_V_sameLetters_21 : decode prog_9_method_21_code 21 = .ok (.istore 4, 2) := by decide +kernel
theorem d_V_sameLetters_23 : decode prog_9_method_21_code 23 = .ok (.iload 4, 2) := by decide +kernel
theorem d_V_sameLetters_25 : decode prog_9_method_21_code 25 = .ok (.iload_n 2, 1) := by decide +kernel
theorem d_V_sameLetters_26 : decode prog_9_method_21_code 26 = .ok (.if_icmp .ge 29, 3) := by decide +kernel
theorem d_V_sameLetters_29 : decode prog_9_method_21_code 29 = .ok (.aload_n 0, 1) := by decide +kernel
theorem d_V_sameLetters_30 : decode prog_9_method_21_code 30 = .ok (.getfield 35, 3) := by decide +kernel
theorem d_V_sameLetters_33 : decode prog_9_method_21_code 33 = .ok (.iload_n 1, 1) := by decide +kernel
theorem d_V_sameLetters_34 : decode prog_9_method_21_code 34 = .ok (.iload 4, 2) := by decide +kernel
theorem d_V_sameLetters_36 : decode prog_9_method_21_code 36 = .ok (.iadd, 1) := by decide +kernel
theorem d_V_sameLetters_37 : decode prog_9_method_21_code 37 = .ok (.caload, 1) := by decide +kernel
theorem d_V_sameLetters_38 : decode prog_9_method_21_code 38 = .ok (.aload_n 3, 1) := by decide +kernel
theorem d_V_sameLetters_39 : decode prog_9_method_21_code 39 = .ok (.iload 4, 2) := by decide +kernel
theorem d_V_sameLetters_41 : decode prog_9_method_21_code 41 = .ok (.invokevirtual 112, 3) := by decide +kernel
theorem d_V_sameLetters_44 : decode prog_9_method_21_code 44 = .ok (.if_icmp .eq 5, 3) := by decide +kernel
theorem d_V_sameLetters_47 : decode prog_9_method_21_code 47 = .ok (.iconst 0, 1) := by decide +kernel
theorem d_V_sameLetters_48 : decode prog_9_method_21_code 48 = .ok (.ireturn, 1) := by decide +kernel
theorem d_V_sameLetters_49 : decode prog_9_method_21_code 49 = .ok (.iinc 4 1, 3) := by decide +kernel
theorem d_V_sameLetters_52 : decode prog_9_method_21_code 52 = .ok (.goto (-29), 3) := by decide +kernel
theorem d_V_sameLetters_55 : decode prog_9_method_21_code 55 = .ok (.iconst 1, 1) := by decide +kernel
theorem d_V_sameLetters_56 : decode prog_9_method_21_code 56 = .ok (.ireturn, 1) := by decide +kernel
set_option maxHeartbeats 4000000 in
set_option maxRecDepth 100000 in
theorem cV_sameLetters (l : Launch) (dC : Nat → ClassId) (dI : Nat → Nat → Nat) (tk : Nat → ClassId) (A : Nat → Prop) (hV : Nat) (LV : Nat → Nat) (gV : aG) (aV : aA) (rw : va_W) (n : Nat) (is : Nat) (his : is < 29) (v1 : Int32) (v2 : Int32) (r0 : Int32) (hm : mV_sameLetters n is v1 v2 gV aV = some r0) : CtI l dC dI tk A ⟨"EditorServer$Values", "sameLetters", "(IILjava/lang/String;)Z"⟩ prog_9_method_21_code 5 (some .boolean) 4 85 [.ref hV, .int v1, .int v2, .ref (dI 1000 is)] (oW 3 hV ksV spV tk LV gV aV rw) r0 (oW 3 hV ksV spV tk LV gV aV rw) := by
  refine ent (by decide) (Nat.le_of_ble_eq_true rfl) ?_
  intro p e s m args below meth c hx hb hr hml hown hlk hG hg hst ls hl
  unfold mV_sameLetters at hm
  have hl : lv_has ls 5 [(0, .ref hV), (1, .int v1), (2, .int v2), (3, .ref (dI 1000 is))] := hl
  refine lv_iload_n hx hb d_V_sameLetters_0 rfl (lv_at hl 2 rfl) ?_
  refine lv_aload_n hx hb d_V_sameLetters_1 rfl (lv_at hl 3 rfl) ?_
  refine cl_vo (As := []) hx hb hml hown hG hg (c_sn l dC dI tk A _ is his) (cw_v 0 hG k_384 k_385 k_386 k_12 k_387 (by decide +kernel) ⟨by decide, by decide⟩) hst (hg.2.2.2.1 is his).1 rfl hl.1 rfl (Nat.le_of_ble_eq_true rfl) ⟨Nat.le_refl 0, Nat.le_refl 0⟩ d_V_sameLetters_2 (fun H locs hst => ?_)
  refine lv_icmp_ne (tgt := 18) hx hb d_V_sameLetters_5 (by decide) (fun h1 => ?_) (fun h1 => ?_)
  · have hm := it_f hm h1
    refine lv_iconst (v := 0) hx hb d_V_sameLetters_18 (by decide) ?_
    have he := (Option.some.inj hm)
    cases he
    exact rt_i hx hb hr hlk (by decide) hst rfl d_V_sameLetters_19
  · have hm := it_t hm h1
    refine lv_iload_n hx hb d_V_sameLetters_8 rfl (lv_at hl 1 rfl) ?_
    refine lv_iload_n hx hb d_V_sameLetters_9 rfl (lv_at hl 2 rfl) ?_
    refine lv_iadd hx hb d_V_sameLetters_10 ?_
    refine lv_aload_n hx hb d_V_sameLetters_11 rfl (lv_at hl 0 rfl) ?_
    refine ro_geti hx hb hown hG hg cV hst 12 (by decide) rfl rfl k_82 d_V_sameLetters_12 ?_
    refine lv_icmp_le (tgt := 20) hx hb d_V_sameLetters_15 (by decide) (fun h2 => ?_) (fun h2 => ?_)
    · have hm := it_t hm h2
      refine lv_iconst (v := 0) hx hb d_V_sameLetters_20 (by decide) ?_
      refine lv_istore (lv' := [(4, .int 0), (0, .ref hV), (1, .int v1), (2, .int v2), (3, .ref (dI 1000 is))]) hx hb d_V_sameLetters_21 hl (by decide) rfl (fun ls hl => ?_)
      refine lp_u (fun x3 : Int32 => ∀ (H : Heap) (locs : List Loc) (ls : Array Slot), lv_has ls 5 [(0, .ref hV), (1, .int v1), (2, .int v2), (3, .ref (dI 1000 is)), (4, .int x3)] → St dC dI A s.heap H locs (oW 3 hV ksV spV tk LV gV aV rw) → W p l e (rmo 4 85) s m args below meth c H locs 0 0 (MQ below (QI dC dI A r0 (oW 3 hV ksV spV tk LV gV aV rw)) args s 0 0 A) (F0 m 23 ls [])) ?_ n 0 hm _ _ _ (lv_sub hl [1, 2, 3, 4, 0] rfl) hst
      rintro x3 r7 hm hJ50 hR6 H locs ls hl hst
      have hJ5 := fun y0 (e : r7 = .inl y0) => hJ50 y0 e
      refine lv_iload hx hb d_V_sameLetters_23 (lv_at hl 4 rfl) ?_
      refine lv_iload_n hx hb d_V_sameLetters_25 rfl (lv_at hl 2 rfl) ?_
      refine lv_icmp_ge (tgt := 55) hx hb d_V_sameLetters_26 (by decide) (fun h8 => ?_) (fun h8 => ?_)
      · have hm := it_t hm h8
        refine lv_iconst (v := 1) hx hb d_V_sameLetters_55 (by decide) ?_
        have he := (hR6 _ (Option.some.inj hm).symm)
        cases he
        exact rt_i hx hb hr hlk (by decide) hst rfl d_V_sameLetters_56
      · have hm := it_f hm h8
        refine lv_aload_n hx hb d_V_sameLetters_29 rfl (lv_at hl 0 rfl) ?_
        refine ro_geta hx hb hown hG hg cV hst 7 7 (by decide) rfl rfl k_77 d_V_sameLetters_30 ?_
        refine lv_iload_n hx hb d_V_sameLetters_33 rfl (lv_at hl 1 rfl) ?_
        refine lv_iload hx hb d_V_sameLetters_34 (lv_at hl 4 rfl) ?_
        refine lv_iadd hx hb d_V_sameLetters_36 ?_
        obtain ⟨hn9, hm⟩ := gd_u hm
        refine ro_cald hx hb hg hst 7 rfl hn9 d_V_sameLetters_37 ?_
        refine lv_topi (fun x10 ex10 => ?_)
        have hm := lt_u hm x10 ex10
        refine lv_aload_n hx hb d_V_sameLetters_38 rfl (lv_at hl 3 rfl) ?_
        refine lv_iload hx hb d_V_sameLetters_39 (lv_at hl 4 rfl) ?_
        obtain ⟨hn11, hm⟩ := gd_u hm
        refine cl_vo (As := [.int x3]) hx hb hml hown hG hg (c_sa l dC dI tk A _ is his x3 hn11) (cw_v 1 hG k_393 k_394 k_395 k_12 k_396 (by decide +kernel) ⟨by decide, by decide⟩) hst (hg.2.2.2.1 is his).1 rfl hl.1 rfl (Nat.le_of_ble_eq_true rfl) ⟨Nat.le_refl 0, Nat.le_refl 0⟩ d_V_sameLetters_41 (fun H locs hst => ?_)
        refine lv_topi (fun x12 ex12 => ?_)
        have hm := lt_u hm x12 ex12
        refine lv_icmp_eq (tgt := 49) hx hb d_V_sameLetters_44 (by decide) (fun h13 => ?_) (fun h13 => ?_)
        · have hm := it_t hm h13
          refine lv_iinc (k := 4) (v := (x3 + 1)) (lv' := [(4, .int (x3 + 1)), (0, .ref hV), (1, .int v1), (2, .int v2), (3, .ref (dI 1000 is))]) hx hb d_V_sameLetters_49 hl rfl (by rfl) (by decide) rfl (fun ls hl => ?_)
          refine lv_goto (tgt := 23) hx hb d_V_sameLetters_52 (by decide) ?_
          exact hJ5 (x3 + 1) (Option.some.inj hm).symm _ _ _ (lv_sub hl [1, 2, 3, 4, 0] rfl) hst
        · have hm := it_f hm h13
          refine lv_iconst (v := 0) hx hb d_V_sameLetters_47 (by decide) ?_
          have he := (hR6 _ (Option.some.inj hm).symm)
          cases he
          exact rt_i hx hb hr hlk (by decide) hst rfl d_V_sameLetters_48
    · have hm := it_f hm h2
      refine lv_iconst (v := 0) hx hb d_V_sameLetters_18 (by decide) ?_
      have he := (Option.some.inj hm)
      cases he
      exact rt_i hx hb hr hlk (by decide) hst rfl d_V_sameLetters_19
def mV_member (n : Nat) (is : Nat) (gV : aG) (aV : aA) : Option (Int32) := gd (inb 0 40) (lt (aV 0 (0 : Int32).toNatClampNeg) (fun x2 => if x2 = 4 then (lp (ε := Int32 × Int32) (fun q6 => gd (inb 0 40) (lt (aV 3 (0 : Int32).toNatClampNeg) (fun x11 => if x11 ≤ q6.2 then (some (.inr ((-1)))) else (if (gV 11) ≤ q6.1 then (some (.inr ((-1)))) else (gd (inb q6.1 40) (lt (aV 5 q6.1.toNatClampNeg) (fun x15 => gd (inb q6.1 40) (lt (aV 6 q6.1.toNatClampNeg) (fun x17 => bd (mV_sameLetters n is x15 x17 gV aV) (fun x18 => if x18 = 0 then (gd (inb q6.1 40) (lt (aV 4 q6.1.toNatClampNeg) (fun x23 => some (.inl (x23, (q6.2 + 1)))))) else (some (.inr (q6.1))))))))))))) n (1, 0)) else (some ((-1)))))
theorem d_V_member_0 : decode prog_9_method_13_code 0 = .ok (.aload_n 0, 1) := by decide +kernel
theorem d_V_member_1 : decode prog_9_method_13_code 1 = .ok (.getfield 11, 3) := by decide +kernel
theorem d_V_member_4 : decode prog_9_method_13_code 4 = .ok (.iconst 0, 1) := by decide +kernel
theorem d_V_member_5 : decode prog_9_method_13_code 5 = .ok (.iaload, 1) := by decide +kernel
theorem d_V_member_6 : decode prog_9_method_13_code 6 = .ok (.iconst 4, 1) := by decide +kernel
theorem d_V_member_7 : decode prog_9_method_13_code 7 = .ok (.if_icmp .eq 5, 3) := by decide +kernel
theorem d_V_member_10 : decode prog_9_method_13_code 10 = .ok (.iconst (-1), 1) := by decide +kernel
theorem d_V_member_11 : decode prog_9_method_13_code 11 = .ok (.ireturn, 1) := by decide +kernel
theorem d_V_member_12 : decode prog_9_method_13_code 12 = .ok (.iconst 1, 1) := by decide +kernel
theorem d_V_member_13 : decode prog_9_method_13_code 13 = .ok (.istore_n 2, 1) := by decide +kernel
theorem d_V_member_14 : decode prog_9_method_13_code 14 = .ok (.iconst 0, 1) := by decide +kernel
theorem d_V_member_15 : decode prog_9_method_13_code 15 = .ok (.istore_n 3, 1) := by decide +kernel
theorem d_V_member_16 : decode prog_9_method_13_code 16 = .ok (.iload_n 3, 1) := by decide +kernel
theorem d_V_member_17 : decode prog_9_method_13_code 17 = .ok (.aload_n 0, 1) := by decide +kernel
theorem d_V_member_18 : decode prog_9_method_13_code 18 = .ok (.getfield 21, 3) := by decide +kernel
theorem d_V_member_21 : decode prog_9_method_13_code 21 = .ok (.iconst 0, 1) := by decide +kernel
theorem d_V_member_22 : decode prog_9_method_13_code 22 = .ok (.iaload, 1) := by decide +kernel
theorem d_V_member_23 : decode prog_9_method_13_code 23 = .ok (.if_icmp .ge 46, 3) := by decide +kernel
theorem d_V_member_26 : decode prog_9_method_13_code 26 = .ok (.iload_n 2, 1) := by decide +kernel
theorem d_V_member_27 : decode prog_9_method_13_code 27 = .ok (.aload_n 0, 1) := by decide +kernel
theorem d_V_member_28 : decode prog_9_method_13_code 28 = .ok (.getfield 55, 3) := by decide +kernel
theorem d_V_member_31 : decode prog_9_method_13_code 31 = .ok (.if_icmp .ge 38, 3) := by decide +kernel
theorem d_V_member_34 : decode prog_9_method_13_code 34 = .ok (.aload_n 0, 1) := by decide +kernel
theorem d_V_member_35 : decode prog_9_method_13_code 35 = .ok (.aload_n 0, 1) := by decide +kernel
theorem d_V_member_36 : decode prog_9_method_13_code 36 = .ok (.getfield 27, 3) := by decide +kernel
theorem d_V_member_39 : decode prog_9_method_13_code 39 = .ok (.iload_n 2, 1) := by decide +kernel
theorem d_V_member_40 : decode prog_9_method_13_code 40 = .ok (.iaload, 1) := by decide +kernel
theorem d_V_member_41 : decode prog_9_method_13_code 41 = .ok (.aload_n 0, 1) := by decide +kernel
theorem d_V_member_42 : decode prog_9_method_13_code 42 = .ok (.getfield 30, 3) := by decide +kernel
theorem d_V_member_45 : decode prog_9_method_13_code 45 = .ok (.iload_n 2, 1) := by decide +kernel
theorem d_V_member_46 : decode prog_9_method_13_code 46 = .ok (.iaload, 1) := by decide +kernel
theorem d_V_member_47 : decode prog_9_method_13_code 47 = .ok (.aload_n 1, 1) := by decide +kernel
theorem d_V_member_48 : decode prog_9_method_13_code 48 = .ok (.invokevirtual 116, 3) := by decide +kernel
theorem d_V_member_51 : decode prog_9_method_13_code 51 = .ok (.ifCond .eq 5, 3) := by decide +kernel
theorem d_V_member_54 : decode prog_9_method_13_code 54 = .ok (.iload_n 2, 1) := by decide +kernel
theorem d_V_member_55 : decode prog_9_method_13_code 55 = .ok (.ireturn, 1) := by decide +kernel
theorem d_V_member_56 : decode prog_9_method_13_code 56 = .ok (.aload_n 0, 1) := by decide +kernel
theorem d_V_member_57 : decode prog_9_method_13_code 57 = .ok (.getfield 24, 3) := by decide +kernel
theorem d_V_member_60 : decode prog_9_method_13_code 60 = .ok (.iload_n 2, 1) := by decide +kernel
theorem d_V_member_61 : decode prog_9_method_13_code 61 = .ok (.iaload, 1) := by decide +kernel
theorem d_V_member_62 : decode prog_9_method_13_code 62 = .ok (.istore_n 2, 1) := by decide +kernel
theorem d_V_member_63 : decode prog_9_method_13_code 63 = .ok (.iinc 3 1, 3) := by decide +kernel
theorem d_V_member_66 : decode prog_9_method_13_code 66 = .ok (.goto (-50), 3) := by decide +kernel
theorem d_V_member_69 : decode prog_9_method_13_code 69 = .ok (.iconst (-1), 1) := by decide +kernel
theorem d_V_member_70 : decode prog_9_method_13_code 70 = .ok (.ireturn, 1) := by decide +kernel
set_option maxHeartbeats 4000000 in
set_option maxRecDepth 100000 in
theorem cV_member (l : Launch) (dC : Nat → ClassId) (dI : Nat → Nat → Nat) (tk : Nat → ClassId) (A : Nat → Prop) (hV : Nat) (LV : Nat → Nat) (gV : aG) (aV : aA) (rw : va_W) (n : Nat) (is : Nat) (his : is < 29) (r0 : Int32) (hm : mV_member n is gV aV = some r0) : CtI l dC dI tk A ⟨"EditorServer$Values", "member", "(Ljava/lang/String;)I"⟩ prog_9_method_13_code 4 (some .int) 5 109 [.ref hV, .ref (dI 1000 is)] (oW 3 hV ksV spV tk LV gV aV rw) r0 (oW 3 hV ksV spV tk LV gV aV rw) := by
  refine ent (by decide) (Nat.le_of_ble_eq_true rfl) ?_
  intro p e s m args below meth c hx hb hr hml hown hlk hG hg hst ls hl
  unfold mV_member at hm
  have hl : lv_has ls 4 [(0, .ref hV), (1, .ref (dI 1000 is))] := hl
  refine lv_aload_n hx hb d_V_member_0 rfl (lv_at hl 0 rfl) ?_
  refine ro_geta hx hb hown hG hg cV hst 0 0 (by decide) rfl rfl k_70 d_V_member_1 ?_
  refine lv_iconst (v := 0) hx hb d_V_member_4 (by decide) ?_
  obtain ⟨hn1, hm⟩ := gd_u hm
  refine ro_iald hx hb hg hst 0 rfl hn1 d_V_member_5 ?_
  refine lv_topi (fun x2 ex2 => ?_)
  have hm := lt_u hm x2 ex2
  refine lv_iconst (v := 4) hx hb d_V_member_6 (by decide) ?_
  refine lv_icmp_eq (tgt := 12) hx hb d_V_member_7 (by decide) (fun h3 => ?_) (fun h3 => ?_)
  · have hm := it_t hm h3
    refine lv_iconst (v := 1) hx hb d_V_member_12 (by decide) ?_
    refine lv_istore_n (lv' := [(2, .int 1), (0, .ref hV), (1, .ref (dI 1000 is))]) hx hb d_V_member_13 rfl hl (by decide) rfl (fun ls hl => ?_)
    refine lv_iconst (v := 0) hx hb d_V_member_14 (by decide) ?_
    refine lv_istore_n (lv' := [(3, .int 0), (2, .int 1), (0, .ref hV), (1, .ref (dI 1000 is))]) hx hb d_V_member_15 rfl hl (by decide) rfl (fun ls hl => ?_)
    refine lp_u (fun q6 : Int32 × Int32 => ∀ (H : Heap) (locs : List Loc) (ls : Array Slot), lv_has ls 4 [(0, .ref hV), (1, .ref (dI 1000 is)), (2, .int q6.1), (3, .int q6.2)] → St dC dI A s.heap H locs (oW 3 hV ksV spV tk LV gV aV rw) → W p l e (rmo 5 109) s m args below meth c H locs 0 0 (MQ below (QI dC dI A r0 (oW 3 hV ksV spV tk LV gV aV rw)) args s 0 0 A) (F0 m 16 ls [])) ?_ n (1, 0) hm _ _ _ (lv_sub hl [2, 3, 1, 0] rfl) hst
    rintro ⟨x4, x5⟩ r9 hm hJ70 hR8 H locs ls hl hst
    dsimp only at hm hl hst ⊢
    have hJ7 := fun y0 y1 (e : r9 = .inl (y0, y1)) => hJ70 (y0, y1) e
    dsimp only at hJ7
    refine lv_iload_n hx hb d_V_member_16 rfl (lv_at hl 3 rfl) ?_
    refine lv_aload_n hx hb d_V_member_17 rfl (lv_at hl 0 rfl) ?_
    refine ro_geta hx hb hown hG hg cV hst 3 3 (by decide) rfl rfl k_73 d_V_member_18 ?_
    refine lv_iconst (v := 0) hx hb d_V_member_21 (by decide) ?_
    obtain ⟨hn10, hm⟩ := gd_u hm
    refine ro_iald hx hb hg hst 3 rfl hn10 d_V_member_22 ?_
    refine lv_topi (fun x11 ex11 => ?_)
    have hm := lt_u hm x11 ex11
    refine lv_icmp_ge (tgt := 69) hx hb d_V_member_23 (by decide) (fun h12 => ?_) (fun h12 => ?_)
    · have hm := it_t hm h12
      refine lv_iconst (v := (-1)) hx hb d_V_member_69 (by decide) ?_
      have he := (hR8 _ (Option.some.inj hm).symm)
      cases he
      exact rt_i hx hb hr hlk rfl hst rfl d_V_member_70
    · have hm := it_f hm h12
      refine lv_iload_n hx hb d_V_member_26 rfl (lv_at hl 2 rfl) ?_
      refine lv_aload_n hx hb d_V_member_27 rfl (lv_at hl 0 rfl) ?_
      refine ro_geti hx hb hown hG hg cV hst 11 (by decide) rfl rfl k_81 d_V_member_28 ?_
      refine lv_icmp_ge (tgt := 69) hx hb d_V_member_31 (by decide) (fun h13 => ?_) (fun h13 => ?_)
      · have hm := it_t hm h13
        refine lv_iconst (v := (-1)) hx hb d_V_member_69 (by decide) ?_
        have he := (hR8 _ (Option.some.inj hm).symm)
        cases he
        exact rt_i hx hb hr hlk rfl hst rfl d_V_member_70
      · have hm := it_f hm h13
        refine lv_aload_n hx hb d_V_member_34 rfl (lv_at hl 0 rfl) ?_
        refine lv_aload_n hx hb d_V_member_35 rfl (lv_at hl 0 rfl) ?_
        refine ro_geta hx hb hown hG hg cV hst 5 5 (by decide) rfl rfl k_75 d_V_member_36 ?_
        refine lv_iload_n hx hb d_V_member_39 rfl (lv_at hl 2 rfl) ?_
        obtain ⟨hn14, hm⟩ := gd_u hm
        refine ro_iald hx hb hg hst 5 rfl hn14 d_V_member_40 ?_
        refine lv_topi (fun x15 ex15 => ?_)
        have hm := lt_u hm x15 ex15
        refine lv_aload_n hx hb d_V_member_41 rfl (lv_at hl 0 rfl) ?_
        refine ro_geta hx hb hown hG hg cV hst 6 6 (by decide) rfl rfl k_76 d_V_member_42 ?_
        refine lv_iload_n hx hb d_V_member_45 rfl (lv_at hl 2 rfl) ?_
        obtain ⟨hn16, hm⟩ := gd_u hm
        refine ro_iald hx hb hg hst 6 rfl hn16 d_V_member_46 ?_
        refine lv_topi (fun x17 ex17 => ?_)
        have hm := lt_u hm x17 ex17
        refine lv_aload_n hx hb d_V_member_47 rfl (lv_at hl 1 rfl) ?_
        obtain ⟨x18, hc19, hm⟩ := bd_u hm
        refine cl_vi hx hb hml hown hG hg (cV_sameLetters l dC dI tk A hV LV gV aV rw n is his x15 x17 _ hc19) (cw_v 3 hG k_446 k_448 s_13 k_3 k_449 (by decide +kernel) ⟨by decide, by decide⟩) hst rfl oW_0 rfl hl.1 rfl (Nat.le_of_ble_eq_true rfl) ⟨Nat.le_refl 0, Nat.le_refl 0⟩ d_V_member_48 (fun H locs hst => ?_)
        refine lv_if_eq (tgt := 56) hx hb d_V_member_51 (by decide) (fun h21 => ?_) (fun h21 => ?_)
        · have hm := it_t hm h21
          refine lv_aload_n hx hb d_V_member_56 rfl (lv_at hl 0 rfl) ?_
          refine ro_geta hx hb hown hG hg cV hst 4 4 (by decide) rfl rfl k_74 d_V_member_57 ?_
          refine lv_iload_n hx hb d_V_member_60 rfl (lv_at hl 2 rfl) ?_
          obtain ⟨hn22, hm⟩ := gd_u hm
          refine ro_iald hx hb hg hst 4 rfl hn22 d_V_member_61 ?_
          refine lv_topi (fun x23 ex23 => ?_)
          have hm := lt_u hm x23 ex23
          refine lv_istore_n (lv' := [(2, .int x23), (0, .ref hV), (1, .ref (dI 1000 is)), (3, .int x5)]) hx hb d_V_member_62 rfl hl (by decide) rfl (fun ls hl => ?_)
          refine lv_iinc (k := 3) (v := (x5 + 1)) (lv' := [(3, .int (x5 + 1)), (2, .int x23), (0, .ref hV), (1, .ref (dI 1000 is))]) hx hb d_V_member_63 hl rfl (by rfl) (by decide) rfl (fun ls hl => ?_)
          refine lv_goto (tgt := 16) hx hb d_V_member_66 (by decide) ?_
          exact hJ7 x23 (x5 + 1) (Option.some.inj hm).symm _ _ _ (lv_sub hl [2, 3, 1, 0] rfl) hst
        · have hm := it_f hm h21
          refine lv_iload_n hx hb d_V_member_54 rfl (lv_at hl 2 rfl) ?_
          have he := (hR8 _ (Option.some.inj hm).symm)
          cases he
          exact rt_i hx hb hr hlk rfl hst rfl d_V_member_55
  · have hm := it_f hm h3
    refine lv_iconst (v := (-1)) hx hb d_V_member_10 (by decide) ?_
    have he := (Option.some.inj hm)
    cases he
    exact rt_i hx hb hr hlk rfl hst rfl d_V_member_11
