def mV_isNumber (n : Nat) (v1 : Int32) (gV : aG) (aV : aA) : Option (Int32) := if v1 < 0 then (some (0)) else (if (gV 11) ≤ v1 then (some (0)) else (gd (inb v1 40) (lt (aV 0 v1.toNatClampNeg) (fun x4 => if x4 = 1 then (some (1)) else (some (0))))))
theorem d_V_isNumber_0 : decode prog_9_method_14_code 0 = .ok (.iload_n 1, 1) := by decide +kernel
theorem d_V_isNumber_1 : decode prog_9_method_14_code 1 = .ok (.ifCond .lt 25, 3) := by decide +kernel
theorem d_V_isNumber_4 : decode prog_9_method_14_code 4 = .ok (.iload_n 1, 1) := by decide +kernel
theorem d_V_isNumber_5 : decode prog_9_method_14_code 5 = .ok (.aload_n 0, 1) := by decide +kernel
theorem d_V_isNumber_6 : decode prog_9_method_14_code 6 = .ok (.getfield 55, 3) := by decide +kernel
theorem d_V_isNumber_9 : decode prog_9_method_14_code 9 = .ok (.if_icmp .ge 17, 3) := by decide +kernel
theorem d_V_isNumber_12 : decode prog_9_method_14_code 12 = .ok (.aload_n 0, 1) := by decide +kernel
theorem d_V_isNumber_13 : decode prog_9_method_14_code 13 = .ok (.getfield 11, 3) := by decide +kernel
theorem d_V_isNumber_16 : decode prog_9_method_14_code 16 = .ok (.iload_n 1, 1) := by decide +kernel
theorem d_V_isNumber_17 : decode prog_9_method_14_code 17 = .ok (.iaload, 1) := by decide +kernel
theorem d_V_isNumber_18 : decode prog_9_method_14_code 18 = .ok (.iconst 1, 1) := by decide +kernel
theorem d_V_isNumber_19 : decode prog_9_method_14_code 19 = .ok (.if_icmp .ne 7, 3) := by decide +kernel
theorem d_V_isNumber_22 : decode prog_9_method_14_code 22 = .ok (.iconst 1, 1) := by decide +kernel
theorem d_V_isNumber_23 : decode prog_9_method_14_code 23 = .ok (.goto 4, 3) := by decide +kernel
theorem d_V_isNumber_26 : decode prog_9_method_14_code 26 = .ok (.iconst 0, 1) := by decide +kernel
theorem d_V_isNumber_27 : decode prog_9_method_14_code 27 = .ok (.ireturn, 1) := by decide +kernel
set_option maxHeartbeats 4000000 in
set_option maxRecDepth 100000 in
theorem cV_isNumber (l : Launch) (dC : Nat → ClassId) (dI : Nat → Nat → Nat) (tk : Nat → ClassId) (A : Nat → Prop) (hV : Nat) (LV : Nat → Nat) (gV : aG) (aV : aA) (rw : va_W) (n : Nat) (v1 : Int32) (r0 : Int32) (hm : mV_isNumber n v1 gV aV = some r0) : CtI l dC dI tk A ⟨"EditorServer$Values", "isNumber", "(I)Z"⟩ prog_9_method_14_code 2 (some .boolean) 0 0 [.ref hV, .int v1] (oW 3 hV ksV spV tk LV gV aV rw) r0 (oW 3 hV ksV spV tk LV gV aV rw) := by
  refine ent (by decide) (Nat.le_of_ble_eq_true rfl) ?_
  intro p e s m args below meth c hx hb hr hml hown hlk hG hg hst ls hl
  unfold mV_isNumber at hm
  have hl : lv_has ls 2 [(0, .ref hV), (1, .int v1)] := hl
  refine lv_iload_n hx hb d_V_isNumber_0 rfl (lv_at hl 1 rfl) ?_
  refine lv_if_lt (tgt := 26) hx hb d_V_isNumber_1 (by decide) (fun h1 => ?_) (fun h1 => ?_)
  · have hm := it_t hm h1
    refine lv_iconst (v := 0) hx hb d_V_isNumber_26 (by decide) ?_
    have he := (Option.some.inj hm)
    cases he
    exact rt_i hx hb hr hlk (by decide) hst rfl d_V_isNumber_27
  · have hm := it_f hm h1
    refine lv_iload_n hx hb d_V_isNumber_4 rfl (lv_at hl 1 rfl) ?_
    refine lv_aload_n hx hb d_V_isNumber_5 rfl (lv_at hl 0 rfl) ?_
    refine ro_geti hx hb hown hG hg cV hst 11 (by decide) rfl rfl k_81 d_V_isNumber_6 ?_
    refine lv_icmp_ge (tgt := 26) hx hb d_V_isNumber_9 (by decide) (fun h2 => ?_) (fun h2 => ?_)
    · have hm := it_t hm h2
      refine lv_iconst (v := 0) hx hb d_V_isNumber_26 (by decide) ?_
      have he := (Option.some.inj hm)
      cases he
      exact rt_i hx hb hr hlk (by decide) hst rfl d_V_isNumber_27
    · have hm := it_f hm h2
      refine lv_aload_n hx hb d_V_isNumber_12 rfl (lv_at hl 0 rfl) ?_
      refine ro_geta hx hb hown hG hg cV hst 0 0 (by decide) rfl rfl k_70 d_V_isNumber_13 ?_
      refine lv_iload_n hx hb d_V_isNumber_16 rfl (lv_at hl 1 rfl) ?_
      obtain ⟨hn3, hm⟩ := gd_u hm
      refine ro_iald hx hb hg hst 0 rfl hn3 d_V_isNumber_17 ?_
      refine lv_topi (fun x4 ex4 => ?_)
      have hm := lt_u hm x4 ex4
      refine lv_iconst (v := 1) hx hb d_V_isNumber_18 (by decide) ?_
      refine lv_icmp_ne (tgt := 26) hx hb d_V_isNumber_19 (by decide) (fun h5 => ?_) (fun h5 => ?_)
      · have hm := it_f hm h5
        refine lv_iconst (v := 0) hx hb d_V_isNumber_26 (by decide) ?_
        have he := (Option.some.inj hm)
        cases he
        exact rt_i hx hb hr hlk (by decide) hst rfl d_V_isNumber_27
      · have hm := it_t hm h5
        refine lv_iconst (v := 1) hx hb d_V_isNumber_22 (by decide) ?_
        refine lv_goto (tgt := 27) hx hb d_V_isNumber_23 (by decide) ?_
        have he := (Option.some.inj hm)
        cases he
        exact rt_i hx hb hr hlk (by decide) hst rfl d_V_isNumber_27
def mV_isString (n : Nat) (v1 : Int32) (gV : aG) (aV : aA) : Option (Int32) := if v1 < 0 then (some (0)) else (if (gV 11) ≤ v1 then (some (0)) else (gd (inb v1 40) (lt (aV 0 v1.toNatClampNeg) (fun x4 => if x4 = 2 then (some (1)) else (some (0))))))
theorem d_V_isString_0 : decode prog_9_method_15_code 0 = .ok (.iload_n 1, 1) := by decide +kernel
theorem d_V_isString_1 : decode prog_9_method_15_code 1 = .ok (.ifCond .lt 25, 3) := by decide +kernel
theorem d_V_isString_4 : decode prog_9_method_15_code 4 = .ok (.iload_n 1, 1) := by decide +kernel
theorem d_V_isString_5 : decode prog_9_method_15_code 5 = .ok (.aload_n 0, 1) := by decide +kernel
theorem d_V_isString_6 : decode prog_9_method_15_code 6 = .ok (.getfield 55, 3) := by decide +kernel
theorem d_V_isString_9 : decode prog_9_method_15_code 9 = .ok (.if_icmp .ge 17, 3) := by decide +kernel
theorem d_V_isString_12 : decode prog_9_method_15_code 12 = .ok (.aload_n 0, 1) := by decide +kernel
theorem d_V_isString_13 : decode prog_9_method_15_code 13 = .ok (.getfield 11, 3) := by decide +kernel
theorem d_V_isString_16 : decode prog_9_method_15_code 16 = .ok (.iload_n 1, 1) := by decide +kernel
theorem d_V_isString_17 : decode prog_9_method_15_code 17 = .ok (.iaload, 1) := by decide +kernel
theorem d_V_isString_18 : decode prog_9_method_15_code 18 = .ok (.iconst 2, 1) := by decide +kernel
theorem d_V_isString_19 : decode prog_9_method_15_code 19 = .ok (.if_icmp .ne 7, 3) := by decide +kernel
theorem d_V_isString_22 : decode prog_9_method_15_code 22 = .ok (.iconst 1, 1) := by decide +kernel
theorem d_V_isString_23 : decode prog_9_method_15_code 23 = .ok (.goto 4, 3) := by decide +kernel
theorem d_V_isString_26 : decode prog_9_method_15_code 26 = .ok (.iconst 0, 1) := by decide +kernel
theorem d_V_isString_27 : decode prog_9_method_15_code 27 = .ok (.ireturn, 1) := by decide +kernel
set_option maxHeartbeats 4000000 in
set_option maxRecDepth 100000 in
theorem cV_isString (l : Launch) (dC : Nat → ClassId) (dI : Nat → Nat → Nat) (tk : Nat → ClassId) (A : Nat → Prop) (hV : Nat) (LV : Nat → Nat) (gV : aG) (aV : aA) (rw : va_W) (n : Nat) (v1 : Int32) (r0 : Int32) (hm : mV_isString n v1 gV aV = some r0) : CtI l dC dI tk A ⟨"EditorServer$Values", "isString", "(I)Z"⟩ prog_9_method_15_code 2 (some .boolean) 0 0 [.ref hV, .int v1] (oW 3 hV ksV spV tk LV gV aV rw) r0 (oW 3 hV ksV spV tk LV gV aV rw) := by
  refine ent (by decide) (Nat.le_of_ble_eq_true rfl) ?_
  intro p e s m args below meth c hx hb hr hml hown hlk hG hg hst ls hl
  unfold mV_isString at hm
  have hl : lv_has ls 2 [(0, .ref hV), (1, .int v1)] := hl
  refine lv_iload_n hx hb d_V_isString_0 rfl (lv_at hl 1 rfl) ?_
  refine lv_if_lt (tgt := 26) hx hb d_V_isString_1 (by decide) (fun h1 => ?_) (fun h1 => ?_)
  · have hm := it_t hm h1
    refine lv_iconst (v := 0) hx hb d_V_isString_26 (by decide) ?_
    have he := (Option.some.inj hm)
    cases he
    exact rt_i hx hb hr hlk (by decide) hst rfl d_V_isString_27
  · have hm := it_f hm h1
    refine lv_iload_n hx hb d_V_isString_4 rfl (lv_at hl 1 rfl) ?_
    refine lv_aload_n hx hb d_V_isString_5 rfl (lv_at hl 0 rfl) ?_
    refine ro_geti hx hb hown hG hg cV hst 11 (by decide) rfl rfl k_81 d_V_isString_6 ?_
    refine lv_icmp_ge (tgt := 26) hx hb d_V_isString_9 (by decide) (fun h2 => ?_) (fun h2 => ?_)
    · have hm := it_t hm h2
      refine lv_iconst (v := 0) hx hb d_V_isString_26 (by decide) ?_
      have he := (Option.some.inj hm)
      cases he
      exact rt_i hx hb hr hlk (by decide) hst rfl d_V_isString_27
    · have hm := it_f hm h2
      refine lv_aload_n hx hb d_V_isString_12 rfl (lv_at hl 0 rfl) ?_
      refine ro_geta hx hb hown hG hg cV hst 0 0 (by decide) rfl rfl k_70 d_V_isString_13 ?_
      refine lv_iload_n hx hb d_V_isString_16 rfl (lv_at hl 1 rfl) ?_
      obtain ⟨hn3, hm⟩ := gd_u hm
      refine ro_iald hx hb hg hst 0 rfl hn3 d_V_isString_17 ?_
      refine lv_topi (fun x4 ex4 => ?_)
      have hm := lt_u hm x4 ex4
      refine lv_iconst (v := 2) hx hb d_V_isString_18 (by decide) ?_
      refine lv_icmp_ne (tgt := 26) hx hb d_V_isString_19 (by decide) (fun h5 => ?_) (fun h5 => ?_)
      · have hm := it_f hm h5
        refine lv_iconst (v := 0) hx hb d_V_isString_26 (by decide) ?_
        have he := (Option.some.inj hm)
        cases he
        exact rt_i hx hb hr hlk (by decide) hst rfl d_V_isString_27
      · have hm := it_t hm h5
        refine lv_iconst (v := 1) hx hb d_V_isString_22 (by decide) ?_
        refine lv_goto (tgt := 27) hx hb d_V_isString_23 (by decide) ?_
        have he := (Option.some.inj hm)
        cases he
        exact rt_i hx hb hr hlk (by decide) hst rfl d_V_isString_27
def mV_numberOf (n : Nat) (v1 : Int32) (gV : aG) (aV : aA) : Option (Int32) := if v1 < 0 then (some (0)) else (if (gV 11) ≤ v1 then (some (0)) else (gd (inb v1 40) (lt (aV 1 v1.toNatClampNeg) (fun x4 => some (x4)))))
theorem d_V_numberOf_0 : decode prog_9_method_16_code 0 = .ok (.iload_n 1, 1) := by decide +kernel
theorem d_V_numberOf_1 : decode prog_9_method_16_code 1 = .ok (.ifCond .lt 20, 3) := by decide +kernel
theorem d_V_numberOf_4 : decode prog_9_method_16_code 4 = .ok (.iload_n 1, 1) := by decide +kernel
theorem d_V_numberOf_5 : decode prog_9_method_16_code 5 = .ok (.aload_n 0, 1) := by decide +kernel
theorem d_V_numberOf_6 : decode prog_9_method_16_code 6 = .ok (.getfield 55, 3) := by decide +kernel
theorem d_V_numberOf_9 : decode prog_9_method_16_code 9 = .ok (.if_icmp .ge 12, 3) := by decide +kernel
theorem d_V_numberOf_12 : decode prog_9_method_16_code 12 = .ok (.aload_n 0, 1) := by decide +kernel
theorem d_V_numberOf_13 : decode prog_9_method_16_code 13 = .ok (.getfield 15, 3) := by decide +kernel
theorem d_V_numberOf_16 : decode prog_9_method_16_code 16 = .ok (.iload_n 1, 1) := by decide +kernel
theorem d_V_numberOf_17 : decode prog_9_method_16_code 17 = .ok (.iaload, 1) := by decide +kernel
theorem d_V_numberOf_18 : decode prog_9_method_16_code 18 = .ok (.goto 4, 3) := by decide +kernel
theorem d_V_numberOf_21 : decode prog_9_method_16_code 21 = .ok (.iconst 0, 1) := by decide +kernel
theorem d_V_numberOf_22 : decode prog_9_method_16_code 22 = .ok (.ireturn, 1) := by decide +kernel
set_option maxHeartbeats 4000000 in
set_option maxRecDepth 100000 in
theorem cV_numberOf (l : Launch) (dC : Nat → ClassId) (dI : Nat → Nat → Nat) (tk : Nat → ClassId) (A : Nat → Prop) (hV : Nat) (LV : Nat → Nat) (gV : aG) (aV : aA) (rw : va_W) (n : Nat) (v1 : Int32) (r0 : Int32) (hm : mV_numberOf n v1 gV aV = some r0) : CtI l dC dI tk A ⟨"EditorServer$Values", "numberOf", "(I)I"⟩ prog_9_method_16_code 2 (some .int) 0 0 [.ref hV, .int v1] (oW 3 hV ksV spV tk LV gV aV rw) r0 (oW 3 hV ksV spV tk LV gV aV rw) := by
  refine ent (by decide) (Nat.le_of_ble_eq_true rfl) ?_
  intro p e s m args below meth c hx hb hr hml hown hlk hG hg hst ls hl
  unfold mV_numberOf at hm
  have hl : lv_has ls 2 [(0, .ref hV), (1, .int v1)] := hl
  refine lv_iload_n hx hb d_V_numberOf_0 rfl (lv_at hl 1 rfl) ?_
  refine lv_if_lt (tgt := 21) hx hb d_V_numberOf_1 (by decide) (fun h1 => ?_) (fun h1 => ?_)
  · have hm := it_t hm h1
    refine lv_iconst (v := 0) hx hb d_V_numberOf_21 (by decide) ?_
    have he := (Option.some.inj hm)
    cases he
    exact rt_i hx hb hr hlk rfl hst rfl d_V_numberOf_22
  · have hm := it_f hm h1
    refine lv_iload_n hx hb d_V_numberOf_4 rfl (lv_at hl 1 rfl) ?_
    refine lv_aload_n hx hb d_V_numberOf_5 rfl (lv_at hl 0 rfl) ?_
    refine ro_geti hx hb hown hG hg cV hst 11 (by decide) rfl rfl k_81 d_V_numberOf_6 ?_
    refine lv_icmp_ge (tgt := 21) hx hb d_V_numberOf_9 (by decide) (fun h2 => ?_) (fun h2 => ?_)
    · have hm := it_t hm h2
      refine lv_iconst (v := 0) hx hb d_V_numberOf_21 (by decide) ?_
      have he := (Option.some.inj hm)
      cases he
      exact rt_i hx hb hr hlk rfl hst rfl d_V_numberOf_22
    · have hm := it_f hm h2
      refine lv_aload_n hx hb d_V_numberOf_12 rfl (lv_at hl 0 rfl) ?_
      refine ro_geta hx hb hown hG hg cV hst 1 1 (by decide) rfl rfl k_71 d_V_numberOf_13 ?_
      refine lv_iload_n hx hb d_V_numberOf_16 rfl (lv_at hl 1 rfl) ?_
      obtain ⟨hn3, hm⟩ := gd_u hm
      refine ro_iald hx hb hg hst 1 rfl hn3 d_V_numberOf_17 ?_
      refine lv_topi (fun x4 ex4 => ?_)
      have hm := lt_u hm x4 ex4
      refine lv_goto (tgt := 22) hx hb d_V_numberOf_18 (by decide) ?_
      have he := (Option.some.inj hm)
      cases he
      exact rt_i hx hb hr hlk rfl hst rfl d_V_numberOf_22
def mV_item (n : Nat) (v1 : Int32) (v2 : Int32) (gV : aG) (aV : aA) : Option (Int32) := if v1 < 0 then (some ((-1))) else (if (gV 11) ≤ v1 then (some ((-1))) else (gd (inb v1 40) (lt (aV 0 v1.toNatClampNeg) (fun x4 => if x4 = 3 then (if v2 < 0 then (some ((-1))) else (gd (inb v1 40) (lt (aV 3 v1.toNatClampNeg) (fun x8 => if v2 < x8 then (lt ((v1 + 1)) (fun x10 => lp (ε := Int32 × Int32) (fun q13 => if v2 ≤ q13.2 then (some (.inr (q13.1))) else (if (gV 11) ≤ q13.1 then (some (.inr (q13.1))) else (gd (inb q13.1 40) (lt (aV 4 q13.1.toNatClampNeg) (fun x20 => some (.inl (x20, (q13.2 + 1)))))))) n (x10, 0))) else (some ((-1))))))) else (some ((-1)))))))
theorem d_V_item_0 : decode prog_9_method_22_code 0 = .ok (.iload_n 1, 1) := by decide +kernel
theorem d_V_item_1 : decode prog_9_method_22_code 1 = .ok (.ifCond .lt 35, 3) := by decide +kernel
theorem d_V_item_4 : decode prog_9_method_22_code 4 = .ok (.iload_n 1, 1) := by decide +kernel
theorem d_V_item_5 : decode prog_9_method_22_code 5 = .ok (.aload_n 0, 1) := by decide +kernel
theorem d_V_item_6 : decode prog_9_method_22_code 6 = .ok (.getfield 55, 3) := by decide +kernel
theorem d_V_item_9 : decode prog_9_method_22_code 9 = .ok (.if_icmp .ge 27, 3) := by decide +kernel
theorem d_V_item_12 : decode prog_9_method_22_code 12 = .ok (.aload_n 0, 1) := by decide +kernel
theorem d_V_item_13 : decode prog_9_method_22_code 13 = .ok (.getfield 11, 3) := by decide +kernel
theorem d_V_item_16 : decode prog_9_method_22_code 16 = .ok (.iload_n 1, 1) := by decide +kernel
theorem d_V_item_17 : decode prog_9_method_22_code 17 = .ok (.iaload, 1) := by decide +kernel
theorem d_V_item_18 : decode prog_9_method_22_code 18 = .ok (.iconst 3, 1) := by decide +kernel
theorem d_V_item_19 : decode prog_9_method_22_code 19 = .ok (.if_icmp .ne 17, 3) := by decide +kernel
theorem d_V_item_22 : decode prog_9_method_22_code 22 = .ok (.iload_n 2, 1) := by decide +kernel
theorem d_V_item_23 : decode prog_9_method_22_code 23 = .ok (.ifCond .lt 13, 3) := by decide +kernel
theorem d_V_item_26 : decode prog_9_method_22_code 26 = .ok (.iload_n 2, 1) := by decide +kernel
theorem d_V_item_27 : decode prog_9_method_22_code 27 = .ok (.aload_n 0, 1) := by decide +kernel
theorem d_V_item_28 : decode prog_9_method_22_code 28 = .ok (.getfield 21, 3) := by decide +kernel
theorem d_V_item_31 : decode prog_9_method_22_code 31 = .ok (.iload_n 1, 1) := by decide +kernel
theorem d_V_item_32 : decode prog_9_method_22_code 32 = .ok (.iaload, 1) := by decide +kernel
theorem d_V_item_33 : decode prog_9_method_22_code 33 = .ok (.if_icmp .lt 5, 3) := by decide +kernel
theorem d_V_item_36 : decode prog_9_method_22_code 36 = .ok (.iconst (-1), 1) := by decide +kernel
theorem d_V_item_37 : decode prog_9_method_22_code 37 = .ok (.ireturn, 1) := by decide +kernel
theorem d_V_item_38 : decode prog_9_method_22_code 38 = .ok (.iload_n 1, 1) := by decide +kernel
theorem d_V_item_39 : decode prog_9_method_22_code 39 = .ok (.iconst 1, 1) := by decide +kernel
theorem d_V_item_40 : decode prog_9_method_22_code 40 = .ok (.iadd, 1) := by decide +kernel
theorem d_V_item_41 : decode prog_9_method_22_code 41 = .ok (.istore_n 3, 1) := by decide +kernel
theorem d_V_item_42 : decode prog_9_method_22_code 42 = .ok (.iconst 0, 1) := by decide +kernel
theorem d_V_item_43 : decode prog_9_method_22_code 43 = .ok (.istore 4, 2) := by decide +kernel
theorem d_V_item_45 : decode prog_9_method_22_code 45 = .ok (.iload 4, 2) := by decide +kernel
theorem d_V_item_47 : decode prog_9_method_22_code 47 = .ok (.iload_n 2, 1) := by decide +kernel
theorem d_V_item_48 : decode prog_9_method_22_code 48 = .ok (.if_icmp .ge 24, 3) := by decide +kernel
theorem d_V_item_51 : decode prog_9_method_22_code 51 = .ok (.iload_n 3, 1) := by decide +kernel
theorem d_V_item_52 : decode prog_9_method_22_code 52 = .ok (.aload_n 0, 1) := by decide +kernel
theorem d_V_item_53 : decode prog_9_method_22_code 53 = .ok (.getfield 55, 3) := by decide +kernel
theorem d_V_item_56 : decode prog_9_method_22_code 56 = .ok (.if_icmp .ge 16, 3) := by decide +kernel
theorem d_V_item_59 : decode prog_9_method_22_code 59 = .ok (.aload_n 0, 1) := by decide +kernel
theorem d_V_item_60 : decode prog_9_method_22_code 60 = .ok (.getfield 24, 3) := by decide +kernel
theorem d_V_item_63 : decode prog_9_method_22_code 63 = .ok (.iload_n 3, 1) := by decide +kernel
theorem d_V_item_64 : decode prog_9_method_22_code 64 = .ok (.iaload, 1) := by decide +kernel
theorem d_V_item_65 : decode prog_9_method_22_code 65 = .ok (.istore_n 3, 1) := by decide +kernel
theorem d_V_item_66 : decode prog_9_method_22_code 66 = .ok (.iinc 4 1, 3) := by decide +kernel
theorem d_V_item_69 : decode prog_9_method_22_code 69 = .ok (.goto (-24), 3) := by decide +kernel
theorem d_V_item_72 : decode prog_9_method_22_code 72 = .ok (.iload_n 3, 1) := by decide +kernel
theorem d_V_item_73 : decode prog_9_method_22_code 73 = .ok (.ireturn, 1) := by decide +kernel
set_option maxHeartbeats 4000000 in
set_option maxRecDepth 100000 in
theorem cV_item (l : Launch) (dC : Nat → ClassId) (dI : Nat → Nat → Nat) (tk : Nat → ClassId) (A : Nat → Prop) (hV : Nat) (LV : Nat → Nat) (gV : aG) (aV : aA) (rw : va_W) (n : Nat) (v1 : Int32) (v2 : Int32) (r0 : Int32) (hm : mV_item n v1 v2 gV aV = some r0) : CtI l dC dI tk A ⟨"EditorServer$Values", "item", "(II)I"⟩ prog_9_method_22_code 5 (some .int) 0 0 [.ref hV, .int v1, .int v2] (oW 3 hV ksV spV tk LV gV aV rw) r0 (oW 3 hV ksV spV tk LV gV aV rw) := by
  refine ent (by decide) (Nat.le_of_ble_eq_true rfl) ?_
  intro p e s m args below meth c hx hb hr hml hown hlk hG hg hst ls hl
  unfold mV_item at hm
  have hl : lv_has ls 5 [(0, .ref hV), (1, .int v1), (2, .int v2)] := hl
  refine lv_iload_n hx hb d_V_item_0 rfl (lv_at hl 1 rfl) ?_
  refine lv_if_lt (tgt := 36) hx hb d_V_item_1 (by decide) (fun h1 => ?_) (fun h1 => ?_)
  · have hm := it_t hm h1
    refine lv_iconst (v := (-1)) hx hb d_V_item_36 (by decide) ?_
    have he := (Option.some.inj hm)
    cases he
    exact rt_i hx hb hr hlk rfl hst rfl d_V_item_37
  · have hm := it_f hm h1
    refine lv_iload_n hx hb d_V_item_4 rfl (lv_at hl 1 rfl) ?_
    refine lv_aload_n hx hb d_V_item_5 rfl (lv_at hl 0 rfl) ?_
    refine ro_geti hx hb hown hG hg cV hst 11 (by decide) rfl rfl k_81 d_V_item_6 ?_
    refine lv_icmp_ge (tgt := 36) hx hb d_V_item_9 (by decide) (fun h2 => ?_) (fun h2 => ?_)
    · have hm := it_t hm h2
      refine lv_iconst (v := (-1)) hx hb d_V_item_36 (by decide) ?_
      have he := (Option.some.inj hm)
      cases he
      exact rt_i hx hb hr hlk rfl hst rfl d_V_item_37
    · have hm := it_f hm h2
      refine lv_aload_n hx hb d_V_item_12 rfl (lv_at hl 0 rfl) ?_
      refine ro_geta hx hb hown hG hg cV hst 0 0 (by decide) rfl rfl k_70 d_V_item_13 ?_
      refine lv_iload_n hx hb d_V_item_16 rfl (lv_at hl 1 rfl) ?_
      obtain ⟨hn3, hm⟩ := gd_u hm
      refine ro_iald hx hb hg hst 0 rfl hn3 d_V_item_17 ?_
      refine lv_topi (fun x4 ex4 => ?_)
      have hm := lt_u hm x4 ex4
      refine lv_iconst (v := 3) hx hb d_V_item_18 (by decide) ?_
      refine lv_icmp_ne (tgt := 36) hx hb d_V_item_19 (by decide) (fun h5 => ?_) (fun h5 => ?_)
      · have hm := it_f hm h5
        refine lv_iconst (v := (-1)) hx hb d_V_item_36 (by decide) ?_
        have he := (Option.some.inj hm)
        cases he
        exact rt_i hx hb hr hlk rfl hst rfl d_V_item_37
      · have hm := it_t hm h5
        refine lv_iload_n hx hb d_V_item_22 rfl (lv_at hl 2 rfl) ?_
        refine lv_if_lt (tgt := 36) hx hb d_V_item_23 (by decide) (fun h6 => ?_) (fun h6 => ?_)
        · have hm := it_t hm h6
          refine lv_iconst (v := (-1)) hx hb d_V_item_36 (by decide) ?_
          have he := (Option.some.inj hm)
          cases he
          exact rt_i hx hb hr hlk rfl hst rfl d_V_item_37
        · have hm := it_f hm h6
          refine lv_iload_n hx hb d_V_item_26 rfl (lv_at hl 2 rfl) ?_
          refine lv_aload_n hx hb d_V_item_27 rfl (lv_at hl 0 rfl) ?_
          refine ro_geta hx hb hown hG hg cV hst 3 3 (by decide) rfl rfl k_73 d_V_item_28 ?_
          refine lv_iload_n hx hb d_V_item_31 rfl (lv_at hl 1 rfl) ?_
          obtain ⟨hn7, hm⟩ := gd_u hm
          refine ro_iald hx hb hg hst 3 rfl hn7 d_V_item_32 ?_
          refine lv_topi (fun x8 ex8 => ?_)
          have hm := lt_u hm x8 ex8
          refine lv_icmp_lt (tgt := 38) hx hb d_V_item_33 (by decide) (fun h9 => ?_) (fun h9 => ?_)
          · have hm := it_t hm h9
            refine lv_iload_n hx hb d_V_item_38 rfl (lv_at hl 1 rfl) ?_
            refine lv_iconst (v := 1) hx hb d_V_item_39 (by decide) ?_
            refine lv_iadd hx hb d_V_item_40 ?_
            refine lv_topi (fun x10 ex10 => ?_)
            have hm := lt_u hm x10 ex10
            refine lv_istore_n (lv' := [(3, .int x10), (0, .ref hV), (1, .int v1), (2, .int v2)]) hx hb d_V_item_41 rfl hl (by decide) rfl (fun ls hl => ?_)
            refine lv_iconst (v := 0) hx hb d_V_item_42 (by decide) ?_
            refine lv_istore (lv' := [(4, .int 0), (3, .int x10), (0, .ref hV), (1, .int v1), (2, .int v2)]) hx hb d_V_item_43 hl (by decide) rfl (fun ls hl => ?_)
            refine lp_u (fun q13 : Int32 × Int32 => ∀ (H : Heap) (locs : List Loc) (ls : Array Slot), lv_has ls 5 [(0, .ref hV), (1, .int v1), (2, .int v2), (3, .int q13.1), (4, .int q13.2)] → St dC dI A s.heap H locs (oW 3 hV ksV spV tk LV gV aV rw) → W p l e (rmo 0 0) s m args below meth c H locs 0 0 (MQ below (QI dC dI A r0 (oW 3 hV ksV spV tk LV gV aV rw)) args s 0 0 A) (F0 m 45 ls [])) ?_ n (x10, 0) hm _ _ _ (lv_sub hl [2, 3, 4, 1, 0] rfl) hst
            rintro ⟨x11, x12⟩ r16 hm hJ140 hR15 H locs ls hl hst
            dsimp only at hm hl hst ⊢
            have hJ14 := fun y0 y1 (e : r16 = .inl (y0, y1)) => hJ140 (y0, y1) e
            dsimp only at hJ14
            refine lv_iload hx hb d_V_item_45 (lv_at hl 4 rfl) ?_
            refine lv_iload_n hx hb d_V_item_47 rfl (lv_at hl 2 rfl) ?_
            refine lv_icmp_ge (tgt := 72) hx hb d_V_item_48 (by decide) (fun h17 => ?_) (fun h17 => ?_)
            · have hm := it_t hm h17
              refine lv_iload_n hx hb d_V_item_72 rfl (lv_at hl 3 rfl) ?_
              have he := (hR15 _ (Option.some.inj hm).symm)
              cases he
              exact rt_i hx hb hr hlk rfl hst rfl d_V_item_73
            · have hm := it_f hm h17
              refine lv_iload_n hx hb d_V_item_51 rfl (lv_at hl 3 rfl) ?_
              refine lv_aload_n hx hb d_V_item_52 rfl (lv_at hl 0 rfl) ?_
              refine ro_geti hx hb hown hG hg cV hst 11 (by decide) rfl rfl k_81 d_V_item_53 ?_
              refine lv_icmp_ge (tgt := 72) hx hb d_V_item_56 (by decide) (fun h18 => ?_) (fun h18 => ?_)
              · have hm := it_t hm h18
                refine lv_iload_n hx hb d_V_item_72 rfl (lv_at hl 3 rfl) ?_
                have he := (hR15 _ (Option.some.inj hm).symm)
                cases he
                exact rt_i hx hb hr hlk rfl hst rfl d_V_item_73
              · have hm := it_f hm h18
                refine lv_aload_n hx hb d_V_item_59 rfl (lv_at hl 0 rfl) ?_
                refine ro_geta hx hb hown hG hg cV hst 4 4 (by decide) rfl rfl k_74 d_V_item_60 ?_
                refine lv_iload_n hx hb d_V_item_63 rfl (lv_at hl 3 rfl) ?_
                obtain ⟨hn19, hm⟩ := gd_u hm
                refine ro_iald hx hb hg hst 4 rfl hn19 d_V_item_64 ?_
                refine lv_topi (fun x20 ex20 => ?_)
                have hm := lt_u hm x20 ex20
                refine lv_istore_n (lv' := [(3, .int x20), (0, .ref hV), (1, .int v1), (2, .int v2), (4, .int x12)]) hx hb d_V_item_65 rfl hl (by decide) rfl (fun ls hl => ?_)
                refine lv_iinc (k := 4) (v := (x12 + 1)) (lv' := [(4, .int (x12 + 1)), (3, .int x20), (0, .ref hV), (1, .int v1), (2, .int v2)]) hx hb d_V_item_66 hl rfl (by rfl) (by decide) rfl (fun ls hl => ?_)
                refine lv_goto (tgt := 45) hx hb d_V_item_69 (by decide) ?_
                exact hJ14 x20 (x12 + 1) (Option.some.inj hm).symm _ _ _ (lv_sub hl [2, 3, 4, 1, 0] rfl) hst
          · have hm := it_f hm h9
            refine lv_iconst (v := (-1)) hx hb d_V_item_36 (by decide) ?_
            have he := (Option.some.inj hm)
            cases he
            exact rt_i hx hb hr hlk rfl hst rfl d_V_item_37
def mV_numberAt (n : Nat) (v1 : Int32) (v2 : Int32) (gV : aG) (aV : aA) : Option (Int32) := bd (mV_item n v1 v2 gV aV) (fun x1 => bd (mV_numberOf n x1 gV aV) (fun x4 => some (x4)))
theorem d_V_numberAt_0 : decode prog_9_method_17_code 0 = .ok (.aload_n 0, 1) := by decide +kernel
theorem d_V_numberAt_1 : decode prog_9_method_17_code 1 = .ok (.aload_n 0, 1) := by decide +kernel
theorem d_V_numberAt_2 : decode prog_9_method_17_code 2 = .ok (.iload_n 1, 1) := by decide +kernel
theorem d_V_numberAt_3 : decode prog_9_method_17_code 3 = .ok (.iload_n 2, 1) := by decide +kernel
theorem d_V_numberAt_4 : decode prog_9_method_17_code 4 = .ok (.invokevirtual 120, 3) := by decide +kernel
theorem d_V_numberAt_7 : decode prog_9_method_17_code 7 = .ok (.invokevirtual 123, 3) := by decide +kernel
theorem d_V_numberAt_10 : decode prog_9_method_17_code 10 = .ok (.ireturn, 1) := by decide +kernel
set_option maxHeartbeats 4000000 in
set_option maxRecDepth 100000 in
theorem cV_numberAt (l : Launch) (dC : Nat → ClassId) (dI : Nat → Nat → Nat) (tk : Nat → ClassId) (A : Nat → Prop) (hV : Nat) (LV : Nat → Nat) (gV : aG) (aV : aA) (rw : va_W) (n : Nat) (v1 : Int32) (v2 : Int32) (r0 : Int32) (hm : mV_numberAt n v1 v2 gV aV = some r0) : CtI l dC dI tk A ⟨"EditorServer$Values", "numberAt", "(II)I"⟩ prog_9_method_17_code 3 (some .int) 1 24 [.ref hV, .int v1, .int v2] (oW 3 hV ksV spV tk LV gV aV rw) r0 (oW 3 hV ksV spV tk LV gV aV rw) := by
  refine ent (by decide) (Nat.le_of_ble_eq_true rfl) ?_
  intro p e s m args below meth c hx hb hr hml hown hlk hG hg hst ls hl
  unfold mV_numberAt at hm
  have hl : lv_has ls 3 [(0, .ref hV), (1, .int v1), (2, .int v2)] := hl
  refine lv_aload_n hx hb d_V_numberAt_0 rfl (lv_at hl 0 rfl) ?_
  refine lv_aload_n hx hb d_V_numberAt_1 rfl (lv_at hl 0 rfl) ?_
  refine lv_iload_n hx hb d_V_numberAt_2 rfl (lv_at hl 1 rfl) ?_
  refine lv_iload_n hx hb d_V_numberAt_3 rfl (lv_at hl 2 rfl) ?_
  obtain ⟨x1, hc2, hm⟩ := bd_u hm
  refine cl_vi hx hb hml hown hG hg (cV_item l dC dI tk A hV LV gV aV rw n v1 v2 _ hc2) (cw_v 2 hG k_498 k_499 k_500 k_3 k_501 (by decide +kernel) ⟨by decide, by decide⟩) hst rfl oW_0 rfl hl.1 rfl (Nat.le_of_ble_eq_true rfl) ⟨Nat.le_refl 0, Nat.le_refl 0⟩ d_V_numberAt_4 (fun H locs hst => ?_)
  obtain ⟨x4, hc5, hm⟩ := bd_u hm
  refine cl_vi hx hb hml hown hG hg (cV_numberOf l dC dI tk A hV LV gV aV rw n x1 _ hc5) (cw_v 1 hG k_554 k_460 k_461 k_3 k_462 (by decide +kernel) ⟨by decide, by decide⟩) hst rfl oW_0 rfl hl.1 rfl (Nat.le_of_ble_eq_true rfl) ⟨Nat.le_refl 0, Nat.le_refl 0⟩ d_V_numberAt_7 (fun H locs hst => ?_)
  have he := (Option.some.inj hm)
  cases he
  exact rt_i hx hb hr hlk rfl hst rfl d_V_numberAt_10
def mV_sizeOf (n : Nat) (v1 : Int32) (gV : aG) (aV : aA) : Option (Int32) := if v1 < 0 then (some (0)) else (if (gV 11) ≤ v1 then (some (0)) else (gd (inb v1 40) (lt (aV 3 v1.toNatClampNeg) (fun x4 => some (x4)))))
theorem d_V_sizeOf_0 : decode prog_9_method_18_code 0 = .ok (.iload_n 1, 1) := by decide +kernel
theorem d_V_sizeOf_1 : decode prog_9_method_18_code 1 = .ok (.ifCond .lt 20, 3) := by decide +kernel
theorem d_V_sizeOf_4 : decode prog_9_method_18_code 4 = .ok (.iload_n 1, 1) := by decide +kernel
theorem d_V_sizeOf_5 : decode prog_9_method_18_code 5 = .ok (.aload_n 0, 1) := by decide +kernel
theorem d_V_sizeOf_6 : decode prog_9_method_18_code 6 = .ok (.getfield 55, 3) := by decide +kernel
theorem d_V_sizeOf_9 : decode prog_9_method_18_code 9 = .ok (.if_icmp .ge 12, 3) := by decide +kernel
theorem d_V_sizeOf_12 : decode prog_9_method_18_code 12 = .ok (.aload_n 0, 1) := by decide +kernel
theorem d_V_sizeOf_13 : decode prog_9_method_18_code 13 = .ok (.getfield 21, 3) := by decide +kernel
theorem d_V_sizeOf_16 : decode prog_9_method_18_code 16 = .ok (.iload_n 1, 1) := by decide +kernel
theorem d_V_sizeOf_17 : decode prog_9_method_18_code 17 = .ok (.iaload, 1) := by decide +kernel
theorem d_V_sizeOf_18 : decode prog_9_method_18_code 18 = .ok (.goto 4, 3) := by decide +kernel
theorem d_V_sizeOf_21 : decode prog_9_method_18_code 21 = .ok (.iconst 0, 1) := by decide +kernel
theorem d_V_sizeOf_22 : decode prog_9_method_18_code 22 = .ok (.ireturn, 1) := by decide +kernel
set_option maxHeartbeats 4000000 in
set_option maxRecDepth 100000 in
theorem cV_sizeOf (l : Launch) (dC : Nat → ClassId) (dI : Nat → Nat → Nat) (tk : Nat → ClassId) (A : Nat → Prop) (hV : Nat) (LV : Nat → Nat) (gV : aG) (aV : aA) (rw : va_W) (n : Nat) (v1 : Int32) (r0 : Int32) (hm : mV_sizeOf n v1 gV aV = some r0) : CtI l dC dI tk A ⟨"EditorServer$Values", "sizeOf", "(I)I"⟩ prog_9_method_18_code 2 (some .int) 0 0 [.ref hV, .int v1] (oW 3 hV ksV spV tk LV gV aV rw) r0 (oW 3 hV ksV spV tk LV gV aV rw) := by
  refine ent (by decide) (Nat.le_of_ble_eq_true rfl) ?_
  intro p e s m args below meth c hx hb hr hml hown hlk hG hg hst ls hl
  unfold mV_sizeOf at hm
  have hl : lv_has ls 2 [(0, .ref hV), (1, .int v1)] := hl
  refine lv_iload_n hx hb d_V_sizeOf_0 rfl (lv_at hl 1 rfl) ?_
  refine lv_if_lt (tgt := 21) hx hb d_V_sizeOf_1 (by decide) (fun h1 => ?_) (fun h1 => ?_)
  · have hm := it_t hm h1
    refine lv_iconst (v := 0) hx hb d_V_sizeOf_21 (by decide) ?_
    have he := (Option.some.inj hm)
    cases he
    exact rt_i hx hb hr hlk rfl hst rfl d_V_sizeOf_22
  · have hm := it_f hm h1
    refine lv_iload_n hx hb d_V_sizeOf_4 rfl (lv_at hl 1 rfl) ?_
    refine lv_aload_n hx hb d_V_sizeOf_5 rfl (lv_at hl 0 rfl) ?_
    refine ro_geti hx hb hown hG hg cV hst 11 (by decide) rfl rfl k_81 d_V_sizeOf_6 ?_
    refine lv_icmp_ge (tgt := 21) hx hb d_V_sizeOf_9 (by decide) (fun h2 => ?_) (fun h2 => ?_)
    · have hm := it_t hm h2
      refine lv_iconst (v := 0) hx hb d_V_sizeOf_21 (by decide) ?_
      have he := (Option.some.inj hm)
      cases he
      exact rt_i hx hb hr hlk rfl hst rfl d_V_sizeOf_22
    · have hm := it_f hm h2
      refine lv_aload_n hx hb d_V_sizeOf_12 rfl (lv_at hl 0 rfl) ?_
      refine ro_geta hx hb hown hG hg cV hst 3 3 (by decide) rfl rfl k_73 d_V_sizeOf_13 ?_
      refine lv_iload_n hx hb d_V_sizeOf_16 rfl (lv_at hl 1 rfl) ?_
      obtain ⟨hn3, hm⟩ := gd_u hm
      refine ro_iald hx hb hg hst 3 rfl hn3 d_V_sizeOf_17 ?_
      refine lv_topi (fun x4 ex4 => ?_)
      have hm := lt_u hm x4 ex4
      refine lv_goto (tgt := 22) hx hb d_V_sizeOf_18 (by decide) ?_
      have he := (Option.some.inj hm)
      cases he
      exact rt_i hx hb hr hlk rfl hst rfl d_V_sizeOf_22
def mV_letterOf (n : Nat) (v1 : Int32) (v2 : Int32) (gV : aG) (aV : aA) : Option (Int32) := jn (α := Unit) (if v1 < 0 then (some (.inl ())) else (if (gV 11) ≤ v1 then (some (.inl ())) else (gd (inb v1 40) (lt (aV 2 v1.toNatClampNeg) (fun x8 => lt ((x8 + v2)) (fun x9 => if x9 < 0 then (some (.inr (0))) else (if (gV 12) ≤ x9 then (some (.inr (0))) else (gd (inb x9 200) (lt (aV 7 x9.toNatClampNeg) (fun x13 => gd (okc x13) (some (.inr (x13))))))))))))) (fun _ => some (0))
theorem d_V_letterOf_0 : decode prog_9_method_19_code 0 = .ok (.iload_n 1, 1) := by decide +kernel
theorem d_V_letterOf_1 : decode prog_9_method_19_code 1 = .ok (.ifCond .lt 22, 3) := by decide +kernel
theorem d_V_letterOf_4 : decode prog_9_method_19_code 4 = .ok (.iload_n 1, 1) := by decide +kernel
theorem d_V_letterOf_5 : decode prog_9_method_19_code 5 = .ok (.aload_n 0, 1) := by decide +kernel
theorem d_V_letterOf_6 : decode prog_9_method_19_code 6 = .ok (.getfield 55, 3) := by decide +kernel
theorem d_V_letterOf_9 : decode prog_9_method_19_code 9 = .ok (.if_icmp .ge 14, 3) := by decide +kernel
theorem d_V_letterOf_12 : decode prog_9_method_19_code 12 = .ok (.aload_n 0, 1) := by decide +kernel
theorem d_V_letterOf_13 : decode prog_9_method_19_code 13 = .ok (.getfield 18, 3) := by decide +kernel
theorem d_V_letterOf_16 : decode prog_9_method_19_code 16 = .ok (.iload_n 1, 1) := by decide +kernel
theorem d_V_letterOf_17 : decode prog_9_method_19_code 17 = .ok (.iaload, 1) := by decide +kernel
theorem d_V_letterOf_18 : decode prog_9_method_19_code 18 = .ok (.iload_n 2, 1) := by decide +kernel
theorem d_V_letterOf_19 : decode prog_9_method_19_code 19 = .ok (.iadd, 1) := by decide +kernel
theorem d_V_letterOf_20 : decode prog_9_method_19_code 20 = .ok (.goto 4, 3) := by decide +kernel
theorem d_V_letterOf_23 : decode prog_9_method_19_code 23 = .ok (.iconst (-1), 1) := by decide +kernel
theorem d_V_letterOf_24 : decode prog_9_method_19_code 24 = .ok (.istore_n 3, 1) := by decide +kernel
theorem d_V_letterOf_25 : decode prog_9_method_19_code 25 = .ok (.iload_n 3, 1) := by decide +kernel
theorem d_V_letterOf_26 : decode prog_9_method_19_code 26 = .ok (.ifCond .lt 20, 3) := by decide +kernel
theorem d_V_letterOf_29 : decode prog_9_method_19_code 29 = .ok (.iload_n 3, 1) := by decide +kernel
theorem d_V_letterOf_30 : decode prog_9_method_19_code 30 = .ok (.aload_n 0, 1) := by decide +kernel
theorem d_V_letterOf_31 : decode prog_9_method_19_code 31 = .ok (.getfield 58, 3) := by decide +kernel
theorem d_V_letterOf_34 : decode prog_9_method_19_code 34 = .ok (.if_icmp .ge 12, 3) := by decide +kernel
theorem d_V_letterOf_37 : decode prog_9_method_19_code 37 = .ok (.aload_n 0, 1) := by decide +kernel
theorem d_V_letterOf_38 : decode prog_9_method_19_code 38 = .ok (.getfield 35, 3) := by decide +kernel
theorem d_V_letterOf_41 : decode prog_9_method_19_code 41 = .ok (.iload_n 3, 1) := by decide +kernel
theorem d_V_letterOf_42 : decode prog_9_method_19_code 42 = .ok (.caload, 1) := by decide +kernel
theorem d_V_letterOf_43 : decode prog_9_method_19_code 43 = .ok (.goto 4, 3) := by decide +kernel
theorem d_V_letterOf_46 : decode prog_9_method_19_code 46 = .ok (.iconst 0, 1) := by decide +kernel
theorem d_V_letterOf_47 : decode prog_9_method_19_code 47 = .ok (.ireturn, 1) := by decide +kernel
set_option maxHeartbeats 4000000 in
set_option maxRecDepth 100000 in
theorem cV_letterOf (l : Launch) (dC : Nat → ClassId) (dI : Nat → Nat → Nat) (tk : Nat → ClassId) (A : Nat → Prop) (hV : Nat) (LV : Nat → Nat) (gV : aG) (aV : aA) (rw : va_W) (n : Nat) (v1 : Int32) (v2 : Int32) (r0 : Int32) (hm : mV_letterOf n v1 v2 gV aV = some r0) : CtI l dC dI tk A ⟨"EditorServer$Values", "letterOf", "(II)C"⟩ prog_9_method_19_code 4 (some .char) 0 0 [.ref hV, .int v1, .int v2] (oW 3 hV ksV spV tk LV gV aV rw) r0 (oW 3 hV ksV spV tk LV gV aV rw) := by
  refine ent (by decide) (Nat.le_of_ble_eq_true rfl) ?_
  intro p e s m args below meth c hx hb hr hml hown hlk hG hg hst ls hl
  unfold mV_letterOf at hm
  have hl : lv_has ls 4 [(0, .ref hV), (1, .int v1), (2, .int v2)] := hl
  refine lv_iload_n hx hb d_V_letterOf_0 rfl (lv_at hl 1 rfl) ?_
  obtain ⟨qJ1, hm, hLJ1, hR2⟩ := jn_u hm
  have hJ1 : qJ1 = .inl () → ∀ (H : Heap) (locs : List Loc) (ls : Array Slot), lv_has ls 4 [(0, .ref hV), (1, .int v1), (2, .int v2)] → St dC dI A s.heap H locs (oW 3 hV ksV spV tk LV gV aV rw) → W p l e (rmo 0 0) s m args below meth c H locs 0 0 (MQ below (QI dC dI A r0 (oW 3 hV ksV spV tk LV gV aV rw)) args s 0 0 A) (F0 m 23 ls []) := by
    intro hq H locs ls hl hst
    have hm := hLJ1 _ hq
    refine lv_iconst (v := (-1)) hx hb d_V_letterOf_23 (by decide) ?_
    refine lv_istore_n (lv' := [(3, .int (-1)), (0, .ref hV), (1, .int v1), (2, .int v2)]) hx hb d_V_letterOf_24 rfl hl (by decide) rfl (fun ls hl => ?_)
    refine lv_iload_n hx hb d_V_letterOf_25 rfl (lv_at hl 0 rfl) ?_
    refine lv_if_lt (tgt := 46) hx hb d_V_letterOf_26 (by decide) (fun h4 => ?_) (fun h4 => ?_)
    rotate_left
    · exact absurd h4 (by decide)
    refine lv_iconst (v := 0) hx hb d_V_letterOf_46 (by decide) ?_
    have he := (Option.some.inj hm)
    cases he
    exact rt_i hx hb hr hlk (by decide) hst rfl d_V_letterOf_47
  refine lv_if_lt (tgt := 23) hx hb d_V_letterOf_1 (by decide) (fun h5 => ?_) (fun h5 => ?_)
  · have hm := it_t hm h5
    exact hJ1  (Option.some.inj hm).symm _ _ _ (lv_sub hl [0, 1, 2] rfl) hst
  · have hm := it_f hm h5
    refine lv_iload_n hx hb d_V_letterOf_4 rfl (lv_at hl 1 rfl) ?_
    refine lv_aload_n hx hb d_V_letterOf_5 rfl (lv_at hl 0 rfl) ?_
    refine ro_geti hx hb hown hG hg cV hst 11 (by decide) rfl rfl k_81 d_V_letterOf_6 ?_
    refine lv_icmp_ge (tgt := 23) hx hb d_V_letterOf_9 (by decide) (fun h6 => ?_) (fun h6 => ?_)
    · have hm := it_t hm h6
      exact hJ1  (Option.some.inj hm).symm _ _ _ (lv_sub hl [0, 1, 2] rfl) hst
    · have hm := it_f hm h6
      refine lv_aload_n hx hb d_V_letterOf_12 rfl (lv_at hl 0 rfl) ?_
      refine ro_geta hx hb hown hG hg cV hst 2 2 (by decide) rfl rfl k_72 d_V_letterOf_13 ?_
      refine lv_iload_n hx hb d_V_letterOf_16 rfl (lv_at hl 1 rfl) ?_
      obtain ⟨hn7, hm⟩ := gd_u hm
      refine ro_iald hx hb hg hst 2 rfl hn7 d_V_letterOf_17 ?_
      refine lv_topi (fun x8 ex8 => ?_)
      have hm := lt_u hm x8 ex8
      refine lv_iload_n hx hb d_V_letterOf_18 rfl (lv_at hl 2 rfl) ?_
      refine lv_iadd hx hb d_V_letterOf_19 ?_
      refine lv_goto (tgt := 24) hx hb d_V_letterOf_20 (by decide) ?_
      refine lv_topi (fun x9 ex9 => ?_)
      have hm := lt_u hm x9 ex9
      refine lv_istore_n (lv' := [(3, .int x9), (0, .ref hV), (1, .int v1), (2, .int v2)]) hx hb d_V_letterOf_24 rfl hl (by decide) rfl (fun ls hl => ?_)
      refine lv_iload_n hx hb d_V_letterOf_25 rfl (lv_at hl 0 rfl) ?_
      refine lv_if_lt (tgt := 46) hx hb d_V_letterOf_26 (by decide) (fun h10 => ?_) (fun h10 => ?_)
      · have hm := it_t hm h10
        refine lv_iconst (v := 0) hx hb d_V_letterOf_46 (by decide) ?_
        have he := (hR2 _ (Option.some.inj hm).symm)
        cases he
        exact rt_i hx hb hr hlk (by decide) hst rfl d_V_letterOf_47
      · have hm := it_f hm h10
        refine lv_iload_n hx hb d_V_letterOf_29 rfl (lv_at hl 0 rfl) ?_
        refine lv_aload_n hx hb d_V_letterOf_30 rfl (lv_at hl 1 rfl) ?_
        refine ro_geti hx hb hown hG hg cV hst 12 (by decide) rfl rfl k_82 d_V_letterOf_31 ?_
        refine lv_icmp_ge (tgt := 46) hx hb d_V_letterOf_34 (by decide) (fun h11 => ?_) (fun h11 => ?_)
        · have hm := it_t hm h11
          refine lv_iconst (v := 0) hx hb d_V_letterOf_46 (by decide) ?_
          have he := (hR2 _ (Option.some.inj hm).symm)
          cases he
          exact rt_i hx hb hr hlk (by decide) hst rfl d_V_letterOf_47
        · have hm := it_f hm h11
          refine lv_aload_n hx hb d_V_letterOf_37 rfl (lv_at hl 1 rfl) ?_
          refine ro_geta hx hb hown hG hg cV hst 7 7 (by decide) rfl rfl k_77 d_V_letterOf_38 ?_
          refine lv_iload_n hx hb d_V_letterOf_41 rfl (lv_at hl 0 rfl) ?_
          obtain ⟨hn12, hm⟩ := gd_u hm
          refine ro_cald hx hb hg hst 7 rfl hn12 d_V_letterOf_42 ?_
          refine lv_topi (fun x13 ex13 => ?_)
          have hm := lt_u hm x13 ex13
          refine lv_goto (tgt := 47) hx hb d_V_letterOf_43 (by decide) ?_
          obtain ⟨hn14, hm⟩ := gd_u hm
          have he := (hR2 _ (Option.some.inj hm).symm)
          cases he
          exact rt_i hx hb hr hlk (okc_n hn14).1 hst rfl d_V_letterOf_47
def mV_spells (n : Nat) (is : Nat) (v1 : Int32) (gV : aG) (aV : aA) : Option (Int32) := bd (mV_isString n v1 gV aV) (fun x1 => if x1 = 0 then (some (0)) else (gd (inb v1 40) (lt (aV 2 v1.toNatClampNeg) (fun x6 => gd (inb v1 40) (lt (aV 3 v1.toNatClampNeg) (fun x8 => bd (mV_sameLetters n is x6 x8 gV aV) (fun x9 => if x9 = 0 then (some (0)) else (some (1)))))))))
theorem d_V_spells_0 : decode prog_9_method_20_code 0 = .ok (.aload_n 0, 1) := by decide +kernel
theorem d_V_spells_1 : decode prog_9_method_20_code 1 = .ok (.iload_n 1, 1) := by decide +kernel
theorem d_V_spells_2 : decode prog_9_method_20_code 2 = .ok (.invokevirtual 127, 3) := by decide +kernel
theorem d_V_spells_5 : decode prog_9_method_20_code 5 = .ok (.ifCond .eq 27, 3) := by decide +kernel
theorem d_V_spells_8 : decode prog_9_method_20_code 8 = .ok (.aload_n 0, 1) := by decide +kernel
theorem d_V_spells_9 : decode prog_9_method_20_code 9 = .ok (.aload_n 0, 1) := by decide +kernel
theorem d_V_spells_10 : decode prog_9_method_20_code 10 = .ok (.getfield 18, 3) := by decide +kernel
theorem d_V_spells_13 : decode prog_9_method_20_code 13 = .ok (.iload_n 1, 1) := by decide +kernel
theorem d_V_spells_14 : decode prog_9_method_20_code 14 = .ok (.iaload, 1) := by decide +kernel
theorem d_V_spells_15 : decode prog_9_method_20_code 15 = .ok (.aload_n 0, 1) := by decide +kernel
theorem d_V_spells_16 : decode prog_9_method_20_code 16 = .ok (.getfield 21, 3) := by decide +kernel
theorem d_V_spells_19 : decode prog_9_method_20_code 19 = .ok (.iload_n 1, 1) := by decide +kernel
theorem d_V_spells_20 : decode prog_9_method_20_code 20 = .ok (.iaload, 1) := by decide +kernel
theorem d_V_spells_21 : decode prog_9_method_20_code 21 = .ok (.aload_n 2, 1) := by decide +kernel
theorem d_V_spells_22 : decode prog_9_method_20_code 22 = .ok (.invokevirtual 116, 3) := by decide +kernel
theorem d_V_spells_25 : decode prog_9_method_20_code 25 = .ok (.ifCond .eq 7, 3) := by decide +kernel
theorem d_V_spells_28 : decode prog_9_method_20_code 28 = .ok (.iconst 1, 1) := by decide +kernel
theorem d_V_spells_29 : decode prog_9_method_20_code 29 = .ok (.goto 4, 3) := by decide +kernel
theorem d_V_spells_32 : decode prog_9_method_20_code 32 = .ok (.iconst 0, 1) := by decide +kernel
theorem d_V_spells_33 : decode prog_9_method_20_code 33 = .ok (.ireturn, 1) := by decide +kernel
set_option maxHeartbeats 4000000 in
set_option maxRecDepth 100000 in
theorem cV_spells (l : Launch) (dC : Nat → ClassId) (dI : Nat → Nat → Nat) (tk : Nat → ClassId) (A : Nat → Prop) (hV : Nat) (LV : Nat → Nat) (gV : aG) (aV : aA) (rw : va_W) (n : Nat) (is : Nat) (his : is < 29) (v1 : Int32) (r0 : Int32) (hm : mV_spells n is v1 gV aV = some r0) : CtI l dC dI tk A ⟨"EditorServer$Values", "spells", "(ILjava/lang/String;)Z"⟩ prog_9_method_20_code 3 (some .boolean) 5 109 [.ref hV, .int v1, .ref (dI 1000 is)] (oW 3 hV ksV spV tk LV gV aV rw) r0 (oW 3 hV ksV spV tk LV gV aV rw) := by
  refine ent (by decide) (Nat.le_of_ble_eq_true rfl) ?_
  intro p e s m args below meth c hx hb hr hml hown hlk hG hg hst ls hl
  unfold mV_spells at hm
  have hl : lv_has ls 3 [(0, .ref hV), (1, .int v1), (2, .ref (dI 1000 is))] := hl
  refine lv_aload_n hx hb d_V_spells_0 rfl (lv_at hl 0 rfl) ?_
  refine lv_iload_n hx hb d_V_spells_1 rfl (lv_at hl 1 rfl) ?_
  obtain ⟨x1, hc2, hm⟩ := bd_u hm
  refine cl_vi hx hb hml hown hG hg (cV_isString l dC dI tk A hV LV gV aV rw n v1 _ hc2) (cw_v 1 hG k_480 k_456 k_457 k_3 k_458 (by decide +kernel) ⟨by decide, by decide⟩) hst rfl oW_0 rfl hl.1 rfl (Nat.le_of_ble_eq_true rfl) ⟨Nat.le_refl 0, Nat.le_refl 0⟩ d_V_spells_2 (fun H locs hst => ?_)
  refine lv_if_eq (tgt := 32) hx hb d_V_spells_5 (by decide) (fun h4 => ?_) (fun h4 => ?_)
  · have hm := it_t hm h4
    refine lv_iconst (v := 0) hx hb d_V_spells_32 (by decide) ?_
    have he := (Option.some.inj hm)
    cases he
    exact rt_i hx hb hr hlk (by decide) hst rfl d_V_spells_33
  · have hm := it_f hm h4
    refine lv_aload_n hx hb d_V_spells_8 rfl (lv_at hl 0 rfl) ?_
    refine lv_aload_n hx hb d_V_spells_9 rfl (lv_at hl 0 rfl) ?_
    refine ro_geta hx hb hown hG hg cV hst 2 2 (by decide) rfl rfl k_72 d_V_spells_10 ?_
    refine lv_iload_n hx hb d_V_spells_13 rfl (lv_at hl 1 rfl) ?_
    obtain ⟨hn5, hm⟩ := gd_u hm
    refine ro_iald hx hb hg hst 2 rfl hn5 d_V_spells_14 ?_
    refine lv_topi (fun x6 ex6 => ?_)
    have hm := lt_u hm x6 ex6
    refine lv_aload_n hx hb d_V_spells_15 rfl (lv_at hl 0 rfl) ?_
    refine ro_geta hx hb hown hG hg cV hst 3 3 (by decide) rfl rfl k_73 d_V_spells_16 ?_
    refine lv_iload_n hx hb d_V_spells_19 rfl (lv_at hl 1 rfl) ?_
    obtain ⟨hn7, hm⟩ := gd_u hm
    refine ro_iald hx hb hg hst 3 rfl hn7 d_V_spells_20 ?_
    refine lv_topi (fun x8 ex8 => ?_)
    have hm := lt_u hm x8 ex8
    refine lv_aload_n hx hb d_V_spells_21 rfl (lv_at hl 2 rfl) ?_
    obtain ⟨x9, hc10, hm⟩ := bd_u hm
    refine cl_vi hx hb hml hown hG hg (cV_sameLetters l dC dI tk A hV LV gV aV rw n is his x6 x8 _ hc10) (cw_v 3 hG k_446 k_448 s_13 k_3 k_449 (by decide +kernel) ⟨by decide, by decide⟩) hst rfl oW_0 rfl hl.1 rfl (Nat.le_of_ble_eq_true rfl) ⟨Nat.le_refl 0, Nat.le_refl 0⟩ d_V_spells_22 (fun H locs hst => ?_)
    refine lv_if_eq (tgt := 32) hx hb d_V_spells_25 (by decide) (fun h12 => ?_) (fun h12 => ?_)
    · have hm := it_t hm h12
      refine lv_iconst (v := 0) hx hb d_V_spells_32 (by decide) ?_
      have he := (Option.some.inj hm)
      cases he
      exact rt_i hx hb hr hlk (by decide) hst rfl d_V_spells_33
    · have hm := it_f hm h12
      refine lv_iconst (v := 1) hx hb d_V_spells_28 (by decide) ?_
      refine lv_goto (tgt := 33) hx hb d_V_spells_29 (by decide) ?_
      have he := (Option.some.inj hm)
      cases he
      exact rt_i hx hb hr hlk (by decide) hst rfl d_V_spells_33
def mV_hasShape (n : Nat) (is : Nat) (v1 : Int32) (gV : aG) (aV : aA) : Option (Int32) := jn (α := Unit) (lp (ε := Int32) (fun x8 => if (Int32.ofNat (slen is)) ≤ x8 then (some (.inr (.inl ()))) else (gd (inb x8 (slen is)) (lt (sbyt is x8.toNatClampNeg) (fun x15 => if x15 = 42 then (some (.inr (.inr (1)))) else (bd (mV_item n v1 x8 gV aV) (fun x17 => if x15 = 115 then (bd (mV_isString n x17 gV aV) (fun x25 => if x25 = 0 then (some (.inr (.inr (0)))) else (some (.inl (x8 + 1))))) else (bd (mV_isNumber n x17 gV aV) (fun x21 => if x21 = 0 then (some (.inr (.inr (0)))) else (some (.inl (x8 + 1))))))))))) n 0) (fun _ => bd (mV_sizeOf n v1 gV aV) (fun x4 => if x4 = (Int32.ofNat (slen is)) then (some (1)) else (some (0))))
theorem d_V_hasShape_0 : decode prog_9_method_23_code 0 = .ok (.iconst 0, 1) := by decide +kernel
theorem d_V_hasShape_1 : decode prog_9_method_23_code 1 = .ok (.istore_n 3, 1) := by decide +kernel
theorem d_V_hasShape_2 : decode prog_9_method_23_code 2 = .ok (.iload_n 3, 1) := by decide +kernel
theorem d_V_hasShape_3 : decode prog_9_method_23_code 3 = .ok (.aload_n 2, 1) := by decide +kernel
theorem d_V_hasShape_4 : decode prog_9_method_23_code 4 = .ok (.invokevirtual 106, 3) := by decide +kernel
theorem d_V_hasShape_7 : decode prog_9_method_23_code 7 = .ok (.if_icmp .ge 63, 3) := by decide +kernel
theorem d_V_hasShape_10 : decode prog_9_method_23_code 10 = .ok (.aload_n 2, 1) := by decide +kernel
theorem d_V_hasShape_11 : decode prog_9_method_23_code 11 = .ok (.iload_n 3, 1) := by decide +kernel
theorem d_V_hasShape_12 : decode prog_9_method_23_code 12 = .ok (.invokevirtual 112, 3) := by decide +kernel
theorem d_V_hasShape_15 : decode prog_9_method_23_code 15 = .ok (.istore 4, 2) := by decide +kernel
theorem d_V_hasShape_17 : decode prog_9_method_23_code 17 = .ok (.iload 4, 2) := by decide +kernel
theorem d_V_hasShape_19 : decode prog_9_method_23_code 19 = .ok (.bipush 42, 2) := by decide +kernel
theorem d_V_hasShape_21 : decode prog_9_method_23_code 21 = .ok (.if_icmp .ne 5, 3) := by decide +kernel
theorem d_V_hasShape_24 : decode prog_9_method_23_code 24 = .ok (.iconst 1, 1) := by decide +kernel
theorem d_V_hasShape_25 : decode prog_9_method_23_code 25 = .ok (.ireturn, 1) := by decide +kernel
theorem d_V_hasShape_26 : decode prog_9_method_23_code 26 = .ok (.aload_n 0, 1) := by decide +kernel
theorem d_V_hasShape_27 : decode prog_9_method_23_code 27 = .ok (.iload_n 1, 1) := by decide +kernel
theorem d_V_hasShape_28 : decode prog_9_method_23_code 28 = .ok (.iload_n 3, 1) := by decide +kernel
theorem d_V_hasShape_29 : decode prog_9_method_23_code 29 = .ok (.invokevirtual 120, 3) := by decide +kernel
theorem d_V_hasShape_32 : decode prog_9_method_23_code 32 = .ok (.istore 5, 2) := by decide +kernel
theorem d_V_hasShape_34 : decode prog_9_method_23_code 34 = .ok (.iload 4, 2) := by decide +kernel
theorem d_V_hasShape_36 : decode prog_9_method_23_code 36 = .ok (.bipush 115, 2) := by decide +kernel
theorem d_V_hasShape_38 : decode prog_9_method_23_code 38 = .ok (.if_icmp .ne 15, 3) := by decide +kernel
theorem d_V_hasShape_41 : decode prog_9_method_23_code 41 = .ok (.aload_n 0, 1) := by decide +kernel
theorem d_V_hasShape_42 : decode prog_9_method_23_code 42 = .ok (.iload 5, 2) := by decide +kernel
theorem d_V_hasShape_44 : decode prog_9_method_23_code 44 = .ok (.invokevirtual 127, 3) := by decide +kernel
theorem d_V_hasShape_47 : decode prog_9_method_23_code 47 = .ok (.ifCond .eq 15, 3) := by decide +kernel
theorem d_V_hasShape_50 : decode prog_9_method_23_code 50 = .ok (.goto 14, 3) := by decide +kernel
theorem d_V_hasShape_53 : decode prog_9_method_23_code 53 = .ok (.aload_n 0, 1) := by decide +kernel
theorem d_V_hasShape_54 : decode prog_9_method_23_code 54 = .ok (.iload 5, 2) := by decide +kernel
theorem d_V_hasShape_56 : decode prog_9_method_23_code 56 = .ok (.invokevirtual 130, 3) := by decide +kernel
theorem d_V_hasShape_59 : decode prog_9_method_23_code 59 = .ok (.ifCond .ne 5, 3) := by decide +kernel
theorem d_V_hasShape_62 : decode prog_9_method_23_code 62 = .ok (.iconst 0, 1) := by decide +kernel
theorem d_V_hasShape_63 : decode prog_9_method_23_code 63 = .ok (.ireturn, 1) := by decide +kernel
theorem d_V_hasShape_64 : decode prog_9_method_23_code 64 = .ok (.iinc 3 1, 3) := by decide +kernel
theorem d_V_hasShape_67 : decode prog_9_method_23_code 67 = .ok (.goto (-65), 3) := by decide +kernel
theorem d_V_hasShape_70 : decode prog_9_method_23_code 70 = .ok (.aload_n 0, 1) := by decide +kernel
theorem d_V_hasShape_71 : decode prog_9_method_23_code 71 = .ok (.iload_n 1, 1) := by decide +kernel
theorem d_V_hasShape_72 : decode prog_9_method_23_code 72 = .ok (.invokevirtual 133, 3) := by decide +kernel
theorem d_V_hasShape_75 : decode prog_9_method_23_code 75 = .ok (.aload_n 2, 1) := by decide +kernel
theorem d_V_hasShape_76 : decode prog_9_method_23_code 76 = .ok (.invokevirtual 106, 3) := by decide +kernel
theorem d_V_hasShape_79 : decode prog_9_method_23_code 79 = .ok (.if_icmp .ne 7, 3) := by decide +kernel
theorem d_V_hasShape_82 : decode prog_9_method_23_code 82 = .ok (.iconst 1, 1) := by decide +kernel
theorem d_V_hasShape_83 : decode prog_9_method_23_code 83 = .ok (.goto 4, 3) := by decide +kernel
theorem d_V_hasShape_86 : decode prog_9_method_23_code 86 = .ok (.iconst 0, 1) := by decide +kernel
theorem d_V_hasShape_87 : decode prog_9_method_23_code 87 = .ok (.ireturn, 1) := by decide +kernel
set_option maxHeartbeats 4000000 in
set_option maxRecDepth 100000 in
theorem cV_hasShape (l : Launch) (dC : Nat → ClassId) (dI : Nat → Nat → Nat) (tk : Nat → ClassId) (A : Nat → Prop) (hV : Nat) (LV : Nat → Nat) (gV : aG) (aV : aA) (rw : va_W) (n : Nat) (is : Nat) (his : is < 29) (v1 : Int32) (r0 : Int32) (hm : mV_hasShape n is v1 gV aV = some r0) : CtI l dC dI tk A ⟨"EditorServer$Values", "hasShape", "(ILjava/lang/String;)Z"⟩ prog_9_method_23_code 6 (some .boolean) 4 85 [.ref hV, .int v1, .ref (dI 1000 is)] (oW 3 hV ksV spV tk LV gV aV rw) r0 (oW 3 hV ksV spV tk LV gV aV rw) := by
  refine ent (by decide) (Nat.le_of_ble_eq_true rfl) ?_
  intro p e s m args below meth c hx hb hr hml hown hlk hG hg hst ls hl
  unfold mV_hasShape at hm
  have hl : lv_has ls 6 [(0, .ref hV), (1, .int v1), (2, .ref (dI 1000 is))] := hl
  refine lv_iconst (v := 0) hx hb d_V_hasShape_0 (by decide) ?_
  refine lv_istore_n (lv' := [(3, .int 0), (0, .ref hV), (1, .int v1), (2, .ref (dI 1000 is))]) hx hb d_V_hasShape_1 rfl hl (by decide) rfl (fun ls hl => ?_)
  obtain ⟨qJ1, hm, hLJ1, hR2⟩ := jn_u hm
  have hJ1 : qJ1 = .inl () → ∀ (H : Heap) (locs : List Loc) (ls : Array Slot), lv_has ls 6 [(0, .ref hV), (1, .int v1), (2, .ref (dI 1000 is))] → St dC dI A s.heap H locs (oW 3 hV ksV spV tk LV gV aV rw) → W p l e (rmo 4 85) s m args below meth c H locs 0 0 (MQ below (QI dC dI A r0 (oW 3 hV ksV spV tk LV gV aV rw)) args s 0 0 A) (F0 m 70 ls []) := by
    intro hq H locs ls hl hst
    have hm := hLJ1 _ hq
    refine lv_aload_n hx hb d_V_hasShape_70 rfl (lv_at hl 0 rfl) ?_
    refine lv_iload_n hx hb d_V_hasShape_71 rfl (lv_at hl 1 rfl) ?_
    obtain ⟨x4, hc5, hm⟩ := bd_u hm
    refine cl_vi hx hb hml hown hG hg (cV_sizeOf l dC dI tk A hV LV gV aV rw n v1 _ hc5) (cw_v 1 hG k_503 k_504 k_505 k_3 k_506 (by decide +kernel) ⟨by decide, by decide⟩) hst rfl oW_0 rfl hl.1 rfl (Nat.le_of_ble_eq_true rfl) ⟨Nat.le_refl 0, Nat.le_refl 0⟩ d_V_hasShape_72 (fun H locs hst => ?_)
    refine lv_aload_n hx hb d_V_hasShape_75 rfl (lv_at hl 2 rfl) ?_
    refine cl_vo (As := []) hx hb hml hown hG hg (c_sn l dC dI tk A _ is his) (cw_v 0 hG k_384 k_385 k_386 k_12 k_387 (by decide +kernel) ⟨by decide, by decide⟩) hst (hg.2.2.2.1 is his).1 rfl hl.1 rfl (Nat.le_of_ble_eq_true rfl) ⟨Nat.le_refl 0, Nat.le_refl 0⟩ d_V_hasShape_76 (fun H locs hst => ?_)
    refine lv_icmp_ne (tgt := 86) hx hb d_V_hasShape_79 (by decide) (fun h7 => ?_) (fun h7 => ?_)
    · have hm := it_f hm h7
      refine lv_iconst (v := 0) hx hb d_V_hasShape_86 (by decide) ?_
      have he := (Option.some.inj hm)
      cases he
      exact rt_i hx hb hr hlk (by decide) hst rfl d_V_hasShape_87
    · have hm := it_t hm h7
      refine lv_iconst (v := 1) hx hb d_V_hasShape_82 (by decide) ?_
      refine lv_goto (tgt := 87) hx hb d_V_hasShape_83 (by decide) ?_
      have he := (Option.some.inj hm)
      cases he
      exact rt_i hx hb hr hlk (by decide) hst rfl d_V_hasShape_87
  refine lp_u (fun x8 : Int32 => ∀ (H : Heap) (locs : List Loc) (ls : Array Slot), lv_has ls 6 [(0, .ref hV), (1, .int v1), (2, .ref (dI 1000 is)), (3, .int x8)] → St dC dI A s.heap H locs (oW 3 hV ksV spV tk LV gV aV rw) → W p l e (rmo 4 85) s m args below meth c H locs 0 0 (MQ below (QI dC dI A r0 (oW 3 hV ksV spV tk LV gV aV rw)) args s 0 0 A) (F0 m 2 ls [])) ?_ n 0 hm _ _ _ (lv_sub hl [1, 2, 3, 0] rfl) hst
  rintro x8 r12 hm hJ100 hR11 H locs ls hl hst
  have hJ10 := fun y0 (e : r12 = .inl y0) => hJ100 y0 e
  refine lv_iload_n hx hb d_V_hasShape_2 rfl (lv_at hl 3 rfl) ?_
  refine lv_aload_n hx hb d_V_hasShape_3 rfl (lv_at hl 2 rfl) ?_
  refine cl_vo (As := []) hx hb hml hown hG hg (c_sn l dC dI tk A _ is his) (cw_v 0 hG k_384 k_385 k_386 k_12 k_387 (by decide +kernel) ⟨by decide, by decide⟩) hst (hg.2.2.2.1 is his).1 rfl hl.1 rfl (Nat.le_of_ble_eq_true rfl) ⟨Nat.le_refl 0, Nat.le_refl 0⟩ d_V_hasShape_4 (fun H locs hst => ?_)
  refine lv_icmp_ge (tgt := 70) hx hb d_V_hasShape_7 (by decide) (fun h13 => ?_) (fun h13 => ?_)
  · have hm := it_t hm h13
    exact hJ1  (hR11 _ (Option.some.inj hm).symm).symm _ _ _ (lv_sub hl [0, 1, 2] rfl) hst
  · have hm := it_f hm h13
    refine lv_aload_n hx hb d_V_hasShape_10 rfl (lv_at hl 2 rfl) ?_
    refine lv_iload_n hx hb d_V_hasShape_11 rfl (lv_at hl 3 rfl) ?_
    obtain ⟨hn14, hm⟩ := gd_u hm
    refine cl_vo (As := [.int x8]) hx hb hml hown hG hg (c_sa l dC dI tk A _ is his x8 hn14) (cw_v 1 hG k_393 k_394 k_395 k_12 k_396 (by decide +kernel) ⟨by decide, by decide⟩) hst (hg.2.2.2.1 is his).1 rfl hl.1 rfl (Nat.le_of_ble_eq_true rfl) ⟨Nat.le_refl 0, Nat.le_refl 0⟩ d_V_hasShape_12 (fun H locs hst => ?_)
    refine lv_topi (fun x15 ex15 => ?_)
    have hm := lt_u hm x15 ex15
    refine lv_istore (lv' := [(4, .int x15), (0, .ref hV), (1, .int v1), (2, .ref (dI 1000 is)), (3, .int x8)]) hx hb d_V_hasShape_15 hl (by decide) rfl (fun ls hl => ?_)
    refine lv_iload hx hb d_V_hasShape_17 (lv_at hl 0 rfl) ?_
    refine lv_bipush (v := 42) hx hb d_V_hasShape_19 (by decide) ?_
    refine lv_icmp_ne (tgt := 26) hx hb d_V_hasShape_21 (by decide) (fun h16 => ?_) (fun h16 => ?_)
    · have hm := it_f hm h16
      refine lv_aload_n hx hb d_V_hasShape_26 rfl (lv_at hl 1 rfl) ?_
      refine lv_iload_n hx hb d_V_hasShape_27 rfl (lv_at hl 2 rfl) ?_
      refine lv_iload_n hx hb d_V_hasShape_28 rfl (lv_at hl 4 rfl) ?_
      obtain ⟨x17, hc18, hm⟩ := bd_u hm
      refine cl_vi hx hb hml hown hG hg (cV_item l dC dI tk A hV LV gV aV rw n v1 x8 _ hc18) (cw_v 2 hG k_498 k_499 k_500 k_3 k_501 (by decide +kernel) ⟨by decide, by decide⟩) hst rfl oW_0 rfl hl.1 rfl (Nat.le_of_ble_eq_true rfl) ⟨Nat.le_refl 0, Nat.le_refl 0⟩ d_V_hasShape_29 (fun H locs hst => ?_)
      refine lv_istore (lv' := [(5, .int x17), (4, .int x15), (0, .ref hV), (1, .int v1), (2, .ref (dI 1000 is)), (3, .int x8)]) hx hb d_V_hasShape_32 hl (by decide) rfl (fun ls hl => ?_)
      refine lv_iload hx hb d_V_hasShape_34 (lv_at hl 1 rfl) ?_
      refine lv_bipush (v := 115) hx hb d_V_hasShape_36 (by decide) ?_
      refine lv_icmp_ne (tgt := 53) hx hb d_V_hasShape_38 (by decide) (fun h20 => ?_) (fun h20 => ?_)
      · have hm := it_f hm h20
        refine lv_aload_n hx hb d_V_hasShape_53 rfl (lv_at hl 2 rfl) ?_
        refine lv_iload hx hb d_V_hasShape_54 (lv_at hl 0 rfl) ?_
        obtain ⟨x21, hc22, hm⟩ := bd_u hm
        refine cl_vi hx hb hml hown hG hg (cV_isNumber l dC dI tk A hV LV gV aV rw n x17 _ hc22) (cw_v 1 hG k_502 k_452 k_453 k_3 k_454 (by decide +kernel) ⟨by decide, by decide⟩) hst rfl oW_0 rfl hl.1 rfl (Nat.le_of_ble_eq_true rfl) ⟨Nat.le_refl 0, Nat.le_refl 0⟩ d_V_hasShape_56 (fun H locs hst => ?_)
        refine lv_if_ne (tgt := 64) hx hb d_V_hasShape_59 (by decide) (fun h24 => ?_) (fun h24 => ?_)
        · have hm := it_f hm h24
          refine lv_iinc (k := 5) (v := (x8 + 1)) (lv' := [(3, .int (x8 + 1)), (5, .int x17), (4, .int x15), (0, .ref hV), (1, .int v1), (2, .ref (dI 1000 is))]) hx hb d_V_hasShape_64 hl rfl (by rfl) (by decide) rfl (fun ls hl => ?_)
          refine lv_goto (tgt := 2) hx hb d_V_hasShape_67 (by decide) ?_
          exact hJ10 (x8 + 1) (Option.some.inj hm).symm _ _ _ (lv_sub hl [3, 4, 5, 0] rfl) hst
        · have hm := it_t hm h24
          refine lv_iconst (v := 0) hx hb d_V_hasShape_62 (by decide) ?_
          have he := (hR2 _ (hR11 _ (Option.some.inj hm).symm).symm)
          cases he
          exact rt_i hx hb hr hlk (by decide) hst rfl d_V_hasShape_63
      · have hm := it_t hm h20
        refine lv_aload_n hx hb d_V_hasShape_41 rfl (lv_at hl 2 rfl) ?_
        refine lv_iload hx hb d_V_hasShape_42 (lv_at hl 0 rfl) ?_
        obtain ⟨x25, hc26, hm⟩ := bd_u hm
        refine cl_vi hx hb hml hown hG hg (cV_isString l dC dI tk A hV LV gV aV rw n x17 _ hc26) (cw_v 1 hG k_480 k_456 k_457 k_3 k_458 (by decide +kernel) ⟨by decide, by decide⟩) hst rfl oW_0 rfl hl.1 rfl (Nat.le_of_ble_eq_true rfl) ⟨Nat.le_refl 0, Nat.le_refl 0⟩ d_V_hasShape_44 (fun H locs hst => ?_)
        refine lv_if_eq (tgt := 62) hx hb d_V_hasShape_47 (by decide) (fun h28 => ?_) (fun h28 => ?_)
        · have hm := it_t hm h28
          refine lv_iconst (v := 0) hx hb d_V_hasShape_62 (by decide) ?_
          have he := (hR2 _ (hR11 _ (Option.some.inj hm).symm).symm)
          cases he
          exact rt_i hx hb hr hlk (by decide) hst rfl d_V_hasShape_63
        · have hm := it_f hm h28
          refine lv_goto (tgt := 64) hx hb d_V_hasShape_50 (by decide) ?_
          refine lv_iinc (k := 5) (v := (x8 + 1)) (lv' := [(3, .int (x8 + 1)), (5, .int x17), (4, .int x15), (0, .ref hV), (1, .int v1), (2, .ref (dI 1000 is))]) hx hb d_V_hasShape_64 hl rfl (by rfl) (by decide) rfl (fun ls hl => ?_)
          refine lv_goto (tgt := 2) hx hb d_V_hasShape_67 (by decide) ?_
          exact hJ10 (x8 + 1) (Option.some.inj hm).symm _ _ _ (lv_sub hl [3, 4, 5, 0] rfl) hst
    · have hm := it_t hm h16
      refine lv_iconst (v := 1) hx hb d_V_hasShape_24 (by decide) ?_
      have he := (hR2 _ (hR11 _ (Option.some.inj hm).symm).symm)
      cases he
      exact rt_i hx hb hr hlk (by decide) hst rfl d_V_hasShape_25
def mT_copyFrom (n : Nat) (gT : aG) (aT : aA) (gU : aG) (aU : aA) : Option (aG × aA) := gd (cpok 0 0 (gU 1) 60 60) (gd (okcs (aU 0) (0 : Int32).toNatClampNeg (gU 1).toNatClampNeg) (lt (va_up aT 0 (va_cpy (aU 0) (aT 0) (0 : Int32).toNatClampNeg (0 : Int32).toNatClampNeg (gU 1).toNatClampNeg)) (fun a3 => lt (va_up gT 1 (gU 1)) (fun g4 => some ((g4, a3))))))
theorem d_T_copyFrom_0 : decode prog_8_method_2_code 0 = .ok (.aload_n 1, 1) := by decide +kernel
theorem d_T_copyFrom_1 : decode prog_8_method_2_code 1 = .ok (.getfield 11, 3) := by decide +kernel
theorem d_T_copyFrom_4 : decode prog_8_method_2_code 4 = .ok (.iconst 0, 1) := by decide +kernel
theorem d_T_copyFrom_5 : decode prog_8_method_2_code 5 = .ok (.aload_n 0, 1) := by decide +kernel
theorem d_T_copyFrom_6 : decode prog_8_method_2_code 6 = .ok (.getfield 11, 3) := by decide +kernel
theorem d_T_copyFrom_9 : decode prog_8_method_2_code 9 = .ok (.iconst 0, 1) := by decide +kernel
theorem d_T_copyFrom_10 : decode prog_8_method_2_code 10 = .ok (.aload_n 1, 1) := by decide +kernel
theorem d_T_copyFrom_11 : decode prog_8_method_2_code 11 = .ok (.getfield 15, 3) := by decide +kernel
theorem d_T_copyFrom_14 : decode prog_8_method_2_code 14 = .ok (.invokestatic 19, 3) := by decide +kernel
theorem d_T_copyFrom_17 : decode prog_8_method_2_code 17 = .ok (.aload_n 0, 1) := by decide +kernel
theorem d_T_copyFrom_18 : decode prog_8_method_2_code 18 = .ok (.aload_n 1, 1) := by decide +kernel
theorem d_T_copyFrom_19 : decode prog_8_method_2_code 19 = .ok (.getfield 15, 3) := by decide +kernel
theorem d_T_copyFrom_22 : decode prog_8_method_2_code 22 = .ok (.putfield 15, 3) := by decide +kernel
theorem d_T_copyFrom_25 : decode prog_8_method_2_code 25 = .ok (.return_, 1) := by decide +kernel
set_option maxHeartbeats 4000000 in
set_option maxRecDepth 100000 in
theorem cT_copyFrom (l : Launch) (dC : Nat → ClassId) (dI : Nat → Nat → Nat) (tk : Nat → ClassId) (A : Nat → Prop) (hT : Nat) (LT : Nat → Nat) (gT : aG) (aT : aA) (hU : Nat) (LU : Nat → Nat) (gU : aG) (aU : aA) (rw : va_W) (n : Nat) (ogT : aG) (oaT : aA) (hm : mT_copyFrom n gT aT gU aU = some (ogT, oaT)) : CtV l dC dI tk A ⟨"EditorServer$Text", "copyFrom", "(LEditorServer$Text;)V"⟩ prog_8_method_2_code 2 1 60 [.ref hT, .ref hU] (oW 6 hT ksT spT tk LT gT aT (oW 6 hU ksT spT tk LU gU aU rw)) (oW 6 hT ksT spT tk LT ogT oaT (oW 6 hU ksT spT tk LU gU aU rw)) := by
  refine ent (by decide) (Nat.le_of_ble_eq_true rfl) ?_
  intro p e s m args below meth c hx hb hr hml hown hlk hG hg hst ls hl
  unfold mT_copyFrom at hm
  have hl : lv_has ls 2 [(0, .ref hT), (1, .ref hU)] := hl
  refine lv_aload_n hx hb d_T_copyFrom_0 rfl (lv_at hl 1 rfl) ?_
  have hst := fr1 hst
  refine ro_geta hx hb hown hG hg cT hst 0 0 (by decide) rfl rfl k_125 d_T_copyFrom_1 ?_
  refine lv_iconst (v := 0) hx hb d_T_copyFrom_4 (by decide) ?_
  refine lv_aload_n hx hb d_T_copyFrom_5 rfl (lv_at hl 0 rfl) ?_
  have hst := fr1 hst
  refine ro_geta hx hb hown hG hg cT hst 0 0 (by decide) rfl rfl k_125 d_T_copyFrom_6 ?_
  refine lv_iconst (v := 0) hx hb d_T_copyFrom_9 (by decide) ?_
  refine lv_aload_n hx hb d_T_copyFrom_10 rfl (lv_at hl 1 rfl) ?_
  have hst := fr1 hst
  refine ro_geti hx hb hown hG hg cT hst 1 (by decide) rfl rfl k_127 d_T_copyFrom_11 ?_
  obtain ⟨hn1, hm⟩ := gd_u hm
  obtain ⟨hn2, hm⟩ := gd_u hm
  have hst := fr1 hst
  refine ro_cpy2 hx hb (hml.trans hl.1.symm) hown hG hg hst 0 0 rfl rfl hn1 hn2 k_541 (Nat.le_of_ble_eq_true rfl) (Nat.le_of_ble_eq_true rfl) d_T_copyFrom_14 (fun a3 H locs ea3 hst => ?_)
  have hm := lt_u hm a3 ea3
  refine lv_aload_n hx hb d_T_copyFrom_17 rfl (lv_at hl 0 rfl) ?_
  refine lv_aload_n hx hb d_T_copyFrom_18 rfl (lv_at hl 1 rfl) ?_
  have hst := fr1 hst
  refine ro_geti hx hb hown hG hg cT hst 1 (by decide) rfl rfl k_127 d_T_copyFrom_19 ?_
  have hst := fr1 hst
  refine ro_puti hx hb hown hG hg cT hst 1 (by decide) rfl rfl rfl rfl rfl k_127 d_T_copyFrom_22 (fun g4 H locs eg4 hst => ?_)
  have hm := lt_u hm g4 eg4
  have he := (Option.some.inj hm)
  cases he
  exact rt_v hx hb hr hlk hst d_T_copyFrom_25
def mT_replace (n : Nat) (v1 : Int32) (v2 : Int32) (v4 : Int32) (gT : aG) (aT : aA) (gV : aG) (aV : aA) : Option (Int32 × aG × aA) := bd (mV_sizeOf n v4 gV aV) (fun x1 => lt ((((gT 1) - (v2 - v1)) + x1)) (fun x4 => if x4 ≤ 60 then (gd (cpok v2 (v1 + x1) ((gT 1) - v2) 60 60) (gd (okcs (aT 0) v2.toNatClampNeg ((gT 1) - v2).toNatClampNeg) (lt (va_up aT 0 (va_cpy (aT 0) (aT 0) v2.toNatClampNeg (v1 + x1).toNatClampNeg ((gT 1) - v2).toNatClampNeg)) (fun a8 => lp (ε := Int32 × aA) (fun q11 => if x1 ≤ q11.1 then (lt (va_up gT 1 x4) (fun g16 => some (.inr ((1, g16, q11.2))))) else (bd (mV_letterOf n v4 q11.1 gV aV) (fun x17 => gd (inb (v1 + q11.1) 60) (lt (va_up q11.2 0 (upd (q11.2 0) (v1 + q11.1).toNatClampNeg (vp_nar .char x17))) (fun a21 => some (.inl ((q11.1 + 1), a21))))))) n (0, a8))))) else (some ((0, gT, aT)))))
theorem d_T_replace_0 : decode prog_8_method_3_code 0 = .ok (.aload_n 3, 1) := by decide +kernel
theorem d_T_replace_1 : decode prog_8_method_3_code 1 = .ok (.iload 4, 2) := by decide +kernel
theorem d_T_replace_3 : decode prog_8_method_3_code 3 = .ok (.invokevirtual 25, 3) := by decide +kernel
theorem d_T_replace_6 : decode prog_8_method_3_code 6 = .ok (.istore 5, 2) := by decide +kernel
theorem d_T_replace_8 : decode prog_8_method_3_code 8 = .ok (.aload_n 0, 1) := by decide +kernel
theorem d_T_replace_9 : decode prog_8_method_3_code 9 = .ok (.getfield 15, 3) := by decide +kernel
theorem d_T_replace_12 : decode prog_8_method_3_code 12 = .ok (.iload_n 2, 1) := by decide +kernel
theorem d_T_replace_13 : decode prog_8_method_3_code 13 = .ok (.iload_n 1, 1) := by decide +kernel
theorem d_T_replace_14 : decode prog_8_method_3_code 14 = .ok (.isub, 1) := by decide +kernel
theorem d_T_replace_15 : decode prog_8_method_3_code 15 = .ok (.isub, 1) := by decide +kernel
theorem d_T_replace_16 : decode prog_8_method_3_code 16 = .ok (.iload 5, 2) := by decide +kernel
theorem d_T_replace_18 : decode prog_8_method_3_code 18 = .ok (.iadd, 1) := by decide +kernel
theorem d_T_replace_19 : decode prog_8_method_3_code 19 = .ok (.istore 6, 2) := by decide +kernel
theorem d_T_replace_21 : decode prog_8_method_3_code 21 = .ok (.iload 6, 2) := by decide +kernel
theorem d_T_replace_23 : decode prog_8_method_3_code 23 = .ok (.bipush 60, 2) := by decide +kernel
theorem d_T_replace_25 : decode prog_8_method_3_code 25 = .ok (.if_icmp .le 5, 3) := by decide +kernel
theorem d_T_replace_28 : decode prog_8_method_3_code 28 = .ok (.iconst 0, 1) := by decide +kernel
theorem d_T_replace_29 : decode prog_8_method_3_code 29 = .ok (.ireturn, 1) := by decide +kernel
theorem d_T_replace_30 : decode prog_8_method_3_code 30 = .ok (.aload_n 0, 1) := by decide +kernel
theorem d_T_replace_31 : decode prog_8_method_3_code 31 = .ok (.getfield 11, 3) := by decide +kernel
theorem d_T_replace_34 : decode prog_8_method_3_code 34 = .ok (.iload_n 2, 1) := by decide +kernel
theorem d_T_replace_35 : decode prog_8_method_3_code 35 = .ok (.aload_n 0, 1) := by decide +kernel
theorem d_T_replace_36 : decode prog_8_method_3_code 36 = .ok (.getfield 11, 3) := by decide +kernel
theorem d_T_replace_39 : decode prog_8_method_3_code 39 = .ok (.iload_n 1, 1) := by decide +kernel
theorem d_T_replace_40 : decode prog_8_method_3_code 40 = .ok (.iload 5, 2) := by decide +kernel
theorem d_T_replace_42 : decode prog_8_method_3_code 42 = .ok (.iadd, 1) := by decide +kernel
theorem d_T_replace_43 : decode prog_8_method_3_code 43 = .ok (.aload_n 0, 1) := by decide +kernel
theorem d_T_replace_44 : decode prog_8_method_3_code 44 = .ok (.getfield 15, 3) := by decide +kernel
theorem d_T_replace_47 : decode prog_8_method_3_code 47 = .ok (.iload_n 2, 1) := by decide +kernel
theorem d_T_replace_48 : decode prog_8_method_3_code 48 = .ok (.isub, 1) := by decide +kernel
theorem d_T_replace_49 : decode prog_8_method_3_code 49 = .ok (.invokestatic 19, 3) := by decide +kernel
theorem d_T_replace_52 : decode prog_8_method_3_code 52 = .ok (.iconst 0, 1) := by decide +kernel
theorem d_T_replace_53 : decode prog_8_method_3_code 53 = .ok (.istore 7, 2) := by decide +kernel
theorem d_T_replace_55 : decode prog_8_method_3_code 55 = .ok (.iload 7, 2) := by decide +kernel
theorem d_T_replace_57 : decode prog_8_method_3_code 57 = .ok (.iload 5, 2) := by decide +kernel
theorem d_T_replace_59 : decode prog_8_method_3_code 59 = .ok (.if_icmp .ge 26, 3) := by decide +kernel
theorem d_T_replace_62 : decode prog_8_method_3_code 62 = .ok (.aload_n 0, 1) := by decide +kernel
theorem d_T_replace_63 : decode prog_8_method_3_code 63 = .ok (.getfield 11, 3) := by decide +kernel
theorem d_T_replace_66 : decode prog_8_method_3_code 66 = .ok (.iload_n 1, 1) := by decide +kernel
theorem d_T_replace_67 : decode prog_8_method_3_code 67 = .ok (.iload 7, 2) := by decide +kernel
theorem d_T_replace_69 : decode prog_8_method_3_code 69 = .ok (.iadd, 1) := by decide +kernel
theorem d_T_replace_70 : decode prog_8_method_3_code 70 = .ok (.aload_n 3, 1) := by decide +kernel
theorem d_T_replace_71 : decode prog_8_method_3_code 71 = .ok (.iload 4, 2) := by decide +kernel
theorem d_T_replace_73 : decode prog_8_method_3_code 73 = .ok (.iload 7, 2) := by decide +kernel
theorem d_T_replace_75 : decode prog_8_method_3_code 75 = .ok (.invokevirtual 31, 3) := by decide +kernel
theorem d_T_replace_78 : decode prog_8_method_3_code 78 = .ok (.castore, 1) := by decide +kernel
theorem d_T_replace_79 : decode prog_8_method_3_code 79 = .ok (.iinc 7 1, 3) := by decide +kernel
theorem d_T_replace_82 : decode prog_8_method_3_code 82 = .ok (.goto (-27), 3) := by decide +kernel
theorem d_T_replace_85 : decode prog_8_method_3_code 85 = .ok (.aload_n 0, 1) := by decide +kernel
theorem d_T_replace_86 : decode prog_8_method_3_code 86 = .ok (.iload 6, 2) := by decide +kernel
theorem d_T_replace_88 : decode prog_8_method_3_code 88 = .ok (.putfield 15, 3) := by decide +kernel
theorem d_T_replace_91 : decode prog_8_method_3_code 91 = .ok (.iconst 1, 1) := by decide +kernel
theorem d_T_replace_92 : decode prog_8_method_3_code 92 = .ok (.ireturn, 1) := by decide +kernel
set_option maxHeartbeats 4000000 in
set_option maxRecDepth 100000 in
theorem cT_replace (l : Launch) (dC : Nat → ClassId) (dI : Nat → Nat → Nat) (tk : Nat → ClassId) (A : Nat → Prop) (hT : Nat) (LT : Nat → Nat) (gT : aG) (aT : aA) (hV : Nat) (LV : Nat → Nat) (gV : aG) (aV : aA) (rw : va_W) (n : Nat) (v1 : Int32) (v2 : Int32) (v4 : Int32) (r0 : Int32) (ogT : aG) (oaT : aA) (hm : mT_replace n v1 v2 v4 gT aT gV aV = some (r0, ogT, oaT)) : CtI l dC dI tk A ⟨"EditorServer$Text", "replace", "(IILEditorServer$Values;I)Z"⟩ prog_8_method_3_code 8 (some .boolean) 1 60 [.ref hT, .int v1, .int v2, .ref hV, .int v4] (oW 6 hT ksT spT tk LT gT aT (oW 3 hV ksV spV tk LV gV aV rw)) r0 (oW 6 hT ksT spT tk LT ogT oaT (oW 3 hV ksV spV tk LV gV aV rw)) := by
  refine ent (by decide) (Nat.le_of_ble_eq_true rfl) ?_
  intro p e s m args below meth c hx hb hr hml hown hlk hG hg hst ls hl
  unfold mT_replace at hm
  have hl : lv_has ls 8 [(0, .ref hT), (1, .int v1), (2, .int v2), (3, .ref hV), (4, .int v4)] := hl
  refine lv_aload_n hx hb d_T_replace_0 rfl (lv_at hl 3 rfl) ?_
  refine lv_iload hx hb d_T_replace_1 (lv_at hl 4 rfl) ?_
  obtain ⟨x1, hc2, hm⟩ := bd_u hm
  have hst := fr1 hst
  refine cl_vi hx hb hml hown hG hg (cV_sizeOf l dC dI tk A hV LV gV aV (oW 6 hT ksT spT tk LT gT aT rw) n v4 _ hc2) (cw_v 1 hG k_588 k_504 k_505 k_3 k_506 (by decide +kernel) ⟨by decide, by decide⟩) hst rfl oW_0 rfl hl.1 rfl (Nat.le_of_ble_eq_true rfl) ⟨Nat.le_refl 0, Nat.le_refl 0⟩ d_T_replace_3 (fun H locs hst => ?_)
  refine lv_istore (lv' := [(5, .int x1), (0, .ref hT), (1, .int v1), (2, .int v2), (3, .ref hV), (4, .int v4)]) hx hb d_T_replace_6 hl (by decide) rfl (fun ls hl => ?_)
  refine lv_aload_n hx hb d_T_replace_8 rfl (lv_at hl 1 rfl) ?_
  have hst := fr1 hst
  refine ro_geti hx hb hown hG hg cT hst 1 (by decide) rfl rfl k_127 d_T_replace_9 ?_
  refine lv_iload_n hx hb d_T_replace_12 rfl (lv_at hl 3 rfl) ?_
  refine lv_iload_n hx hb d_T_replace_13 rfl (lv_at hl 2 rfl) ?_
  refine lv_isub hx hb d_T_replace_14 ?_
  refine lv_isub hx hb d_T_replace_15 ?_
  refine lv_iload hx hb d_T_replace_16 (lv_at hl 0 rfl) ?_
  refine lv_iadd hx hb d_T_replace_18 ?_
  refine lv_topi (fun x4 ex4 => ?_)
  have hm := lt_u hm x4 ex4
  refine lv_istore (lv' := [(6, .int x4), (5, .int x1), (0, .ref hT), (1, .int v1), (2, .int v2), (3, .ref hV), (4, .int v4)]) hx hb d_T_replace_19 hl (by decide) rfl (fun ls hl => ?_)
  refine lv_iload hx hb d_T_replace_21 (lv_at hl 0 rfl) ?_
  refine lv_bipush (v := 60) hx hb d_T_replace_23 (by decide) ?_
  refine lv_icmp_le (tgt := 30) hx hb d_T_replace_25 (by decide) (fun h5 => ?_) (fun h5 => ?_)
  · have hm := it_t hm h5
    refine lv_aload_n hx hb d_T_replace_30 rfl (lv_at hl 2 rfl) ?_
    refine ro_geta hx hb hown hG hg cT hst 0 0 (by decide) rfl rfl k_125 d_T_replace_31 ?_
    refine lv_iload_n hx hb d_T_replace_34 rfl (lv_at hl 4 rfl) ?_
    refine lv_aload_n hx hb d_T_replace_35 rfl (lv_at hl 2 rfl) ?_
    refine ro_geta hx hb hown hG hg cT hst 0 0 (by decide) rfl rfl k_125 d_T_replace_36 ?_
    refine lv_iload_n hx hb d_T_replace_39 rfl (lv_at hl 3 rfl) ?_
    refine lv_iload hx hb d_T_replace_40 (lv_at hl 1 rfl) ?_
    refine lv_iadd hx hb d_T_replace_42 ?_
    refine lv_aload_n hx hb d_T_replace_43 rfl (lv_at hl 2 rfl) ?_
    refine ro_geti hx hb hown hG hg cT hst 1 (by decide) rfl rfl k_127 d_T_replace_44 ?_
    refine lv_iload_n hx hb d_T_replace_47 rfl (lv_at hl 4 rfl) ?_
    refine lv_isub hx hb d_T_replace_48 ?_
    obtain ⟨hn6, hm⟩ := gd_u hm
    obtain ⟨hn7, hm⟩ := gd_u hm
    refine ro_cpy1 hx hb (hml.trans hl.1.symm) hown hG hg hst 0 0 rfl rfl hn6 hn7 k_541 (Nat.le_of_ble_eq_true rfl) (Nat.le_of_ble_eq_true rfl) d_T_replace_49 (fun a8 H locs ea8 hst => ?_)
    have hm := lt_u hm a8 ea8
    refine lv_iconst (v := 0) hx hb d_T_replace_52 (by decide) ?_
    refine lv_istore (lv' := [(7, .int 0), (6, .int x4), (5, .int x1), (0, .ref hT), (1, .int v1), (2, .int v2), (3, .ref hV), (4, .int v4)]) hx hb d_T_replace_53 hl (by decide) rfl (fun ls hl => ?_)
    refine lp_u (fun q11 : Int32 × aA => ∀ (H : Heap) (locs : List Loc) (ls : Array Slot), lv_has ls 8 [(0, .ref hT), (1, .int v1), (2, .int v2), (3, .ref hV), (4, .int v4), (5, .int x1), (6, .int x4), (7, .int q11.1)] → St dC dI A s.heap H locs (oW 6 hT ksT spT tk LT gT q11.2 (oW 3 hV ksV spV tk LV gV aV rw)) → W p l e (rmo 1 60) s m args below meth c H locs 0 0 (MQ below (QI dC dI A r0 (oW 6 hT ksT spT tk LT ogT oaT (oW 3 hV ksV spV tk LV gV aV rw))) args s 0 0 A) (F0 m 55 ls [])) ?_ n (0, a8) hm _ _ _ (lv_sub hl [3, 4, 5, 6, 7, 2, 1, 0] rfl) hst
    rintro ⟨x9, a10⟩ r14 hm hJ120 hR13 H locs ls hl hst
    dsimp only at hm hl hst ⊢
    have hJ12 := fun y0 y1 (e : r14 = .inl (y0, y1)) => hJ120 (y0, y1) e
    dsimp only at hJ12
    refine lv_iload hx hb d_T_replace_55 (lv_at hl 7 rfl) ?_
    refine lv_iload hx hb d_T_replace_57 (lv_at hl 5 rfl) ?_
    refine lv_icmp_ge (tgt := 85) hx hb d_T_replace_59 (by decide) (fun h15 => ?_) (fun h15 => ?_)
    · have hm := it_t hm h15
      refine lv_aload_n hx hb d_T_replace_85 rfl (lv_at hl 0 rfl) ?_
      refine lv_iload hx hb d_T_replace_86 (lv_at hl 6 rfl) ?_
      refine ro_puti hx hb hown hG hg cT hst 1 (by decide) rfl rfl rfl rfl rfl k_127 d_T_replace_88 (fun g16 H locs eg16 hst => ?_)
      have hm := lt_u hm g16 eg16
      refine lv_iconst (v := 1) hx hb d_T_replace_91 (by decide) ?_
      have he := (hR13 _ (Option.some.inj hm).symm)
      cases he
      exact rt_i hx hb hr hlk (by decide) hst rfl d_T_replace_92
    · have hm := it_f hm h15
      refine lv_aload_n hx hb d_T_replace_62 rfl (lv_at hl 0 rfl) ?_
      refine ro_geta hx hb hown hG hg cT hst 0 0 (by decide) rfl rfl k_125 d_T_replace_63 ?_
      refine lv_iload_n hx hb d_T_replace_66 rfl (lv_at hl 1 rfl) ?_
      refine lv_iload hx hb d_T_replace_67 (lv_at hl 7 rfl) ?_
      refine lv_iadd hx hb d_T_replace_69 ?_
      refine lv_aload_n hx hb d_T_replace_70 rfl (lv_at hl 3 rfl) ?_
      refine lv_iload hx hb d_T_replace_71 (lv_at hl 4 rfl) ?_
      refine lv_iload hx hb d_T_replace_73 (lv_at hl 7 rfl) ?_
      obtain ⟨x17, hc18, hm⟩ := bd_u hm
      have hst := fr1 hst
      refine cl_vi hx hb hml hown hG hg (cV_letterOf l dC dI tk A hV LV gV aV (oW 6 hT ksT spT tk LT gT a10 rw) n v4 x9 _ hc18) (cw_v 2 hG k_589 k_521 k_522 k_3 k_523 (by decide +kernel) ⟨by decide, by decide⟩) hst rfl oW_0 rfl hl.1 rfl (Nat.le_of_ble_eq_true rfl) ⟨Nat.le_refl 0, Nat.le_refl 0⟩ d_T_replace_75 (fun H locs hst => ?_)
      have hst := fr1 hst
      obtain ⟨hn20, hm⟩ := gd_u hm
      refine ro_cast hx hb hg hst 0 rfl hn20 d_T_replace_78 (fun a21 H locs ea21 hst => ?_)
      have hm := lt_u hm a21 ea21
      refine lv_iinc (k := 7) (v := (x9 + 1)) (lv' := [(7, .int (x9 + 1)), (0, .ref hT), (1, .int v1), (2, .int v2), (3, .ref hV), (4, .int v4), (5, .int x1), (6, .int x4)]) hx hb d_T_replace_79 hl rfl (by rfl) (by decide) rfl (fun ls hl => ?_)
      refine lv_goto (tgt := 55) hx hb d_T_replace_82 (by decide) ?_
      exact hJ12 (x9 + 1) a21 (Option.some.inj hm).symm _ _ _ (lv_sub hl [1, 2, 3, 4, 5, 6, 7, 0] rfl) hst
  · have hm := it_f hm h5
    refine lv_iconst (v := 0) hx hb d_T_replace_28 (by decide) ?_
    have he := (Option.some.inj hm)
    cases he
    exact rt_i hx hb hr hlk (by decide) hst rfl d_T_replace_29
def mT_lineCount (n : Nat) (gT : aG) (aT : aA) : Option (Int32) := lp (ε := Int32 × Int32) (fun q3 => if (gT 1) ≤ q3.2 then (some (.inr (q3.1))) else (gd (inb q3.2 60) (lt (aT 0 q3.2.toNatClampNeg) (fun x9 => if x9 = 10 then (some (.inl ((q3.1 + 1), (q3.2 + 1)))) else (some (.inl (q3.1, (q3.2 + 1)))))))) n (1, 0)
theorem d_T_lineCount_0 : decode prog_8_method_4_code 0 = .ok (.iconst 1, 1) := by decide +kernel
theorem d_T_lineCount_1 : decode prog_8_method_4_code 1 = .ok (.istore_n 1, 1) := by decide +kernel
theorem d_T_lineCount_2 : decode prog_8_method_4_code 2 = .ok (.iconst 0, 1) := by decide +kernel
theorem d_T_lineCount_3 : decode prog_8_method_4_code 3 = .ok (.istore_n 2, 1) := by decide +kernel
theorem d_T_lineCount_4 : decode prog_8_method_4_code 4 = .ok (.iload_n 2, 1) := by decide +kernel
theorem d_T_lineCount_5 : decode prog_8_method_4_code 5 = .ok (.aload_n 0, 1) := by decide +kernel
theorem d_T_lineCount_6 : decode prog_8_method_4_code 6 = .ok (.getfield 15, 3) := by decide +kernel
theorem d_T_lineCount_9 : decode prog_8_method_4_code 9 = .ok (.if_icmp .ge 23, 3) := by decide +kernel
theorem d_T_lineCount_12 : decode prog_8_method_4_code 12 = .ok (.aload_n 0, 1) := by decide +kernel
theorem d_T_lineCount_13 : decode prog_8_method_4_code 13 = .ok (.getfield 11, 3) := by decide +kernel
theorem d_T_lineCount_16 : decode prog_8_method_4_code 16 = .ok (.iload_n 2, 1) := by decide +kernel
theorem d_T_lineCount_17 : decode prog_8_method_4_code 17 = .ok (.caload, 1) := by decide +kernel
theorem d_T_lineCount_18 : decode prog_8_method_4_code 18 = .ok (.bipush 10, 2) := by decide +kernel
theorem d_T_lineCount_20 : decode prog_8_method_4_code 20 = .ok (.if_icmp .ne 6, 3) := by decide +kernel
theorem d_T_lineCount_23 : decode prog_8_method_4_code 23 = .ok (.iinc 1 1, 3) := by decide +kernel
theorem d_T_lineCount_26 : decode prog_8_method_4_code 26 = .ok (.iinc 2 1, 3) := by decide +kernel
theorem d_T_lineCount_29 : decode prog_8_method_4_code 29 = .ok (.goto (-25), 3) := by decide +kernel
theorem d_T_lineCount_32 : decode prog_8_method_4_code 32 = .ok (.iload_n 1, 1) := by decide +kernel
theorem d_T_lineCount_33 : decode prog_8_method_4_code 33 = .ok (.ireturn, 1) := by decide +kernel
set_option maxHeartbeats 4000000 in
set_option maxRecDepth 100000 in
theorem cT_lineCount (l : Launch) (dC : Nat → ClassId) (dI : Nat → Nat → Nat) (tk : Nat → ClassId) (A : Nat → Prop) (hT : Nat) (LT : Nat → Nat) (gT : aG) (aT : aA) (rw : va_W) (n : Nat) (r0 : Int32) (hm : mT_lineCount n gT aT = some r0) : CtI l dC dI tk A ⟨"EditorServer$Text", "lineCount", "()I"⟩ prog_8_method_4_code 3 (some .int) 0 0 [.ref hT] (oW 6 hT ksT spT tk LT gT aT rw) r0 (oW 6 hT ksT spT tk LT gT aT rw) := by
  refine ent (by decide) (Nat.le_of_ble_eq_true rfl) ?_
  intro p e s m args below meth c hx hb hr hml hown hlk hG hg hst ls hl
  unfold mT_lineCount at hm
  have hl : lv_has ls 3 [(0, .ref hT)] := hl
  refine lv_iconst (v := 1) hx hb d_T_lineCount_0 (by decide) ?_
  refine lv_istore_n (lv' := [(1, .int 1), (0, .ref hT)]) hx hb d_T_lineCount_1 rfl hl (by decide) rfl (fun ls hl => ?_)
  refine lv_iconst (v := 0) hx hb d_T_lineCount_2 (by decide) ?_
  refine lv_istore_n (lv' := [(2, .int 0), (1, .int 1), (0, .ref hT)]) hx hb d_T_lineCount_3 rfl hl (by decide) rfl (fun ls hl => ?_)
  refine lp_u (fun q3 : Int32 × Int32 => ∀ (H : Heap) (locs : List Loc) (ls : Array Slot), lv_has ls 3 [(0, .ref hT), (1, .int q3.1), (2, .int q3.2)] → St dC dI A s.heap H locs (oW 6 hT ksT spT tk LT gT aT rw) → W p l e (rmo 0 0) s m args below meth c H locs 0 0 (MQ below (QI dC dI A r0 (oW 6 hT ksT spT tk LT gT aT rw)) args s 0 0 A) (F0 m 4 ls [])) ?_ n (1, 0) hm _ _ _ (lv_sub hl [2, 1, 0] rfl) hst
  rintro ⟨x1, x2⟩ r6 hm hJ40 hR5 H locs ls hl hst
  dsimp only at hm hl hst ⊢
  have hJ4 := fun y0 y1 (e : r6 = .inl (y0, y1)) => hJ40 (y0, y1) e
  dsimp only at hJ4
  refine lv_iload_n hx hb d_T_lineCount_4 rfl (lv_at hl 2 rfl) ?_
  refine lv_aload_n hx hb d_T_lineCount_5 rfl (lv_at hl 0 rfl) ?_
  refine ro_geti hx hb hown hG hg cT hst 1 (by decide) rfl rfl k_127 d_T_lineCount_6 ?_
  refine lv_icmp_ge (tgt := 32) hx hb d_T_lineCount_9 (by decide) (fun h7 => ?_) (fun h7 => ?_)
  · have hm := it_t hm h7
    refine lv_iload_n hx hb d_T_lineCount_32 rfl (lv_at hl 1 rfl) ?_
    have he := (hR5 _ (Option.some.inj hm).symm)
    cases he
    exact rt_i hx hb hr hlk rfl hst rfl d_T_lineCount_33
  · have hm := it_f hm h7
    refine lv_aload_n hx hb d_T_lineCount_12 rfl (lv_at hl 0 rfl) ?_
    refine ro_geta hx hb hown hG hg cT hst 0 0 (by decide) rfl rfl k_125 d_T_lineCount_13 ?_
    refine lv_iload_n hx hb d_T_lineCount_16 rfl (lv_at hl 2 rfl) ?_
    obtain ⟨hn8, hm⟩ := gd_u hm
    refine ro_cald hx hb hg hst 0 rfl hn8 d_T_lineCount_17 ?_
    refine lv_topi (fun x9 ex9 => ?_)
    have hm := lt_u hm x9 ex9
    refine lv_bipush (v := 10) hx hb d_T_lineCount_18 (by decide) ?_
    refine lv_icmp_ne (tgt := 26) hx hb d_T_lineCount_20 (by decide) (fun h10 => ?_) (fun h10 => ?_)
    · have hm := it_f hm h10
      refine lv_iinc (k := 2) (v := (x2 + 1)) (lv' := [(2, .int (x2 + 1)), (0, .ref hT), (1, .int x1)]) hx hb d_T_lineCount_26 hl rfl (by rfl) (by decide) rfl (fun ls hl => ?_)
      refine lv_goto (tgt := 4) hx hb d_T_lineCount_29 (by decide) ?_
      exact hJ4 x1 (x2 + 1) (Option.some.inj hm).symm _ _ _ (lv_sub hl [1, 2, 0] rfl) hst
    · have hm := it_t hm h10
      refine lv_iinc (k := 1) (v := (x1 + 1)) (lv' := [(1, .int (x1 + 1)), (0, .ref hT), (2, .int x2)]) hx hb d_T_lineCount_23 hl rfl (by rfl) (by decide) rfl (fun ls hl => ?_)
      refine lv_iinc (k := 2) (v := (x2 + 1)) (lv' := [(2, .int (x2 + 1)), (1, .int (x1 + 1)), (0, .ref hT)]) hx hb d_T_lineCount_26 hl rfl (by rfl) (by decide) rfl (fun ls hl => ?_)
      refine lv_goto (tgt := 4) hx hb d_T_lineCount_29 (by decide) ?_
      exact hJ4 (x1 + 1) (x2 + 1) (Option.some.inj hm).symm _ _ _ (lv_sub hl [2, 1, 0] rfl) hst
def mT_startOf (n : Nat) (v1 : Int32) (gT : aG) (aT : aA) : Option (Int32) := lp (ε := Int32 × Int32) (fun q3 => if (gT 1) ≤ q3.1 then (some (.inr (q3.1))) else (if q3.2 ≤ 0 then (some (.inr (q3.1))) else (gd (inb q3.1 60) (lt (aT 0 q3.1.toNatClampNeg) (fun x10 => if x10 = 10 then (some (.inl ((q3.1 + 1), (q3.2 + (-1))))) else (some (.inl ((q3.1 + 1), q3.2)))))))) n (0, v1)
theorem d_T_startOf_0 : decode prog_8_method_6_code 0 = .ok (.iconst 0, 1) := by decide +kernel
theorem d_T_startOf_1 : decode prog_8_method_6_code 1 = .ok (.istore_n 2, 1) := by decide +kernel
theorem d_T_startOf_2 : decode prog_8_method_6_code 2 = .ok (.iload_n 1, 1) := by decide +kernel
theorem d_T_startOf_3 : decode prog_8_method_6_code 3 = .ok (.istore_n 3, 1) := by decide +kernel
theorem d_T_startOf_4 : decode prog_8_method_6_code 4 = .ok (.iload_n 2, 1) := by decide +kernel
theorem d_T_startOf_5 : decode prog_8_method_6_code 5 = .ok (.aload_n 0, 1) := by decide +kernel
theorem d_T_startOf_6 : decode prog_8_method_6_code 6 = .ok (.getfield 15, 3) := by decide +kernel
theorem d_T_startOf_9 : decode prog_8_method_6_code 9 = .ok (.if_icmp .ge 27, 3) := by decide +kernel
theorem d_T_startOf_12 : decode prog_8_method_6_code 12 = .ok (.iload_n 3, 1) := by decide +kernel
theorem d_T_startOf_13 : decode prog_8_method_6_code 13 = .ok (.ifCond .le 23, 3) := by decide +kernel
theorem d_T_startOf_16 : decode prog_8_method_6_code 16 = .ok (.aload_n 0, 1) := by decide +kernel
theorem d_T_startOf_17 : decode prog_8_method_6_code 17 = .ok (.getfield 11, 3) := by decide +kernel
theorem d_T_startOf_20 : decode prog_8_method_6_code 20 = .ok (.iload_n 2, 1) := by decide +kernel
theorem d_T_startOf_21 : decode prog_8_method_6_code 21 = .ok (.caload, 1) := by decide +kernel
theorem d_T_startOf_22 : decode prog_8_method_6_code 22 = .ok (.bipush 10, 2) := by decide +kernel
theorem d_T_startOf_24 : decode prog_8_method_6_code 24 = .ok (.if_icmp .ne 6, 3) := by decide +kernel
theorem d_T_startOf_27 : decode prog_8_method_6_code 27 = .ok (.iinc 3 (-1), 3) := by decide +kernel
theorem d_T_startOf_30 : decode prog_8_method_6_code 30 = .ok (.iinc 2 1, 3) := by decide +kernel
theorem d_T_startOf_33 : decode prog_8_method_6_code 33 = .ok (.goto (-29), 3) := by decide +kernel
theorem d_T_startOf_36 : decode prog_8_method_6_code 36 = .ok (.iload_n 2, 1) := by decide +kernel
theorem d_T_startOf_37 : decode prog_8_method_6_code 37 = .ok (.ireturn, 1) := by decide +kernel
set_option maxHeartbeats 4000000 in
set_option maxRecDepth 100000 in
theorem cT_startOf (l : Launch) (dC : Nat → ClassId) (dI : Nat → Nat → Nat) (tk : Nat → ClassId) (A : Nat → Prop) (hT : Nat) (LT : Nat → Nat) (gT : aG) (aT : aA) (rw : va_W) (n : Nat) (v1 : Int32) (r0 : Int32) (hm : mT_startOf n v1 gT aT = some r0) : CtI l dC dI tk A ⟨"EditorServer$Text", "startOf", "(I)I"⟩ prog_8_method_6_code 4 (some .int) 0 0 [.ref hT, .int v1] (oW 6 hT ksT spT tk LT gT aT rw) r0 (oW 6 hT ksT spT tk LT gT aT rw) := by
  refine ent (by decide) (Nat.le_of_ble_eq_true rfl) ?_
  intro p e s m args below meth c hx hb hr hml hown hlk hG hg hst ls hl
  unfold mT_startOf at hm
  have hl : lv_has ls 4 [(0, .ref hT), (1, .int v1)] := hl
  refine lv_iconst (v := 0) hx hb d_T_startOf_0 (by decide) ?_
  refine lv_istore_n (lv' := [(2, .int 0), (0, .ref hT), (1, .int v1)]) hx hb d_T_startOf_1 rfl hl (by decide) rfl (fun ls hl => ?_)
  refine lv_iload_n hx hb d_T_startOf_2 rfl (lv_at hl 2 rfl) ?_
  refine lv_istore_n (lv' := [(3, .int v1), (2, .int 0), (0, .ref hT), (1, .int v1)]) hx hb d_T_startOf_3 rfl hl (by decide) rfl (fun ls hl => ?_)
  refine lp_u (fun q3 : Int32 × Int32 => ∀ (H : Heap) (locs : List Loc) (ls : Array Slot), lv_has ls 4 [(0, .ref hT), (1, .int v1), (2, .int q3.1), (3, .int q3.2)] → St dC dI A s.heap H locs (oW 6 hT ksT spT tk LT gT aT rw) → W p l e (rmo 0 0) s m args below meth c H locs 0 0 (MQ below (QI dC dI A r0 (oW 6 hT ksT spT tk LT gT aT rw)) args s 0 0 A) (F0 m 4 ls [])) ?_ n (0, v1) hm _ _ _ (lv_sub hl [2, 3, 1, 0] rfl) hst
  rintro ⟨x1, x2⟩ r6 hm hJ40 hR5 H locs ls hl hst
  dsimp only at hm hl hst ⊢
  have hJ4 := fun y0 y1 (e : r6 = .inl (y0, y1)) => hJ40 (y0, y1) e
  dsimp only at hJ4
  refine lv_iload_n hx hb d_T_startOf_4 rfl (lv_at hl 2 rfl) ?_
  refine lv_aload_n hx hb d_T_startOf_5 rfl (lv_at hl 0 rfl) ?_
  refine ro_geti hx hb hown hG hg cT hst 1 (by decide) rfl rfl k_127 d_T_startOf_6 ?_
  refine lv_icmp_ge (tgt := 36) hx hb d_T_startOf_9 (by decide) (fun h7 => ?_) (fun h7 => ?_)
  · have hm := it_t hm h7
    refine lv_iload_n hx hb d_T_startOf_36 rfl (lv_at hl 2 rfl) ?_
    have he := (hR5 _ (Option.some.inj hm).symm)
    cases he
    exact rt_i hx hb hr hlk rfl hst rfl d_T_startOf_37
  · have hm := it_f hm h7
    refine lv_iload_n hx hb d_T_startOf_12 rfl (lv_at hl 3 rfl) ?_
    refine lv_if_le (tgt := 36) hx hb d_T_startOf_13 (by decide) (fun h8 => ?_) (fun h8 => ?_)
    · have hm := it_t hm h8
      refine lv_iload_n hx hb d_T_startOf_36 rfl (lv_at hl 2 rfl) ?_
      have he := (hR5 _ (Option.some.inj hm).symm)
      cases he
      exact rt_i hx hb hr hlk rfl hst rfl d_T_startOf_37
    · have hm := it_f hm h8
      refine lv_aload_n hx hb d_T_startOf_16 rfl (lv_at hl 0 rfl) ?_
      refine ro_geta hx hb hown hG hg cT hst 0 0 (by decide) rfl rfl k_125 d_T_startOf_17 ?_
      refine lv_iload_n hx hb d_T_startOf_20 rfl (lv_at hl 2 rfl) ?_
      obtain ⟨hn9, hm⟩ := gd_u hm
      refine ro_cald hx hb hg hst 0 rfl hn9 d_T_startOf_21 ?_
      refine lv_topi (fun x10 ex10 => ?_)
      have hm := lt_u hm x10 ex10
      refine lv_bipush (v := 10) hx hb d_T_startOf_22 (by decide) ?_
      refine lv_icmp_ne (tgt := 30) hx hb d_T_startOf_24 (by decide) (fun h11 => ?_) (fun h11 => ?_)
      · have hm := it_f hm h11
        refine lv_iinc (k := 2) (v := (x1 + 1)) (lv' := [(2, .int (x1 + 1)), (0, .ref hT), (1, .int v1), (3, .int x2)]) hx hb d_T_startOf_30 hl rfl (by rfl) (by decide) rfl (fun ls hl => ?_)
        refine lv_goto (tgt := 4) hx hb d_T_startOf_33 (by decide) ?_
        exact hJ4 (x1 + 1) x2 (Option.some.inj hm).symm _ _ _ (lv_sub hl [1, 2, 0, 3] rfl) hst
      · have hm := it_t hm h11
        refine lv_iinc (k := 3) (v := (x2 + (-1))) (lv' := [(3, .int (x2 + (-1))), (0, .ref hT), (1, .int v1), (2, .int x1)]) hx hb d_T_startOf_27 hl rfl (by rfl) (by decide) rfl (fun ls hl => ?_)
        refine lv_iinc (k := 3) (v := (x1 + 1)) (lv' := [(2, .int (x1 + 1)), (3, .int (x2 + (-1))), (0, .ref hT), (1, .int v1)]) hx hb d_T_startOf_30 hl rfl (by rfl) (by decide) rfl (fun ls hl => ?_)
        refine lv_goto (tgt := 4) hx hb d_T_startOf_33 (by decide) ?_
        exact hJ4 (x1 + 1) (x2 + (-1)) (Option.some.inj hm).symm _ _ _ (lv_sub hl [2, 3, 0, 1] rfl) hst
def mT_widthOf (n : Nat) (v0 : Int32) : Option (Int32) := if v0 = 126 then (some (2)) else (some (1))
theorem d_T_widthOf_0 : decode prog_8_method_7_code 0 = .ok (.iload_n 0, 1) := by decide +kernel
theorem d_T_widthOf_1 : decode prog_8_method_7_code 1 = .ok (.bipush 126, 2) := by decide +kernel
theorem d_T_widthOf_3 : decode prog_8_method_7_code 3 = .ok (.if_icmp .ne 7, 3) := by decide +kernel
theorem d_T_widthOf_6 : decode prog_8_method_7_code 6 = .ok (.iconst 2, 1) := by decide +kernel
theorem d_T_widthOf_7 : decode prog_8_method_7_code 7 = .ok (.goto 4, 3) := by decide +kernel
theorem d_T_widthOf_10 : decode prog_8_method_7_code 10 = .ok (.iconst 1, 1) := by decide +kernel
theorem d_T_widthOf_11 : decode prog_8_method_7_code 11 = .ok (.ireturn, 1) := by decide +kernel
set_option maxHeartbeats 4000000 in
set_option maxRecDepth 100000 in
theorem cT_widthOf (l : Launch) (dC : Nat → ClassId) (dI : Nat → Nat → Nat) (tk : Nat → ClassId) (A : Nat → Prop) (ws : va_W) (n : Nat) (v0 : Int32) (r0 : Int32) (hm : mT_widthOf n v0 = some r0) : CtI l dC dI tk A ⟨"EditorServer$Text", "widthOf", "(C)I"⟩ prog_8_method_7_code 1 (some .int) 0 0 [.int v0] ws r0 ws := by
  refine ent (by decide) (Nat.le_of_ble_eq_true rfl) ?_
  intro p e s m args below meth c hx hb hr hml hown hlk hG hg hst ls hl
  unfold mT_widthOf at hm
  have hl : lv_has ls 1 [(0, .int v0)] := hl
  refine lv_iload_n hx hb d_T_widthOf_0 rfl (lv_at hl 0 rfl) ?_
  refine lv_bipush (v := 126) hx hb d_T_widthOf_1 (by decide) ?_
  refine lv_icmp_ne (tgt := 10) hx hb d_T_widthOf_3 (by decide) (fun h1 => ?_) (fun h1 => ?_)
  · have hm := it_f hm h1
    refine lv_iconst (v := 1) hx hb d_T_widthOf_10 (by decide) ?_
    have he := (Option.some.inj hm)
    cases he
    exact rt_i hx hb hr hlk rfl hst rfl d_T_widthOf_11
  · have hm := it_t hm h1
    refine lv_iconst (v := 2) hx hb d_T_widthOf_6 (by decide) ?_
    refine lv_goto (tgt := 11) hx hb d_T_widthOf_7 (by decide) ?_
    have he := (Option.some.inj hm)
    cases he
    exact rt_i hx hb hr hlk rfl hst rfl d_T_widthOf_11
def mT_placeOf (n : Nat) (v1 : Int32) (v2 : Int32) (gT : aG) (aT : aA) : Option (Int32) := if 0 ≤ v1 then (bd (mT_startOf n v1 gT aT) (fun x2 => lp (ε := Int32 × Int32) (fun q7 => if (gT 1) ≤ q7.1 then (some (.inr (q7.1))) else (gd (inb q7.1 60) (lt (aT 0 q7.1.toNatClampNeg) (fun x13 => if x13 = 10 then (some (.inr (q7.1))) else (gd (inb q7.1 60) (lt (aT 0 q7.1.toNatClampNeg) (fun x16 => bd (mT_widthOf n x16) (fun x17 => if q7.2 < x17 then (some (.inr (q7.1))) else (gd (inb q7.1 60) (lt (aT 0 q7.1.toNatClampNeg) (fun x22 => bd (mT_widthOf n x22) (fun x23 => lt ((q7.2 - x23)) (fun x26 => some (.inl ((q7.1 + 1), x26))))))))))))))) n (x2, v2))) else (some (0))
theorem d_T_placeOf_0 : decode prog_8_method_5_code 0 = .ok (.iload_n 1, 1) := by decide +kernel
theorem d_T_placeOf_1 : decode prog_8_method_5_code 1 = .ok (.ifCond .ge 5, 3) := by decide +kernel
theorem d_T_placeOf_4 : decode prog_8_method_5_code 4 = .ok (.iconst 0, 1) := by decide +kernel
theorem d_T_placeOf_5 : decode prog_8_method_5_code 5 = .ok (.ireturn, 1) := by decide +kernel
theorem d_T_placeOf_6 : decode prog_8_method_5_code 6 = .ok (.aload_n 0, 1) := by decide +kernel
theorem d_T_placeOf_7 : decode prog_8_method_5_code 7 = .ok (.iload_n 1, 1) := by decide +kernel
theorem d_T_placeOf_8 : decode prog_8_method_5_code 8 = .ok (.invokevirtual 35, 3) := by decide +kernel
theorem d_T_placeOf_11 : decode prog_8_method_5_code 11 = .ok (.istore_n 3, 1) := by decide +kernel
theorem d_T_placeOf_12 : decode prog_8_method_5_code 12 = .ok (.iload_n 2, 1) := by decide +kernel
theorem d_T_placeOf_13 : decode prog_8_method_5_code 13 = .ok (.istore 4, 2) := by decide +kernel
theorem d_T_placeOf_15 : decode prog_8_method_5_code 15 = .ok (.iload_n 3, 1) := by decide +kernel
theorem d_T_placeOf_16 : decode prog_8_method_5_code 16 = .ok (.aload_n 0, 1) := by decide +kernel
theorem d_T_placeOf_17 : decode prog_8_method_5_code 17 = .ok (.getfield 15, 3) := by decide +kernel
theorem d_T_placeOf_20 : decode prog_8_method_5_code 20 = .ok (.if_icmp .ge 48, 3) := by decide +kernel
theorem d_T_placeOf_23 : decode prog_8_method_5_code 23 = .ok (.aload_n 0, 1) := by decide +kernel
theorem d_T_placeOf_24 : decode prog_8_method_5_code 24 = .ok (.getfield 11, 3) := by decide +kernel
theorem d_T_placeOf_27 : decode prog_8_method_5_code 27 = .ok (.iload_n 3, 1) := by decide +kernel
theorem d_T_placeOf_28 : decode prog_8_method_5_code 28 = .ok (.caload, 1) := by decide +kernel
theorem d_T_placeOf_29 : decode prog_8_method_5_code 29 = .ok (.bipush 10, 2) := by decide +kernel
theorem d_T_placeOf_31 : decode prog_8_method_5_code 31 = .ok (.if_icmp .eq 37, 3) := by decide +kernel
theorem d_T_placeOf_34 : decode prog_8_method_5_code 34 = .ok (.aload_n 0, 1) := by decide +kernel
theorem d_T_placeOf_35 : decode prog_8_method_5_code 35 = .ok (.getfield 11, 3) := by decide +kernel
theorem d_T_placeOf_38 : decode prog_8_method_5_code 38 = .ok (.iload_n 3, 1) := by decide +kernel
theorem d_T_placeOf_39 : decode prog_8_method_5_code 39 = .ok (.caload, 1) := by decide +kernel
theorem d_T_placeOf_40 : decode prog_8_method_5_code 40 = .ok (.invokestatic 38, 3) := by decide +kernel
theorem d_T_placeOf_43 : decode prog_8_method_5_code 43 = .ok (.iload 4, 2) := by decide +kernel
theorem d_T_placeOf_45 : decode prog_8_method_5_code 45 = .ok (.if_icmp .gt 23, 3) := by decide +kernel
theorem d_T_placeOf_48 : decode prog_8_method_5_code 48 = .ok (.iload 4, 2) := by decide +kernel
theorem d_T_placeOf_50 : decode prog_8_method_5_code 50 = .ok (.aload_n 0, 1) := by decide +kernel
theorem d_T_placeOf_51 : decode prog_8_method_5_code 51 = .ok (.getfield 11, 3) := by decide +kernel
theorem d_T_placeOf_54 : decode prog_8_method_5_code 54 = .ok (.iload_n 3, 1) := by decide +kernel
theorem d_T_placeOf_55 : decode prog_8_method_5_code 55 = .ok (.caload, 1) := by decide +kernel
theorem d_T_placeOf_56 : decode prog_8_method_5_code 56 = .ok (.invokestatic 38, 3) := by decide +kernel
theorem d_T_placeOf_59 : decode prog_8_method_5_code 59 = .ok (.isub, 1) := by decide +kernel
theorem d_T_placeOf_60 : decode prog_8_method_5_code 60 = .ok (.istore 4, 2) := by decide +kernel
theorem d_T_placeOf_62 : decode prog_8_method_5_code 62 = .ok (.iinc 3 1, 3) := by decide +kernel
theorem d_T_placeOf_65 : decode prog_8_method_5_code 65 = .ok (.goto (-50), 3) := by decide +kernel
theorem d_T_placeOf_68 : decode prog_8_method_5_code 68 = .ok (.iload_n 3, 1) := by decide +kernel
theorem d_T_placeOf_69 : decode prog_8_method_5_code 69 = .ok (.ireturn, 1) := by decide +kernel
set_option maxHeartbeats 4000000 in
set_option maxRecDepth 100000 in
theorem cT_placeOf (l : Launch) (dC : Nat → ClassId) (dI : Nat → Nat → Nat) (tk : Nat → ClassId) (A : Nat → Prop) (hT : Nat) (LT : Nat → Nat) (gT : aG) (aT : aA) (rw : va_W) (n : Nat) (v1 : Int32) (v2 : Int32) (r0 : Int32) (hm : mT_placeOf n v1 v2 gT aT = some r0) : CtI l dC dI tk A ⟨"EditorServer$Text", "placeOf", "(II)I"⟩ prog_8_method_5_code 5 (some .int) 1 23 [.ref hT, .int v1, .int v2] (oW 6 hT ksT spT tk LT gT aT rw) r0 (oW 6 hT ksT spT tk LT gT aT rw) := by
  refine ent (by decide) (Nat.le_of_ble_eq_true rfl) ?_
  intro p e s m args below meth c hx hb hr hml hown hlk hG hg hst ls hl
  unfold mT_placeOf at hm
  have hl : lv_has ls 5 [(0, .ref hT), (1, .int v1), (2, .int v2)] := hl
  refine lv_iload_n hx hb d_T_placeOf_0 rfl (lv_at hl 1 rfl) ?_
  refine lv_if_ge (tgt := 6) hx hb d_T_placeOf_1 (by decide) (fun h1 => ?_) (fun h1 => ?_)
  · have hm := it_t hm h1
    refine lv_aload_n hx hb d_T_placeOf_6 rfl (lv_at hl 0 rfl) ?_
    refine lv_iload_n hx hb d_T_placeOf_7 rfl (lv_at hl 1 rfl) ?_
    obtain ⟨x2, hc3, hm⟩ := bd_u hm
    refine cl_vi hx hb hml hown hG hg (cT_startOf l dC dI tk A hT LT gT aT rw n v1 _ hc3) (cw_v 1 hG k_617 k_619 s_22 k_5 k_620 (by decide +kernel) ⟨by decide, by decide⟩) hst rfl oW_0 rfl hl.1 rfl (Nat.le_of_ble_eq_true rfl) ⟨Nat.le_refl 0, Nat.le_refl 0⟩ d_T_placeOf_8 (fun H locs hst => ?_)
    refine lv_istore_n (lv' := [(3, .int x2), (0, .ref hT), (1, .int v1), (2, .int v2)]) hx hb d_T_placeOf_11 rfl hl (by decide) rfl (fun ls hl => ?_)
    refine lv_iload_n hx hb d_T_placeOf_12 rfl (lv_at hl 3 rfl) ?_
    refine lv_istore (lv' := [(4, .int v2), (3, .int x2), (0, .ref hT), (1, .int v1), (2, .int v2)]) hx hb d_T_placeOf_13 hl (by decide) rfl (fun ls hl => ?_)
    refine lp_u (fun q7 : Int32 × Int32 => ∀ (H : Heap) (locs : List Loc) (ls : Array Slot), lv_has ls 5 [(0, .ref hT), (1, .int v1), (2, .int v2), (3, .int q7.1), (4, .int q7.2)] → St dC dI A s.heap H locs (oW 6 hT ksT spT tk LT gT aT rw) → W p l e (rmo 1 23) s m args below meth c H locs 0 0 (MQ below (QI dC dI A r0 (oW 6 hT ksT spT tk LT gT aT rw)) args s 0 0 A) (F0 m 15 ls [])) ?_ n (x2, v2) hm _ _ _ (lv_sub hl [2, 3, 4, 1, 0] rfl) hst
    rintro ⟨x5, x6⟩ r10 hm hJ80 hR9 H locs ls hl hst
    dsimp only at hm hl hst ⊢
    have hJ8 := fun y0 y1 (e : r10 = .inl (y0, y1)) => hJ80 (y0, y1) e
    dsimp only at hJ8
    refine lv_iload_n hx hb d_T_placeOf_15 rfl (lv_at hl 3 rfl) ?_
    refine lv_aload_n hx hb d_T_placeOf_16 rfl (lv_at hl 0 rfl) ?_
    refine ro_geti hx hb hown hG hg cT hst 1 (by decide) rfl rfl k_127 d_T_placeOf_17 ?_
    refine lv_icmp_ge (tgt := 68) hx hb d_T_placeOf_20 (by decide) (fun h11 => ?_) (fun h11 => ?_)
    · have hm := it_t hm h11
      refine lv_iload_n hx hb d_T_placeOf_68 rfl (lv_at hl 3 rfl) ?_
      have he := (hR9 _ (Option.some.inj hm).symm)
      cases he
      exact rt_i hx hb hr hlk rfl hst rfl d_T_placeOf_69
    · have hm := it_f hm h11
      refine lv_aload_n hx hb d_T_placeOf_23 rfl (lv_at hl 0 rfl) ?_
      refine ro_geta hx hb hown hG hg cT hst 0 0 (by decide) rfl rfl k_125 d_T_placeOf_24 ?_
      refine lv_iload_n hx hb d_T_placeOf_27 rfl (lv_at hl 3 rfl) ?_
      obtain ⟨hn12, hm⟩ := gd_u hm
      refine ro_cald hx hb hg hst 0 rfl hn12 d_T_placeOf_28 ?_
      refine lv_topi (fun x13 ex13 => ?_)
      have hm := lt_u hm x13 ex13
      refine lv_bipush (v := 10) hx hb d_T_placeOf_29 (by decide) ?_
      refine lv_icmp_eq (tgt := 68) hx hb d_T_placeOf_31 (by decide) (fun h14 => ?_) (fun h14 => ?_)
      · have hm := it_t hm h14
        refine lv_iload_n hx hb d_T_placeOf_68 rfl (lv_at hl 3 rfl) ?_
        have he := (hR9 _ (Option.some.inj hm).symm)
        cases he
        exact rt_i hx hb hr hlk rfl hst rfl d_T_placeOf_69
      · have hm := it_f hm h14
        refine lv_aload_n hx hb d_T_placeOf_34 rfl (lv_at hl 0 rfl) ?_
        refine ro_geta hx hb hown hG hg cT hst 0 0 (by decide) rfl rfl k_125 d_T_placeOf_35 ?_
        refine lv_iload_n hx hb d_T_placeOf_38 rfl (lv_at hl 3 rfl) ?_
        obtain ⟨hn15, hm⟩ := gd_u hm
        refine ro_cald hx hb hg hst 0 rfl hn15 d_T_placeOf_39 ?_
        refine lv_topi (fun x16 ex16 => ?_)
        have hm := lt_u hm x16 ex16
        obtain ⟨x17, hc18, hm⟩ := bd_u hm
        refine cl_si hx hb hml hown hG hg (cT_widthOf l dC dI tk A (oW 6 hT ksT spT tk LT gT aT rw) n x16 _ hc18) (cw_s 1 hG k_621 k_622 k_5 k_623 (by decide +kernel) ⟨by decide, by decide⟩) hst rfl hl.1 rfl (Nat.le_of_ble_eq_true rfl) ⟨Nat.le_refl 0, Nat.le_refl 0⟩ d_T_placeOf_40 (fun H locs hst => ?_)
        refine lv_iload hx hb d_T_placeOf_43 (lv_at hl 4 rfl) ?_
        refine lv_icmp_gt (tgt := 68) hx hb d_T_placeOf_45 (by decide) (fun h20 => ?_) (fun h20 => ?_)
        · have hm := it_t hm h20
          refine lv_iload_n hx hb d_T_placeOf_68 rfl (lv_at hl 3 rfl) ?_
          have he := (hR9 _ (Option.some.inj hm).symm)
          cases he
          exact rt_i hx hb hr hlk rfl hst rfl d_T_placeOf_69
        · have hm := it_f hm h20
          refine lv_iload hx hb d_T_placeOf_48 (lv_at hl 4 rfl) ?_
          refine lv_aload_n hx hb d_T_placeOf_50 rfl (lv_at hl 0 rfl) ?_
          refine ro_geta hx hb hown hG hg cT hst 0 0 (by decide) rfl rfl k_125 d_T_placeOf_51 ?_
          refine lv_iload_n hx hb d_T_placeOf_54 rfl (lv_at hl 3 rfl) ?_
          obtain ⟨hn21, hm⟩ := gd_u hm
          refine ro_cald hx hb hg hst 0 rfl hn21 d_T_placeOf_55 ?_
          refine lv_topi (fun x22 ex22 => ?_)
          have hm := lt_u hm x22 ex22
          obtain ⟨x23, hc24, hm⟩ := bd_u hm
          refine cl_si hx hb hml hown hG hg (cT_widthOf l dC dI tk A (oW 6 hT ksT spT tk LT gT aT rw) n x22 _ hc24) (cw_s 1 hG k_621 k_622 k_5 k_623 (by decide +kernel) ⟨by decide, by decide⟩) hst rfl hl.1 rfl (Nat.le_of_ble_eq_true rfl) ⟨Nat.le_refl 0, Nat.le_refl 0⟩ d_T_placeOf_56 (fun H locs hst => ?_)
          refine lv_isub hx hb d_T_placeOf_59 ?_
          refine lv_topi (fun x26 ex26 => ?_)
          have hm := lt_u hm x26 ex26
          refine lv_istore (lv' := [(4, .int x26), (0, .ref hT), (1, .int v1), (2, .int v2), (3, .int x5)]) hx hb d_T_placeOf_60 hl (by decide) rfl (fun ls hl => ?_)
          refine lv_iinc (k := 4) (v := (x5 + 1)) (lv' := [(3, .int (x5 + 1)), (4, .int x26), (0, .ref hT), (1, .int v1), (2, .int v2)]) hx hb d_T_placeOf_62 hl rfl (by rfl) (by decide) rfl (fun ls hl => ?_)
          refine lv_goto (tgt := 15) hx hb d_T_placeOf_65 (by decide) ?_
          exact hJ8 (x5 + 1) x26 (Option.some.inj hm).symm _ _ _ (lv_sub hl [2, 3, 4, 0, 1] rfl) hst
  · have hm := it_f hm h1
    refine lv_iconst (v := 0) hx hb d_T_placeOf_4 (by decide) ?_
    have he := (Option.some.inj hm)
    cases he
    exact rt_i hx hb hr hlk rfl hst rfl d_T_placeOf_5
def mT_find (n : Nat) (v1 : Int32) (gT : aG) (aT : aA) : Option (Int32) := lp (ε := Int32) (fun x1 => if (gT 1) ≤ x1 then (some (.inr ((-1)))) else (gd (inb x1 60) (lt (aT 0 x1.toNatClampNeg) (fun x8 => if x8 = v1 then (some (.inr (x1))) else (some (.inl (x1 + 1))))))) n 0
theorem d_T_find_0 : decode prog_8_method_8_code 0 = .ok (.iconst 0, 1) := by decide +kernel
theorem d_T_find_1 : decode prog_8_method_8_code 1 = .ok (.istore_n 2, 1) := by decide +kernel
theorem d_T_find_2 : decode prog_8_method_8_code 2 = .ok (.iload_n 2, 1) := by decide +kernel
theorem d_T_find_3 : decode prog_8_method_8_code 3 = .ok (.aload_n 0, 1) := by decide +kernel
theorem d_T_find_4 : decode prog_8_method_8_code 4 = .ok (.getfield 15, 3) := by decide +kernel
theorem d_T_find_7 : decode prog_8_method_8_code 7 = .ok (.if_icmp .ge 21, 3) := by decide +kernel
theorem d_T_find_10 : decode prog_8_method_8_code 10 = .ok (.aload_n 0, 1) := by decide +kernel
theorem d_T_find_11 : decode prog_8_method_8_code 11 = .ok (.getfield 11, 3) := by decide +kernel
theorem d_T_find_14 : decode prog_8_method_8_code 14 = .ok (.iload_n 2, 1) := by decide +kernel
theorem d_T_find_15 : decode prog_8_method_8_code 15 = .ok (.caload, 1) := by decide +kernel
theorem d_T_find_16 : decode prog_8_method_8_code 16 = .ok (.iload_n 1, 1) := by decide +kernel
theorem d_T_find_17 : decode prog_8_method_8_code 17 = .ok (.if_icmp .ne 5, 3) := by decide +kernel
theorem d_T_find_20 : decode prog_8_method_8_code 20 = .ok (.iload_n 2, 1) := by decide +kernel
theorem d_T_find_21 : decode prog_8_method_8_code 21 = .ok (.ireturn, 1) := by decide +kernel
theorem d_T_find_22 : decode prog_8_method_8_code 22 = .ok (.iinc 2 1, 3) := by decide +kernel
theorem d_T_find_25 : decode prog_8_method_8_code 25 = .ok (.goto (-23), 3) := by decide +kernel
theorem d_T_find_28 : decode prog_8_method_8_code 28 = .ok (.iconst (-1), 1) := by decide +kernel
theorem d_T_find_29 : decode prog_8_method_8_code 29 = .ok (.ireturn, 1) := by decide +kernel
set_option maxHeartbeats 4000000 in
set_option maxRecDepth 100000 in
theorem cT_find (l : Launch) (dC : Nat → ClassId) (dI : Nat → Nat → Nat) (tk : Nat → ClassId) (A : Nat → Prop) (hT : Nat) (LT : Nat → Nat) (gT : aG) (aT : aA) (rw : va_W) (n : Nat) (v1 : Int32) (r0 : Int32) (hm : mT_find n v1 gT aT = some r0) : CtI l dC dI tk A ⟨"EditorServer$Text", "find", "(C)I"⟩ prog_8_method_8_code 3 (some .int) 0 0 [.ref hT, .int v1] (oW 6 hT ksT spT tk LT gT aT rw) r0 (oW 6 hT ksT spT tk LT gT aT rw) := by
  refine ent (by decide) (Nat.le_of_ble_eq_true rfl) ?_
  intro p e s m args below meth c hx hb hr hml hown hlk hG hg hst ls hl
  unfold mT_find at hm
  have hl : lv_has ls 3 [(0, .ref hT), (1, .int v1)] := hl
  refine lv_iconst (v := 0) hx hb d_T_find_0 (by decide) ?_
  refine lv_istore_n (lv' := [(2, .int 0), (0, .ref hT), (1, .int v1)]) hx hb d_T_find_1 rfl hl (by decide) rfl (fun ls hl => ?_)
  refine lp_u (fun x1 : Int32 => ∀ (H : Heap) (locs : List Loc) (ls : Array Slot), lv_has ls 3 [(0, .ref hT), (1, .int v1), (2, .int x1)] → St dC dI A s.heap H locs (oW 6 hT ksT spT tk LT gT aT rw) → W p l e (rmo 0 0) s m args below meth c H locs 0 0 (MQ below (QI dC dI A r0 (oW 6 hT ksT spT tk LT gT aT rw)) args s 0 0 A) (F0 m 2 ls [])) ?_ n 0 hm _ _ _ (lv_sub hl [1, 2, 0] rfl) hst
  rintro x1 r5 hm hJ30 hR4 H locs ls hl hst
  have hJ3 := fun y0 (e : r5 = .inl y0) => hJ30 y0 e
  refine lv_iload_n hx hb d_T_find_2 rfl (lv_at hl 2 rfl) ?_
  refine lv_aload_n hx hb d_T_find_3 rfl (lv_at hl 0 rfl) ?_
  refine ro_geti hx hb hown hG hg cT hst 1 (by decide) rfl rfl k_127 d_T_find_4 ?_
  refine lv_icmp_ge (tgt := 28) hx hb d_T_find_7 (by decide) (fun h6 => ?_) (fun h6 => ?_)
  · have hm := it_t hm h6
    refine lv_iconst (v := (-1)) hx hb d_T_find_28 (by decide) ?_
    have he := (hR4 _ (Option.some.inj hm).symm)
    cases he
    exact rt_i hx hb hr hlk rfl hst rfl d_T_find_29
  · have hm := it_f hm h6
    refine lv_aload_n hx hb d_T_find_10 rfl (lv_at hl 0 rfl) ?_
    refine ro_geta hx hb hown hG hg cT hst 0 0 (by decide) rfl rfl k_125 d_T_find_11 ?_
    refine lv_iload_n hx hb d_T_find_14 rfl (lv_at hl 2 rfl) ?_
    obtain ⟨hn7, hm⟩ := gd_u hm
    refine ro_cald hx hb hg hst 0 rfl hn7 d_T_find_15 ?_
    refine lv_topi (fun x8 ex8 => ?_)
    have hm := lt_u hm x8 ex8
    refine lv_iload_n hx hb d_T_find_16 rfl (lv_at hl 1 rfl) ?_
    refine lv_icmp_ne (tgt := 22) hx hb d_T_find_17 (by decide) (fun h9 => ?_) (fun h9 => ?_)
    · have hm := it_f hm h9
      refine lv_iinc (k := 2) (v := (x1 + 1)) (lv' := [(2, .int (x1 + 1)), (0, .ref hT), (1, .int v1)]) hx hb d_T_find_22 hl rfl (by rfl) (by decide) rfl (fun ls hl => ?_)
      refine lv_goto (tgt := 2) hx hb d_T_find_25 (by decide) ?_
      exact hJ3 (x1 + 1) (Option.some.inj hm).symm _ _ _ (lv_sub hl [1, 2, 0] rfl) hst
    · have hm := it_t hm h9
      refine lv_iload_n hx hb d_T_find_20 rfl (lv_at hl 2 rfl) ?_
      have he := (hR4 _ (Option.some.inj hm).symm)
      cases he
      exact rt_i hx hb hr hlk rfl hst rfl d_T_find_21
def mT_characterAt (n : Nat) (v1 : Int32) (gT : aG) (aT : aA) : Option (Int32) := if v1 < 0 then (some ((-1))) else (if (gT 1) ≤ v1 then (some ((-1))) else (gd (inb v1 60) (lt (aT 0 v1.toNatClampNeg) (fun x4 => some (x4)))))
theorem d_T_characterAt_0 : decode prog_8_method_9_code 0 = .ok (.iload_n 1, 1) := by decide +kernel
theorem d_T_characterAt_1 : decode prog_8_method_9_code 1 = .ok (.ifCond .lt 20, 3) := by decide +kernel
theorem d_T_characterAt_4 : decode prog_8_method_9_code 4 = .ok (.iload_n 1, 1) := by decide +kernel
theorem d_T_characterAt_5 : decode prog_8_method_9_code 5 = .ok (.aload_n 0, 1) := by decide +kernel
theorem d_T_characterAt_6 : decode prog_8_method_9_code 6 = .ok (.getfield 15, 3) := by decide +kernel
theorem d_T_characterAt_9 : decode prog_8_method_9_code 9 = .ok (.if_icmp .ge 12, 3) := by decide +kernel
theorem d_T_characterAt_12 : decode prog_8_method_9_code 12 = .ok (.aload_n 0, 1) := by decide +kernel
theorem d_T_characterAt_13 : decode prog_8_method_9_code 13 = .ok (.getfield 11, 3) := by decide +kernel
theorem d_T_characterAt_16 : decode prog_8_method_9_code 16 = .ok (.iload_n 1, 1) := by decide +kernel
theorem d_T_characterAt_17 : decode prog_8_method_9_code 17 = .ok (.caload, 1) := by decide +kernel
theorem d_T_characterAt_18 : decode prog_8_method_9_code 18 = .ok (.goto 4, 3) := by decide +kernel
theorem d_T_characterAt_21 : decode prog_8_method_9_code 21 = .ok (.iconst (-1), 1) := by decide +kernel
theorem d_T_characterAt_22 : decode prog_8_method_9_code 22 = .ok (.ireturn, 1) := by decide +kernel
set_option maxHeartbeats 4000000 in
set_option maxRecDepth 100000 in
theorem cT_characterAt (l : Launch) (dC : Nat → ClassId) (dI : Nat → Nat → Nat) (tk : Nat → ClassId) (A : Nat → Prop) (hT : Nat) (LT : Nat → Nat) (gT : aG) (aT : aA) (rw : va_W) (n : Nat) (v1 : Int32) (r0 : Int32) (hm : mT_characterAt n v1 gT aT = some r0) : CtI l dC dI tk A ⟨"EditorServer$Text", "characterAt", "(I)I"⟩ prog_8_method_9_code 2 (some .int) 0 0 [.ref hT, .int v1] (oW 6 hT ksT spT tk LT gT aT rw) r0 (oW 6 hT ksT spT tk LT gT aT rw) := by
  refine ent (by decide) (Nat.le_of_ble_eq_true rfl) ?_
  intro p e s m args below meth c hx hb hr hml hown hlk hG hg hst ls hl
  unfold mT_characterAt at hm
  have hl : lv_has ls 2 [(0, .ref hT), (1, .int v1)] := hl
  refine lv_iload_n hx hb d_T_characterAt_0 rfl (lv_at hl 1 rfl) ?_
  refine lv_if_lt (tgt := 21) hx hb d_T_characterAt_1 (by decide) (fun h1 => ?_) (fun h1 => ?_)
  · have hm := it_t hm h1
    refine lv_iconst (v := (-1)) hx hb d_T_characterAt_21 (by decide) ?_
    have he := (Option.some.inj hm)
    cases he
    exact rt_i hx hb hr hlk rfl hst rfl d_T_characterAt_22
  · have hm := it_f hm h1
    refine lv_iload_n hx hb d_T_characterAt_4 rfl (lv_at hl 1 rfl) ?_
    refine lv_aload_n hx hb d_T_characterAt_5 rfl (lv_at hl 0 rfl) ?_
    refine ro_geti hx hb hown hG hg cT hst 1 (by decide) rfl rfl k_127 d_T_characterAt_6 ?_
    refine lv_icmp_ge (tgt := 21) hx hb d_T_characterAt_9 (by decide) (fun h2 => ?_) (fun h2 => ?_)
    · have hm := it_t hm h2
      refine lv_iconst (v := (-1)) hx hb d_T_characterAt_21 (by decide) ?_
      have he := (Option.some.inj hm)
      cases he
      exact rt_i hx hb hr hlk rfl hst rfl d_T_characterAt_22
    · have hm := it_f hm h2
      refine lv_aload_n hx hb d_T_characterAt_12 rfl (lv_at hl 0 rfl) ?_
      refine ro_geta hx hb hown hG hg cT hst 0 0 (by decide) rfl rfl k_125 d_T_characterAt_13 ?_
      refine lv_iload_n hx hb d_T_characterAt_16 rfl (lv_at hl 1 rfl) ?_
      obtain ⟨hn3, hm⟩ := gd_u hm
      refine ro_cald hx hb hg hst 0 rfl hn3 d_T_characterAt_17 ?_
      refine lv_topi (fun x4 ex4 => ?_)
      have hm := lt_u hm x4 ex4
      refine lv_goto (tgt := 22) hx hb d_T_characterAt_18 (by decide) ?_
      have he := (Option.some.inj hm)
      cases he
      exact rt_i hx hb hr hlk rfl hst rfl d_T_characterAt_22
def mD_begin (n : Nat) (v2 : Int32) (gD : aG) (aD : aA) (gT : aG) (aT : aA) (gV : aG) (aV : aA) : Option (Int32 × aG × aA × aG × aA) := bd (mV_item n v2 0 gV aV) (fun x1 => bd (mV_sizeOf n x1 gV aV) (fun x4 => if x4 < 1 then (some ((0, gD, aD, gT, aT))) else (if x4 ≤ 4 then (bd (mV_item n v2 2 gV aV) (fun x9 => bd (mT_replace n 0 (gT 1) x9 gT aT gV aV) (fun q16 => if q16.1 = 0 then (some ((0, gD, aD, q16.2.1, q16.2.2))) else (lt (va_up gD 2 x4) (fun g18 => jn (α := aA) (lp (ε := Int32 × aA) (fun q29 => if (g18 2) ≤ q29.1 then (some (.inr (.inl q29.2))) else (bd (mV_letterOf n x1 q29.1 gV aV) (fun x34 => gd (inb q29.1 4) (lt (va_up q29.2 0 (upd (q29.2 0) q29.1.toNatClampNeg (vp_nar .char x34))) (fun a38 => some (.inl ((q29.1 + 1), a38))))))) n (0, aD)) (fun a21 => bd (mV_numberAt n v2 1 gV aV) (fun x23 => lt (va_up g18 3 x23) (fun g26 => some ((1, g26, a21, q16.2.1, q16.2.2)))))))))) else (some ((0, gD, aD, gT, aT))))))
theorem d_D_begin_0 : decode prog_4_method_2_code 0 = .ok (.aload_n 1, 1) := by decide +kernel
theorem d_D_begin_1 : decode prog_4_method_2_code 1 = .ok (.iload_n 2, 1) := by decide +kernel
theorem d_D_begin_2 : decode prog_4_method_2_code 2 = .ok (.iconst 0, 1) := by decide +kernel
theorem d_D_begin_3 : decode prog_4_method_2_code 3 = .ok (.invokevirtual 20, 3) := by decide +kernel
theorem d_D_begin_6 : decode prog_4_method_2_code 6 = .ok (.istore_n 3, 1) := by decide +kernel
theorem d_D_begin_7 : decode prog_4_method_2_code 7 = .ok (.aload_n 1, 1) := by decide +kernel
theorem d_D_begin_8 : decode prog_4_method_2_code 8 = .ok (.iload_n 3, 1) := by decide +kernel
theorem d_D_begin_9 : decode prog_4_method_2_code 9 = .ok (.invokevirtual 26, 3) := by decide +kernel
theorem d_D_begin_12 : decode prog_4_method_2_code 12 = .ok (.istore 4, 2) := by decide +kernel
theorem d_D_begin_14 : decode prog_4_method_2_code 14 = .ok (.iload 4, 2) := by decide +kernel
theorem d_D_begin_16 : decode prog_4_method_2_code 16 = .ok (.iconst 1, 1) := by decide +kernel
theorem d_D_begin_17 : decode prog_4_method_2_code 17 = .ok (.if_icmp .lt 9, 3) := by decide +kernel
theorem d_D_begin_20 : decode prog_4_method_2_code 20 = .ok (.iload 4, 2) := by decide +kernel
theorem d_D_begin_22 : decode prog_4_method_2_code 22 = .ok (.iconst 4, 1) := by decide +kernel
theorem d_D_begin_23 : decode prog_4_method_2_code 23 = .ok (.if_icmp .le 5, 3) := by decide +kernel
theorem d_D_begin_26 : decode prog_4_method_2_code 26 = .ok (.iconst 0, 1) := by decide +kernel
theorem d_D_begin_27 : decode prog_4_method_2_code 27 = .ok (.ireturn, 1) := by decide +kernel
theorem d_D_begin_28 : decode prog_4_method_2_code 28 = .ok (.aload_n 0, 1) := by decide +kernel
theorem d_D_begin_29 : decode prog_4_method_2_code 29 = .ok (.getfield 16, 3) := by decide +kernel
theorem d_D_begin_32 : decode prog_4_method_2_code 32 = .ok (.iconst 0, 1) := by decide +kernel
theorem d_D_begin_33 : decode prog_4_method_2_code 33 = .ok (.aload_n 0, 1) := by decide +kernel
theorem d_D_begin_34 : decode prog_4_method_2_code 34 = .ok (.getfield 16, 3) := by decide +kernel
theorem d_D_begin_37 : decode prog_4_method_2_code 37 = .ok (.getfield 30, 3) := by decide +kernel
theorem d_D_begin_40 : decode prog_4_method_2_code 40 = .ok (.aload_n 1, 1) := by decide +kernel
theorem d_D_begin_41 : decode prog_4_method_2_code 41 = .ok (.aload_n 1, 1) := by decide +kernel
theorem d_D_begin_42 : decode prog_4_method_2_code 42 = .ok (.iload_n 2, 1) := by decide +kernel
theorem d_D_begin_43 : decode prog_4_method_2_code 43 = .ok (.iconst 2, 1) := by decide +kernel
theorem d_D_begin_44 : decode prog_4_method_2_code 44 = .ok (.invokevirtual 20, 3) := by decide +kernel
theorem d_D_begin_47 : decode prog_4_method_2_code 47 = .ok (.invokevirtual 34, 3) := by decide +kernel
theorem d_D_begin_50 : decode prog_4_method_2_code 50 = .ok (.ifCond .ne 5, 3) := by decide +kernel
theorem d_D_begin_53 : decode prog_4_method_2_code 53 = .ok (.iconst 0, 1) := by decide +kernel
theorem d_D_begin_54 : decode prog_4_method_2_code 54 = .ok (.ireturn, 1) := by decide +kernel
theorem d_D_begin_55 : decode prog_4_method_2_code 55 = .ok (.aload_n 0, 1) := by decide +kernel
theorem d_D_begin_56 : decode prog_4_method_2_code 56 = .ok (.iload 4, 2) := by decide +kernel
theorem d_D_begin_58 : decode prog_4_method_2_code 58 = .ok (.putfield 38, 3) := by decide +kernel
theorem d_D_begin_61 : decode prog_4_method_2_code 61 = .ok (.iconst 0, 1) := by decide +kernel
theorem d_D_begin_62 : decode prog_4_method_2_code 62 = .ok (.istore 5, 2) := by decide +kernel
theorem d_D_begin_64 : decode prog_4_method_2_code 64 = .ok (.iload 5, 2) := by decide +kernel
theorem d_D_begin_66 : decode prog_4_method_2_code 66 = .ok (.aload_n 0, 1) := by decide +kernel
theorem d_D_begin_67 : decode prog_4_method_2_code 67 = .ok (.getfield 38, 3) := by decide +kernel
theorem d_D_begin_70 : decode prog_4_method_2_code 70 = .ok (.if_icmp .ge 23, 3) := by decide +kernel
theorem d_D_begin_73 : decode prog_4_method_2_code 73 = .ok (.aload_n 0, 1) := by decide +kernel
theorem d_D_begin_74 : decode prog_4_method_2_code 74 = .ok (.getfield 9, 3) := by decide +kernel
theorem d_D_begin_77 : decode prog_4_method_2_code 77 = .ok (.iload 5, 2) := by decide +kernel
theorem d_D_begin_79 : decode prog_4_method_2_code 79 = .ok (.aload_n 1, 1) := by decide +kernel
theorem d_D_begin_80 : decode prog_4_method_2_code 80 = .ok (.iload_n 3, 1) := by decide +kernel
theorem d_D_begin_81 : decode prog_4_method_2_code 81 = .ok (.iload 5, 2) := by decide +kernel
theorem d_D_begin_83 : decode prog_4_method_2_code 83 = .ok (.invokevirtual 41, 3) := by decide +kernel
theorem d_D_begin_86 : decode prog_4_method_2_code 86 = .ok (.castore, 1) := by decide +kernel
theorem d_D_begin_87 : decode prog_4_method_2_code 87 = .ok (.iinc 5 1, 3) := by decide +kernel
theorem d_D_begin_90 : decode prog_4_method_2_code 90 = .ok (.goto (-26), 3) := by decide +kernel
theorem d_D_begin_93 : decode prog_4_method_2_code 93 = .ok (.aload_n 0, 1) := by decide +kernel
theorem d_D_begin_94 : decode prog_4_method_2_code 94 = .ok (.aload_n 1, 1) := by decide +kernel
theorem d_D_begin_95 : decode prog_4_method_2_code 95 = .ok (.iload_n 2, 1) := by decide +kernel
theorem d_D_begin_96 : decode prog_4_method_2_code 96 = .ok (.iconst 1, 1) := by decide +kernel
theorem d_D_begin_97 : decode prog_4_method_2_code 97 = .ok (.invokevirtual 45, 3) := by decide +kernel
theorem d_D_begin_100 : decode prog_4_method_2_code 100 = .ok (.putfield 48, 3) := by decide +kernel
theorem d_D_begin_103 : decode prog_4_method_2_code 103 = .ok (.iconst 1, 1) := by decide +kernel
theorem d_D_begin_104 : decode prog_4_method_2_code 104 = .ok (.ireturn, 1) := by decide +kernel
set_option maxHeartbeats 4000000 in
set_option maxRecDepth 100000 in
theorem cD_begin (l : Launch) (dC : Nat → ClassId) (dI : Nat → Nat → Nat) (tk : Nat → ClassId) (A : Nat → Prop) (hD : Nat) (LD : Nat → Nat) (gD : aG) (aD : aA) (LT : Nat → Nat) (gT : aG) (aT : aA) (hV : Nat) (LV : Nat → Nat) (gV : aG) (aV : aA) (rw : va_W) (n : Nat) (v2 : Int32) (r0 : Int32) (ogD : aG) (oaD : aA) (ogT : aG) (oaT : aA) (hm : mD_begin n v2 gD aD gT aT gV aV = some (r0, ogD, oaD, ogT, oaT)) : CtI l dC dI tk A ⟨"EditorServer$Document", "begin", "(LEditorServer$Values;I)Z"⟩ prog_4_method_2_code 6 (some .boolean) 2 87 [.ref hD, .ref hV, .int v2] (oW 5 hD ksD spD tk LD gD aD (oW 6 (LD 1) ksT spT tk LT gT aT (oW 3 hV ksV spV tk LV gV aV rw))) r0 (oW 5 hD ksD spD tk LD ogD oaD (oW 6 (LD 1) ksT spT tk LT ogT oaT (oW 3 hV ksV spV tk LV gV aV rw))) := by
  refine ent (by decide) (Nat.le_of_ble_eq_true rfl) ?_
  intro p e s m args below meth c hx hb hr hml hown hlk hG hg hst ls hl
  unfold mD_begin at hm
  have hl : lv_has ls 6 [(0, .ref hD), (1, .ref hV), (2, .int v2)] := hl
  refine lv_aload_n hx hb d_D_begin_0 rfl (lv_at hl 1 rfl) ?_
  refine lv_iload_n hx hb d_D_begin_1 rfl (lv_at hl 2 rfl) ?_
  refine lv_iconst (v := 0) hx hb d_D_begin_2 (by decide) ?_
  obtain ⟨x1, hc2, hm⟩ := bd_u hm
  have hst := fr2 hst
  refine cl_vi hx hb hml hown hG hg (cV_item l dC dI tk A hV LV gV aV (oW 5 hD ksD spD tk LD gD aD (oW 6 (LD 1) ksT spT tk LT gT aT rw)) n v2 0 _ hc2) (cw_v 2 hG k_583 k_499 k_500 k_3 k_501 (by decide +kernel) ⟨by decide, by decide⟩) hst rfl oW_0 rfl hl.1 rfl (Nat.le_of_ble_eq_true rfl) ⟨Nat.le_refl 0, Nat.le_refl 0⟩ d_D_begin_3 (fun H locs hst => ?_)
  refine lv_istore_n (lv' := [(3, .int x1), (0, .ref hD), (1, .ref hV), (2, .int v2)]) hx hb d_D_begin_6 rfl hl (by decide) rfl (fun ls hl => ?_)
  refine lv_aload_n hx hb d_D_begin_7 rfl (lv_at hl 2 rfl) ?_
  refine lv_iload_n hx hb d_D_begin_8 rfl (lv_at hl 0 rfl) ?_
  obtain ⟨x4, hc5, hm⟩ := bd_u hm
  refine cl_vi hx hb hml hown hG hg (cV_sizeOf l dC dI tk A hV LV gV aV (oW 5 hD ksD spD tk LD gD aD (oW 6 (LD 1) ksT spT tk LT gT aT rw)) n x1 _ hc5) (cw_v 1 hG k_519 k_504 k_505 k_3 k_506 (by decide +kernel) ⟨by decide, by decide⟩) hst rfl oW_0 rfl hl.1 rfl (Nat.le_of_ble_eq_true rfl) ⟨Nat.le_refl 0, Nat.le_refl 0⟩ d_D_begin_9 (fun H locs hst => ?_)
  refine lv_istore (lv' := [(4, .int x4), (3, .int x1), (0, .ref hD), (1, .ref hV), (2, .int v2)]) hx hb d_D_begin_12 hl (by decide) rfl (fun ls hl => ?_)
  refine lv_iload hx hb d_D_begin_14 (lv_at hl 0 rfl) ?_
  refine lv_iconst (v := 1) hx hb d_D_begin_16 (by decide) ?_
  refine lv_icmp_lt (tgt := 26) hx hb d_D_begin_17 (by decide) (fun h7 => ?_) (fun h7 => ?_)
  · have hm := it_t hm h7
    refine lv_iconst (v := 0) hx hb d_D_begin_26 (by decide) ?_
    have hst := fr2 hst
    have hst := fr2 hst
    have he := (Option.some.inj hm)
    cases he
    exact rt_i hx hb hr hlk (by decide) hst rfl d_D_begin_27
  · have hm := it_f hm h7
    refine lv_iload hx hb d_D_begin_20 (lv_at hl 0 rfl) ?_
    refine lv_iconst (v := 4) hx hb d_D_begin_22 (by decide) ?_
    refine lv_icmp_le (tgt := 28) hx hb d_D_begin_23 (by decide) (fun h8 => ?_) (fun h8 => ?_)
    · have hm := it_t hm h8
      refine lv_aload_n hx hb d_D_begin_28 rfl (lv_at hl 2 rfl) ?_
      have hst := fr1 hst
      refine ro_geta hx hb hown hG hg cD hst 1 1 (by decide) rfl rfl k_146 d_D_begin_29 ?_
      refine lv_iconst (v := 0) hx hb d_D_begin_32 (by decide) ?_
      refine lv_aload_n hx hb d_D_begin_33 rfl (lv_at hl 2 rfl) ?_
      refine ro_geta hx hb hown hG hg cD hst 1 1 (by decide) rfl rfl k_146 d_D_begin_34 ?_
      have hst := fr2 hst
      refine rn_geti hx hb hown hG hg cT hst 1 (by decide) rfl rfl t_128 d_D_begin_37 ?_
      refine lv_aload_n hx hb d_D_begin_40 rfl (lv_at hl 3 rfl) ?_
      refine lv_aload_n hx hb d_D_begin_41 rfl (lv_at hl 3 rfl) ?_
      refine lv_iload_n hx hb d_D_begin_42 rfl (lv_at hl 4 rfl) ?_
      refine lv_iconst (v := 2) hx hb d_D_begin_43 (by decide) ?_
      obtain ⟨x9, hc10, hm⟩ := bd_u hm
      have hst := fr2 hst
      refine cl_vi hx hb hml hown hG hg (cV_item l dC dI tk A hV LV gV aV (oW 6 (LD 1) ksT spT tk LT gT aT (oW 5 hD ksD spD tk LD gD aD rw)) n v2 2 _ hc10) (cw_v 2 hG k_583 k_499 k_500 k_3 k_501 (by decide +kernel) ⟨by decide, by decide⟩) hst rfl oW_0 rfl hl.1 rfl (Nat.le_of_ble_eq_true rfl) ⟨Nat.le_refl 0, Nat.le_refl 0⟩ d_D_begin_44 (fun H locs hst => ?_)
      obtain ⟨⟨x12, g13, a14⟩, hc15, hm⟩ := bd_u hm
      dsimp only at hm
      have hst := fr1 hst
      refine cl_vi hx hb hml hown hG hg (cT_replace l dC dI tk A (LD 1) LT gT aT hV LV gV aV (oW 5 hD ksD spD tk LD gD aD rw) n 0 (gT 1) x9 _ _ _ hc15) (cw_v 4 hG k_584 k_585 k_586 k_5 k_587 (by decide +kernel) ⟨by decide, by decide⟩) hst rfl oW_0 rfl hl.1 rfl (Nat.le_of_ble_eq_true rfl) ⟨Nat.le_refl 0, Nat.le_refl 0⟩ d_D_begin_47 (fun H locs hst => ?_)
      refine lv_if_ne (tgt := 55) hx hb d_D_begin_50 (by decide) (fun h17 => ?_) (fun h17 => ?_)
      · have hm := it_f hm h17
        refine lv_aload_n hx hb d_D_begin_55 rfl (lv_at hl 2 rfl) ?_
        refine lv_iload hx hb d_D_begin_56 (lv_at hl 0 rfl) ?_
        have hst := fr2 hst
        refine ro_puti hx hb hown hG hg cD hst 2 (by decide) rfl rfl rfl rfl rfl k_149 d_D_begin_58 (fun g18 H locs eg18 hst => ?_)
        have hm := lt_u hm g18 eg18
        refine lv_iconst (v := 0) hx hb d_D_begin_61 (by decide) ?_
        refine lv_istore (lv' := [(5, .int 0), (4, .int x4), (3, .int x1), (0, .ref hD), (1, .ref hV), (2, .int v2)]) hx hb d_D_begin_62 hl (by decide) rfl (fun ls hl => ?_)
        obtain ⟨qJ19, hm, hLJ19, hR20⟩ := jn_u hm
        have hJ19 : ∀ (a21 : aA), qJ19 = .inl a21 → ∀ (H : Heap) (locs : List Loc) (ls : Array Slot), lv_has ls 6 [(0, .ref hD), (1, .ref hV), (2, .int v2), (3, .int x1), (4, .int x4)] → St dC dI A s.heap H locs (oW 5 hD ksD spD tk LD g18 a21 (oW 6 (LD 1) ksT spT tk LT g13 a14 (oW 3 hV ksV spV tk LV gV aV rw))) → W p l e (rmo 2 87) s m args below meth c H locs 0 0 (MQ below (QI dC dI A r0 (oW 5 hD ksD spD tk LD ogD oaD (oW 6 (LD 1) ksT spT tk LT ogT oaT (oW 3 hV ksV spV tk LV gV aV rw)))) args s 0 0 A) (F0 m 93 ls []) := by
          intro a21 hq H locs ls hl hst
          have hm := hLJ19 _ hq
          refine lv_aload_n hx hb d_D_begin_93 rfl (lv_at hl 0 rfl) ?_
          refine lv_aload_n hx hb d_D_begin_94 rfl (lv_at hl 1 rfl) ?_
          refine lv_iload_n hx hb d_D_begin_95 rfl (lv_at hl 2 rfl) ?_
          refine lv_iconst (v := 1) hx hb d_D_begin_96 (by decide) ?_
          obtain ⟨x23, hc24, hm⟩ := bd_u hm
          have hst := fr2 hst
          refine cl_vi hx hb hml hown hG hg (cV_numberAt l dC dI tk A hV LV gV aV (oW 5 hD ksD spD tk LD g18 a21 (oW 6 (LD 1) ksT spT tk LT g13 a14 rw)) n v2 1 _ hc24) (cw_v 2 hG k_590 k_551 k_552 k_3 k_553 (by decide +kernel) ⟨by decide, by decide⟩) hst rfl oW_0 rfl hl.1 rfl (Nat.le_of_ble_eq_true rfl) ⟨Nat.le_refl 0, Nat.le_refl 0⟩ d_D_begin_97 (fun H locs hst => ?_)
          have hst := fr1 hst
          refine ro_puti hx hb hown hG hg cD hst 3 (by decide) rfl rfl rfl rfl rfl k_151 d_D_begin_100 (fun g26 H locs eg26 hst => ?_)
          have hm := lt_u hm g26 eg26
          refine lv_iconst (v := 1) hx hb d_D_begin_103 (by decide) ?_
          have hst := fr1 hst
          have hst := fr2 hst
          have hst := fr2 hst
          have he := (Option.some.inj hm)
          cases he
          exact rt_i hx hb hr hlk (by decide) hst rfl d_D_begin_104
        refine lp_u (fun q29 : Int32 × aA => ∀ (H : Heap) (locs : List Loc) (ls : Array Slot), lv_has ls 6 [(0, .ref hD), (1, .ref hV), (2, .int v2), (3, .int x1), (4, .int x4), (5, .int q29.1)] → St dC dI A s.heap H locs (oW 5 hD ksD spD tk LD g18 q29.2 (oW 6 (LD 1) ksT spT tk LT g13 a14 (oW 3 hV ksV spV tk LV gV aV rw))) → W p l e (rmo 2 87) s m args below meth c H locs 0 0 (MQ below (QI dC dI A r0 (oW 5 hD ksD spD tk LD ogD oaD (oW 6 (LD 1) ksT spT tk LT ogT oaT (oW 3 hV ksV spV tk LV gV aV rw)))) args s 0 0 A) (F0 m 64 ls [])) ?_ n (0, aD) hm _ _ _ (lv_sub hl [3, 4, 5, 2, 1, 0] rfl) hst
        rintro ⟨x27, a28⟩ r32 hm hJ300 hR31 H locs ls hl hst
        dsimp only at hm hl hst ⊢
        have hJ30 := fun y0 y1 (e : r32 = .inl (y0, y1)) => hJ300 (y0, y1) e
        dsimp only at hJ30
        refine lv_iload hx hb d_D_begin_64 (lv_at hl 5 rfl) ?_
        refine lv_aload_n hx hb d_D_begin_66 rfl (lv_at hl 0 rfl) ?_
        refine ro_geti hx hb hown hG hg cD hst 2 (by decide) rfl rfl k_149 d_D_begin_67 ?_
        refine lv_icmp_ge (tgt := 93) hx hb d_D_begin_70 (by decide) (fun h33 => ?_) (fun h33 => ?_)
        · have hm := it_t hm h33
          exact hJ19 a28 (hR31 _ (Option.some.inj hm).symm).symm _ _ _ (lv_sub hl [0, 1, 2, 3, 4] rfl) hst
        · have hm := it_f hm h33
          refine lv_aload_n hx hb d_D_begin_73 rfl (lv_at hl 0 rfl) ?_
          refine ro_geta hx hb hown hG hg cD hst 0 0 (by decide) rfl rfl k_144 d_D_begin_74 ?_
          refine lv_iload hx hb d_D_begin_77 (lv_at hl 5 rfl) ?_
          refine lv_aload_n hx hb d_D_begin_79 rfl (lv_at hl 1 rfl) ?_
          refine lv_iload_n hx hb d_D_begin_80 rfl (lv_at hl 3 rfl) ?_
          refine lv_iload hx hb d_D_begin_81 (lv_at hl 5 rfl) ?_
          obtain ⟨x34, hc35, hm⟩ := bd_u hm
          have hst := fr2 hst
          refine cl_vi hx hb hml hown hG hg (cV_letterOf l dC dI tk A hV LV gV aV (oW 5 hD ksD spD tk LD g18 a28 (oW 6 (LD 1) ksT spT tk LT g13 a14 rw)) n x1 x27 _ hc35) (cw_v 2 hG k_520 k_521 k_522 k_3 k_523 (by decide +kernel) ⟨by decide, by decide⟩) hst rfl oW_0 rfl hl.1 rfl (Nat.le_of_ble_eq_true rfl) ⟨Nat.le_refl 0, Nat.le_refl 0⟩ d_D_begin_83 (fun H locs hst => ?_)
          have hst := fr1 hst
          obtain ⟨hn37, hm⟩ := gd_u hm
          refine ro_cast hx hb hg hst 0 rfl hn37 d_D_begin_86 (fun a38 H locs ea38 hst => ?_)
          have hm := lt_u hm a38 ea38
          refine lv_iinc (k := 5) (v := (x27 + 1)) (lv' := [(5, .int (x27 + 1)), (0, .ref hD), (1, .ref hV), (2, .int v2), (3, .int x1), (4, .int x4)]) hx hb d_D_begin_87 hl rfl (by rfl) (by decide) rfl (fun ls hl => ?_)
          refine lv_goto (tgt := 64) hx hb d_D_begin_90 (by decide) ?_
          have hst := fr1 hst
          have hst := fr2 hst
          have hst := fr2 hst
          exact hJ30 (x27 + 1) a38 (Option.some.inj hm).symm _ _ _ (lv_sub hl [1, 2, 3, 4, 5, 0] rfl) hst
      · have hm := it_t hm h17
        refine lv_iconst (v := 0) hx hb d_D_begin_53 (by decide) ?_
        have hst := fr1 hst
        have hst := fr1 hst
        have hst := fr2 hst
        have he := (Option.some.inj hm)
        cases he
        exact rt_i hx hb hr hlk (by decide) hst rfl d_D_begin_54
    · have hm := it_f hm h8
      refine lv_iconst (v := 0) hx hb d_D_begin_26 (by decide) ?_
      have hst := fr2 hst
      have hst := fr2 hst
      have he := (Option.some.inj hm)
      cases he
      exact rt_i hx hb hr hlk (by decide) hst rfl d_D_begin_27
