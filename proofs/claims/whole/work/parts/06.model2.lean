def mM_member (n : Nat) (v1 : Int32) (v2 : Int32) (v3 : Int32) (v4 : Int32) (v5 : Int32) (v6 : Int32) (g : aG) (a : aA) : Option (Int32) := lp (ε := Int32) (fun x1 => if (g 8) ≤ x1 then (some (.inr ((-1)))) else (gd (inb x1 41) (lt (a 5 x1.toNatClampNeg) (fun x8 => if x8 = 0 then (gd (inb x1 41) (lt (a 6 x1.toNatClampNeg) (fun x11 => gd (inb x1 41) (lt (a 7 x1.toNatClampNeg) (fun x13 => bd (mM_spells n x11 x13 v1 v2 v3 v4 v5 v6 g a) (fun x15 => if x15 = 0 then (some (.inl (x1 + 1))) else (some (.inr (x1))))))))) else (some (.inl (x1 + 1))))))) n 1
theorem d_M_member_0 : decode prog_11_method_17_code 0 = .ok (.iconst 1, 1) := by decide +kernel
theorem d_M_member_1 : decode prog_11_method_17_code 1 = .ok (.istore 7, 2) := by decide +kernel
theorem d_M_member_3 : decode prog_11_method_17_code 3 = .ok (.iload 7, 2) := by decide +kernel
theorem d_M_member_5 : decode prog_11_method_17_code 5 = .ok (.aload_n 0, 1) := by decide +kernel
theorem d_M_member_6 : decode prog_11_method_17_code 6 = .ok (.getfield 124, 3) := by decide +kernel
theorem d_M_member_9 : decode prog_11_method_17_code 9 = .ok (.if_icmp .ge 52, 3) := by decide +kernel
theorem d_M_member_12 : decode prog_11_method_17_code 12 = .ok (.aload_n 0, 1) := by decide +kernel
theorem d_M_member_13 : decode prog_11_method_17_code 13 = .ok (.getfield 25, 3) := by decide +kernel
theorem d_M_member_16 : decode prog_11_method_17_code 16 = .ok (.iload 7, 2) := by decide +kernel
theorem d_M_member_18 : decode prog_11_method_17_code 18 = .ok (.iaload, 1) := by decide +kernel
theorem d_M_member_19 : decode prog_11_method_17_code 19 = .ok (.ifCond .ne 36, 3) := by decide +kernel
theorem d_M_member_22 : decode prog_11_method_17_code 22 = .ok (.aload_n 0, 1) := by decide +kernel
theorem d_M_member_23 : decode prog_11_method_17_code 23 = .ok (.aload_n 0, 1) := by decide +kernel
theorem d_M_member_24 : decode prog_11_method_17_code 24 = .ok (.getfield 28, 3) := by decide +kernel
theorem d_M_member_27 : decode prog_11_method_17_code 27 = .ok (.iload 7, 2) := by decide +kernel
theorem d_M_member_29 : decode prog_11_method_17_code 29 = .ok (.iaload, 1) := by decide +kernel
theorem d_M_member_30 : decode prog_11_method_17_code 30 = .ok (.aload_n 0, 1) := by decide +kernel
theorem d_M_member_31 : decode prog_11_method_17_code 31 = .ok (.getfield 31, 3) := by decide +kernel
theorem d_M_member_34 : decode prog_11_method_17_code 34 = .ok (.iload 7, 2) := by decide +kernel
theorem d_M_member_36 : decode prog_11_method_17_code 36 = .ok (.iaload, 1) := by decide +kernel
theorem d_M_member_37 : decode prog_11_method_17_code 37 = .ok (.iload_n 1, 1) := by decide +kernel
theorem d_M_member_38 : decode prog_11_method_17_code 38 = .ok (.iload_n 2, 1) := by decide +kernel
theorem d_M_member_39 : decode prog_11_method_17_code 39 = .ok (.iload_n 3, 1) := by decide +kernel
theorem d_M_member_40 : decode prog_11_method_17_code 40 = .ok (.iload 4, 2) := by decide +kernel
theorem d_M_member_42 : decode prog_11_method_17_code 42 = .ok (.iload 5, 2) := by decide +kernel
theorem d_M_member_44 : decode prog_11_method_17_code 44 = .ok (.iload 6, 2) := by decide +kernel
theorem d_M_member_46 : decode prog_11_method_17_code 46 = .ok (.invokevirtual 170, 3) := by decide +kernel
theorem d_M_member_49 : decode prog_11_method_17_code 49 = .ok (.ifCond .eq 6, 3) := by decide +kernel
theorem d_M_member_52 : decode prog_11_method_17_code 52 = .ok (.iload 7, 2) := by decide +kernel
theorem d_M_member_54 : decode prog_11_method_17_code 54 = .ok (.ireturn, 1) := by decide +kernel
theorem d_M_member_55 : decode prog_11_method_17_code 55 = .ok (.iinc 7 1, 3) := by decide +kernel
theorem d_M_member_58 : decode prog_11_method_17_code 58 = .ok (.goto (-55), 3) := by decide +kernel
theorem d_M_member_61 : decode prog_11_method_17_code 61 = .ok (.iconst (-1), 1) := by decide +kernel
theorem d_M_member_62 : decode prog_11_method_17_code 62 = .ok (.ireturn, 1) := by decide +kernel
set_option maxHeartbeats 4000000 in
set_option maxRecDepth 100000 in
theorem cM_member (l : Launch) (dC : Nat → ClassId) (dI : Nat → Nat → Nat) (tk : Nat → ClassId) (A : Nat → Prop) (h : Nat) (L : Nat → Nat) (g : aG) (a : aA) (rw : va_W) (n : Nat) (v1 : Int32) (v2 : Int32) (v3 : Int32) (v4 : Int32) (v5 : Int32) (v6 : Int32) (r0 : Int32) (hm : mM_member n v1 v2 v3 v4 v5 v6 g a = some r0) : CtI l dC dI tk A ⟨"EditorServerModel", "member", "(IIIIII)I"⟩ prog_11_method_17_code 8 (some .int) 1 31 [.ref h, .int v1, .int v2, .int v3, .int v4, .int v5, .int v6] (oW 0 h ksM spM tk L g a rw) r0 (oW 0 h ksM spM tk L g a rw) := by
  refine ent (by decide) (Nat.le_of_ble_eq_true rfl) ?_
  intro p e s m args below meth c hx hb hr hml hown hlk hG hg hst ls hl
  unfold mM_member at hm
  have hl : lv_has ls 8 [(0, .ref h), (1, .int v1), (2, .int v2), (3, .int v3), (4, .int v4), (5, .int v5), (6, .int v6)] := hl
  refine lv_iconst (v := 1) hx hb d_M_member_0 (by decide) ?_
  refine lv_istore (lv' := [(7, .int 1), (0, .ref h), (1, .int v1), (2, .int v2), (3, .int v3), (4, .int v4), (5, .int v5), (6, .int v6)]) hx hb d_M_member_1 hl (by decide) rfl (fun ls hl => ?_)
  refine lp_u (fun x1 : Int32 => ∀ (H : Heap) (locs : List Loc) (ls : Array Slot), lv_has ls 8 [(0, .ref h), (1, .int v1), (2, .int v2), (3, .int v3), (4, .int v4), (5, .int v5), (6, .int v6), (7, .int x1)] → St dC dI A s.heap H locs (oW 0 h ksM spM tk L g a rw) → W p l e (rmo 1 31) s m args below meth c H locs 0 0 (MQ below (QI dC dI A r0 (oW 0 h ksM spM tk L g a rw)) args s 0 0 A) (F0 m 3 ls [])) ?_ n 1 hm _ _ _ (lv_sub hl [1, 2, 3, 4, 5, 6, 7, 0] rfl) hst
  rintro x1 r5 hm hJ30 hR4 H locs ls hl hst
  have hJ3 := fun y0 (e : r5 = .inl y0) => hJ30 y0 e
  refine lv_iload hx hb d_M_member_3 (lv_at hl 7 rfl) ?_
  refine lv_aload_n hx hb d_M_member_5 rfl (lv_at hl 0 rfl) ?_
  refine ro_geti hx hb hown hG hg cM hst 8 (by decide) rfl rfl k_1022 d_M_member_6 ?_
  refine lv_icmp_ge (tgt := 61) hx hb d_M_member_9 (by decide) (fun h6 => ?_) (fun h6 => ?_)
  · have hm := it_t hm h6
    refine lv_iconst (v := (-1)) hx hb d_M_member_61 (by decide) ?_
    have he := (hR4 _ (Option.some.inj hm).symm)
    cases he
    exact rt_i hx hb hr hlk rfl hst rfl d_M_member_62
  · have hm := it_f hm h6
    refine lv_aload_n hx hb d_M_member_12 rfl (lv_at hl 0 rfl) ?_
    refine ro_geta hx hb hown hG hg cM hst 13 5 (by decide) rfl rfl k_1027 d_M_member_13 ?_
    refine lv_iload hx hb d_M_member_16 (lv_at hl 7 rfl) ?_
    obtain ⟨hn7, hm⟩ := gd_u hm
    refine ro_iald hx hb hg hst 5 rfl hn7 d_M_member_18 ?_
    refine lv_topi (fun x8 ex8 => ?_)
    have hm := lt_u hm x8 ex8
    refine lv_if_ne (tgt := 55) hx hb d_M_member_19 (by decide) (fun h9 => ?_) (fun h9 => ?_)
    · have hm := it_f hm h9
      refine lv_iinc (k := 7) (v := (x1 + 1)) (lv' := [(7, .int (x1 + 1)), (0, .ref h), (1, .int v1), (2, .int v2), (3, .int v3), (4, .int v4), (5, .int v5), (6, .int v6)]) hx hb d_M_member_55 hl rfl (by rfl) (by decide) rfl (fun ls hl => ?_)
      refine lv_goto (tgt := 3) hx hb d_M_member_58 (by decide) ?_
      exact hJ3 (x1 + 1) (Option.some.inj hm).symm _ _ _ (lv_sub hl [1, 2, 3, 4, 5, 6, 7, 0] rfl) hst
    · have hm := it_t hm h9
      refine lv_aload_n hx hb d_M_member_22 rfl (lv_at hl 0 rfl) ?_
      refine lv_aload_n hx hb d_M_member_23 rfl (lv_at hl 0 rfl) ?_
      refine ro_geta hx hb hown hG hg cM hst 14 6 (by decide) rfl rfl k_1028 d_M_member_24 ?_
      refine lv_iload hx hb d_M_member_27 (lv_at hl 7 rfl) ?_
      obtain ⟨hn10, hm⟩ := gd_u hm
      refine ro_iald hx hb hg hst 6 rfl hn10 d_M_member_29 ?_
      refine lv_topi (fun x11 ex11 => ?_)
      have hm := lt_u hm x11 ex11
      refine lv_aload_n hx hb d_M_member_30 rfl (lv_at hl 0 rfl) ?_
      refine ro_geta hx hb hown hG hg cM hst 15 7 (by decide) rfl rfl k_1029 d_M_member_31 ?_
      refine lv_iload hx hb d_M_member_34 (lv_at hl 7 rfl) ?_
      obtain ⟨hn12, hm⟩ := gd_u hm
      refine ro_iald hx hb hg hst 7 rfl hn12 d_M_member_36 ?_
      refine lv_topi (fun x13 ex13 => ?_)
      have hm := lt_u hm x13 ex13
      refine lv_iload_n hx hb d_M_member_37 rfl (lv_at hl 1 rfl) ?_
      refine lv_iload_n hx hb d_M_member_38 rfl (lv_at hl 2 rfl) ?_
      refine lv_iload_n hx hb d_M_member_39 rfl (lv_at hl 3 rfl) ?_
      refine lv_iload hx hb d_M_member_40 (lv_at hl 4 rfl) ?_
      refine lv_iload hx hb d_M_member_42 (lv_at hl 5 rfl) ?_
      refine lv_iload hx hb d_M_member_44 (lv_at hl 6 rfl) ?_
      obtain ⟨x15, hc16, hm⟩ := bd_u hm
      refine cl_vi hx hb hml hown hG hg (cM_spells l dC dI tk A h L g a rw n x11 x13 v1 v2 v3 v4 v5 v6 _ hc16) (cw_v 8 hG k_1219 k_1221 s_39 k_14 k_1222 (by decide +kernel) ⟨by decide, by decide⟩) hst rfl oW_0 rfl hl.1 rfl (Nat.le_of_ble_eq_true rfl) ⟨Nat.le_refl 0, Nat.le_refl 0⟩ d_M_member_46 (fun H locs hst => ?_)
      refine lv_if_eq (tgt := 55) hx hb d_M_member_49 (by decide) (fun h17 => ?_) (fun h17 => ?_)
      · have hm := it_t hm h17
        refine lv_iinc (k := 7) (v := (x1 + 1)) (lv' := [(7, .int (x1 + 1)), (0, .ref h), (1, .int v1), (2, .int v2), (3, .int v3), (4, .int v4), (5, .int v5), (6, .int v6)]) hx hb d_M_member_55 hl rfl (by rfl) (by decide) rfl (fun ls hl => ?_)
        refine lv_goto (tgt := 3) hx hb d_M_member_58 (by decide) ?_
        exact hJ3 (x1 + 1) (Option.some.inj hm).symm _ _ _ (lv_sub hl [1, 2, 3, 4, 5, 6, 7, 0] rfl) hst
      · have hm := it_f hm h17
        refine lv_iload hx hb d_M_member_52 (lv_at hl 7 rfl) ?_
        have he := (hR4 _ (Option.some.inj hm).symm)
        cases he
        exact rt_i hx hb hr hlk rfl hst rfl d_M_member_54
def mM_remove (n : Nat) (v1 : Int32) (g : aG) (a : aA) : Option (aG × aA) := lp (ε := Int32 × aA) (fun q3 => if (g 31) ≤ (q3.1 + 1) then (lt (va_up g 31 ((g 31) - 1)) (fun g8 => some (.inr ((g8, q3.2))))) else (gd (inb (q3.1 + 1) 8) (lt (q3.2 16 (q3.1 + 1).toNatClampNeg) (fun x10 => gd (inb q3.1 8) (lt (va_up q3.2 16 (upd (q3.2 16) q3.1.toNatClampNeg x10)) (fun a12 => gd (inb (q3.1 + 1) 8) (lt (a12 17 (q3.1 + 1).toNatClampNeg) (fun x14 => gd (inb q3.1 8) (lt (va_up a12 17 (upd (a12 17) q3.1.toNatClampNeg x14)) (fun a16 => gd (inb (q3.1 + 1) 8) (lt (a16 18 (q3.1 + 1).toNatClampNeg) (fun x18 => gd (inb q3.1 8) (lt (va_up a16 18 (upd (a16 18) q3.1.toNatClampNeg x18)) (fun a20 => gd (inb (q3.1 + 1) 8) (lt (a20 19 (q3.1 + 1).toNatClampNeg) (fun x22 => gd (inb q3.1 8) (lt (va_up a20 19 (upd (a20 19) q3.1.toNatClampNeg x22)) (fun a24 => gd (inb (q3.1 + 1) 8) (lt (a24 20 (q3.1 + 1).toNatClampNeg) (fun x26 => gd (inb q3.1 8) (lt (va_up a24 20 (upd (a24 20) q3.1.toNatClampNeg x26)) (fun a28 => lp (ε := Int32 × aA) (fun q31 => if 60 ≤ q31.1 then (some (.inr (.inl ((q3.1 + 1), q31.2)))) else (gd (inb (((60 * q3.1) + 60) + q31.1) 480) (lt (q31.2 21 (((60 * q3.1) + 60) + q31.1).toNatClampNeg) (fun x37 => gd (inb ((60 * q3.1) + q31.1) 480) (lt (va_up q31.2 21 (upd (q31.2 21) ((60 * q3.1) + q31.1).toNatClampNeg x37)) (fun a39 => some (.inl ((q31.1 + 1), a39)))))))) n (0, a28))))))))))))))))))))))) n (v1, a)
theorem d_M_remove_0 : decode prog_11_method_37_code 0 = .ok (.iload_n 1, 1) := by decide +kernel
theorem d_M_remove_1 : decode prog_11_method_37_code 1 = .ok (.istore_n 2, 1) := by decide +kernel
theorem d_M_remove_2 : decode prog_11_method_37_code 2 = .ok (.iload_n 2, 1) := by decide +kernel
theorem d_M_remove_3 : decode prog_11_method_37_code 3 = .ok (.iconst 1, 1) := by decide +kernel
theorem d_M_remove_4 : decode prog_11_method_37_code 4 = .ok (.iadd, 1) := by decide +kernel
theorem d_M_remove_5 : decode prog_11_method_37_code 5 = .ok (.aload_n 0, 1) := by decide +kernel
theorem d_M_remove_6 : decode prog_11_method_37_code 6 = .ok (.getfield 213, 3) := by decide +kernel
theorem d_M_remove_9 : decode prog_11_method_37_code 9 = .ok (.if_icmp .ge 118, 3) := by decide +kernel
theorem d_M_remove_12 : decode prog_11_method_37_code 12 = .ok (.aload_n 0, 1) := by decide +kernel
theorem d_M_remove_13 : decode prog_11_method_37_code 13 = .ok (.getfield 58, 3) := by decide +kernel
theorem d_M_remove_16 : decode prog_11_method_37_code 16 = .ok (.iload_n 2, 1) := by decide +kernel
theorem d_M_remove_17 : decode prog_11_method_37_code 17 = .ok (.aload_n 0, 1) := by decide +kernel
theorem d_M_remove_18 : decode prog_11_method_37_code 18 = .ok (.getfield 58, 3) := by decide +kernel
theorem d_M_remove_21 : decode prog_11_method_37_code 21 = .ok (.iload_n 2, 1) := by decide +kernel
theorem d_M_remove_22 : decode prog_11_method_37_code 22 = .ok (.iconst 1, 1) := by decide +kernel
theorem d_M_remove_23 : decode prog_11_method_37_code 23 = .ok (.iadd, 1) := by decide +kernel
theorem d_M_remove_24 : decode prog_11_method_37_code 24 = .ok (.iaload, 1) := by decide +kernel
theorem d_M_remove_25 : decode prog_11_method_37_code 25 = .ok (.iastore, 1) := by decide +kernel
theorem d_M_remove_26 : decode prog_11_method_37_code 26 = .ok (.aload_n 0, 1) := by decide +kernel
theorem d_M_remove_27 : decode prog_11_method_37_code 27 = .ok (.getfield 61, 3) := by decide +kernel
theorem d_M_remove_30 : decode prog_11_method_37_code 30 = .ok (.iload_n 2, 1) := by decide +kernel
theorem d_M_remove_31 : decode prog_11_method_37_code 31 = .ok (.aload_n 0, 1) := by decide +kernel
theorem d_M_remove_32 : decode prog_11_method_37_code 32 = .ok (.getfield 61, 3) := by decide +kernel
theorem d_M_remove_35 : decode prog_11_method_37_code 35 = .ok (.iload_n 2, 1) := by decide +kernel
theorem d_M_remove_36 : decode prog_11_method_37_code 36 = .ok (.iconst 1, 1) := by decide +kernel
theorem d_M_remove_37 : decode prog_11_method_37_code 37 = .ok (.iadd, 1) := by decide +kernel
theorem d_M_remove_38 : decode prog_11_method_37_code 38 = .ok (.iaload, 1) := by decide +kernel
theorem d_M_remove_39 : decode prog_11_method_37_code 39 = .ok (.iastore, 1) := by decide +kernel
theorem d_M_remove_40 : decode prog_11_method_37_code 40 = .ok (.aload_n 0, 1) := by decide +kernel
theorem d_M_remove_41 : decode prog_11_method_37_code 41 = .ok (.getfield 64, 3) := by decide +kernel
theorem d_M_remove_44 : decode prog_11_method_37_code 44 = .ok (.iload_n 2, 1) := by decide +kernel
theorem d_M_remove_45 : decode prog_11_method_37_code 45 = .ok (.aload_n 0, 1) := by decide +kernel
theorem d_M_remove_46 : decode prog_11_method_37_code 46 = .ok (.getfield 64, 3) := by decide +kernel
theorem d_M_remove_49 : decode prog_11_method_37_code 49 = .ok (.iload_n 2, 1) := by decide +kernel
theorem d_M_remove_50 : decode prog_11_method_37_code 50 = .ok (.iconst 1, 1) := by decide +kernel
theorem d_M_remove_51 : decode prog_11_method_37_code 51 = .ok (.iadd, 1) := by decide +kernel
theorem d_M_remove_52 : decode prog_11_method_37_code 52 = .ok (.iaload, 1) := by decide +kernel
theorem d_M_remove_53 : decode prog_11_method_37_code 53 = .ok (.iastore, 1) := by decide +kernel
theorem d_M_remove_54 : decode prog_11_method_37_code 54 = .ok (.aload_n 0, 1) := by decide +kernel
theorem d_M_remove_55 : decode prog_11_method_37_code 55 = .ok (.getfield 67, 3) := by decide +kernel
theorem d_M_remove_58 : decode prog_11_method_37_code 58 = .ok (.iload_n 2, 1) := by decide +kernel
theorem d_M_remove_59 : decode prog_11_method_37_code 59 = .ok (.aload_n 0, 1) := by decide +kernel
theorem d_M_remove_60 : decode prog_11_method_37_code 60 = .ok (.getfield 67, 3) := by decide +kernel
theorem d_M_remove_63 : decode prog_11_method_37_code 63 = .ok (.iload_n 2, 1) := by decide +kernel
theorem d_M_remove_64 : decode prog_11_method_37_code 64 = .ok (.iconst 1, 1) := by decide +kernel
theorem d_M_remove_65 : decode prog_11_method_37_code 65 = .ok (.iadd, 1) := by decide +kernel
theorem d_M_remove_66 : decode prog_11_method_37_code 66 = .ok (.iaload, 1) := by decide +kernel
theorem d_M_remove_67 : decode prog_11_method_37_code 67 = .ok (.iastore, 1) := by decide +kernel
theorem d_M_remove_68 : decode prog_11_method_37_code 68 = .ok (.aload_n 0, 1) := by decide +kernel
theorem d_M_remove_69 : decode prog_11_method_37_code 69 = .ok (.getfield 70, 3) := by decide +kernel
theorem d_M_remove_72 : decode prog_11_method_37_code 72 = .ok (.iload_n 2, 1) := by decide +kernel
theorem d_M_remove_73 : decode prog_11_method_37_code 73 = .ok (.aload_n 0, 1) := by decide +kernel
theorem d_M_remove_74 : decode prog_11_method_37_code 74 = .ok (.getfield 70, 3) := by decide +kernel
theorem d_M_remove_77 : decode prog_11_method_37_code 77 = .ok (.iload_n 2, 1) := by decide +kernel
theorem d_M_remove_78 : decode prog_11_method_37_code 78 = .ok (.iconst 1, 1) := by decide +kernel
theorem d_M_remove_79 : decode prog_11_method_37_code 79 = .ok (.iadd, 1) := by decide +kernel
theorem d_M_remove_80 : decode prog_11_method_37_code 80 = .ok (.iaload, 1) := by decide +kernel
theorem d_M_remove_81 : decode prog_11_method_37_code 81 = .ok (.iastore, 1) := by decide +kernel
theorem d_M_remove_82 : decode prog_11_method_37_code 82 = .ok (.iconst 0, 1) := by decide +kernel
theorem d_M_remove_83 : decode prog_11_method_37_code 83 = .ok (.istore_n 3, 1) := by decide +kernel
theorem d_M_remove_84 : decode prog_11_method_37_code 84 = .ok (.iload_n 3, 1) := by decide +kernel
theorem d_M_remove_85 : decode prog_11_method_37_code 85 = .ok (.bipush 60, 2) := by decide +kernel
theorem d_M_remove_87 : decode prog_11_method_37_code 87 = .ok (.if_icmp .ge 34, 3) := by decide +kernel
theorem d_M_remove_90 : decode prog_11_method_37_code 90 = .ok (.aload_n 0, 1) := by decide +kernel
theorem d_M_remove_91 : decode prog_11_method_37_code 91 = .ok (.getfield 73, 3) := by decide +kernel
theorem d_M_remove_94 : decode prog_11_method_37_code 94 = .ok (.bipush 60, 2) := by decide +kernel
theorem d_M_remove_96 : decode prog_11_method_37_code 96 = .ok (.iload_n 2, 1) := by decide +kernel
theorem d_M_remove_97 : decode prog_11_method_37_code 97 = .ok (.imul, 1) := by decide +kernel
theorem d_M_remove_98 : decode prog_11_method_37_code 98 = .ok (.iload_n 3, 1) := by decide +kernel
theorem d_M_remove_99 : decode prog_11_method_37_code 99 = .ok (.iadd, 1) := by decide +kernel
theorem d_M_remove_100 : decode prog_11_method_37_code 100 = .ok (.aload_n 0, 1) := by decide +kernel
theorem d_M_remove_101 : decode prog_11_method_37_code 101 = .ok (.getfield 73, 3) := by decide +kernel
theorem d_M_remove_104 : decode prog_11_method_37_code 104 = .ok (.bipush 60, 2) := by decide +kernel
theorem d_M_remove_106 : decode prog_11_method_37_code 106 = .ok (.iload_n 2, 1) := by decide +kernel
theorem d_M_remove_107 : decode prog_11_method_37_code 107 = .ok (.imul, 1) := by decide +kernel
theorem d_M_remove_108 : decode prog_11_method_37_code 108 = .ok (.bipush 60, 2) := by decide +kernel
theorem d_M_remove_110 : decode prog_11_method_37_code 110 = .ok (.iadd, 1) := by decide +kernel
theorem d_M_remove_111 : decode prog_11_method_37_code 111 = .ok (.iload_n 3, 1) := by decide +kernel
theorem d_M_remove_112 : decode prog_11_method_37_code 112 = .ok (.iadd, 1) := by decide +kernel
theorem d_M_remove_113 : decode prog_11_method_37_code 113 = .ok (.iaload, 1) := by decide +kernel
theorem d_M_remove_114 : decode prog_11_method_37_code 114 = .ok (.iastore, 1) := by decide +kernel
theorem d_M_remove_115 : decode prog_11_method_37_code 115 = .ok (.iinc 3 1, 3) := by decide +kernel
theorem d_M_remove_118 : decode prog_11_method_37_code 118 = .ok (.goto (-34), 3) := by decide +kernel
theorem d_M_remove_121 : decode prog_11_method_37_code 121 = .ok (.iinc 2 1, 3) := by decide +kernel
theorem d_M_remove_124 : decode prog_11_method_37_code 124 = .ok (.goto (-122), 3) := by decide +kernel
theorem d_M_remove_127 : decode prog_11_method_37_code 127 = .ok (.aload_n 0, 1) := by decide +kernel
theorem d_M_remove_128 : decode prog_11_method_37_code 128 = .ok (.dup, 1) := by decide +kernel
theorem d_M_remove_129 : decode prog_11_method_37_code 129 = .ok (.getfield 213, 3) := by decide +kernel
theorem d_M_remove_132 : decode prog_11_method_37_code 132 = .ok (.iconst 1, 1) := by decide +kernel
theorem d_M_remove_133 : decode prog_11_method_37_code 133 = .ok (.isub, 1) := by decide +kernel
theorem d_M_remove_134 : decode prog_11_method_37_code 134 = .ok (.putfield 213, 3) := by decide +kernel
theorem d_M_remove_137 : decode prog_11_method_37_code 137 = .ok (.return_, 1) := by decide +kernel
set_option maxHeartbeats 4000000 in
set_option maxRecDepth 100000 in
theorem cM_remove (l : Launch) (dC : Nat → ClassId) (dI : Nat → Nat → Nat) (tk : Nat → ClassId) (A : Nat → Prop) (h : Nat) (L : Nat → Nat) (g : aG) (a : aA) (rw : va_W) (n : Nat) (v1 : Int32) (g0 : aG) (a0 : aA) (hm : mM_remove n v1 g a = some (g0, a0)) : CtV l dC dI tk A ⟨"EditorServerModel", "remove", "(I)V"⟩ prog_11_method_37_code 4 0 0 [.ref h, .int v1] (oW 0 h ksM spM tk L g a rw) (oW 0 h ksM spM tk L g0 a0 rw) := by
  refine ent (by decide) (Nat.le_of_ble_eq_true rfl) ?_
  intro p e s m args below meth c hx hb hr hml hown hlk hG hg hst ls hl
  unfold mM_remove at hm
  have hl : lv_has ls 4 [(0, .ref h), (1, .int v1)] := hl
  refine lv_iload_n hx hb d_M_remove_0 rfl (lv_at hl 1 rfl) ?_
  refine lv_istore_n (lv' := [(2, .int v1), (0, .ref h), (1, .int v1)]) hx hb d_M_remove_1 rfl hl (by decide) rfl (fun ls hl => ?_)
  refine lp_u (fun q3 : Int32 × aA => ∀ (H : Heap) (locs : List Loc) (ls : Array Slot), lv_has ls 4 [(0, .ref h), (1, .int v1), (2, .int q3.1)] → St dC dI A s.heap H locs (oW 0 h ksM spM tk L g q3.2 rw) → W p l e (rmo 0 0) s m args below meth c H locs 0 0 (MQ below (QV dC dI A (oW 0 h ksM spM tk L g0 a0 rw)) args s 0 0 A) (F0 m 2 ls [])) ?_ n (v1, a) hm _ _ _ (lv_sub hl [1, 2, 0] rfl) hst
  rintro ⟨x1, a2⟩ r6 hm hJ40 hR5 H locs ls hl hst
  dsimp only at hm hl hst ⊢
  have hJ4 := fun y0 y1 (e : r6 = .inl (y0, y1)) => hJ40 (y0, y1) e
  dsimp only at hJ4
  refine lv_iload_n hx hb d_M_remove_2 rfl (lv_at hl 2 rfl) ?_
  refine lv_iconst (v := 1) hx hb d_M_remove_3 (by decide) ?_
  refine lv_iadd hx hb d_M_remove_4 ?_
  refine lv_aload_n hx hb d_M_remove_5 rfl (lv_at hl 0 rfl) ?_
  refine ro_geti hx hb hown hG hg cM hst 31 (by decide) rfl rfl k_1045 d_M_remove_6 ?_
  refine lv_icmp_ge (tgt := 127) hx hb d_M_remove_9 (by decide) (fun h7 => ?_) (fun h7 => ?_)
  · have hm := it_t hm h7
    refine lv_aload_n hx hb d_M_remove_127 rfl (lv_at hl 0 rfl) ?_
    refine lv_dup hx hb d_M_remove_128 rfl ?_
    refine ro_geti hx hb hown hG hg cM hst 31 (by decide) rfl rfl k_1045 d_M_remove_129 ?_
    refine lv_iconst (v := 1) hx hb d_M_remove_132 (by decide) ?_
    refine lv_isub hx hb d_M_remove_133 ?_
    refine ro_puti hx hb hown hG hg cM hst 31 (by decide) rfl rfl rfl rfl rfl k_1045 d_M_remove_134 (fun g8 H locs eg8 hst => ?_)
    have hm := lt_u hm g8 eg8
    have he := (hR5 _ (Option.some.inj hm).symm)
    cases he
    exact rt_v hx hb hr hlk hst d_M_remove_137
  · have hm := it_f hm h7
    refine lv_aload_n hx hb d_M_remove_12 rfl (lv_at hl 0 rfl) ?_
    refine ro_geta hx hb hown hG hg cM hst 32 16 (by decide) rfl rfl k_1046 d_M_remove_13 ?_
    refine lv_iload_n hx hb d_M_remove_16 rfl (lv_at hl 2 rfl) ?_
    refine lv_aload_n hx hb d_M_remove_17 rfl (lv_at hl 0 rfl) ?_
    refine ro_geta hx hb hown hG hg cM hst 32 16 (by decide) rfl rfl k_1046 d_M_remove_18 ?_
    refine lv_iload_n hx hb d_M_remove_21 rfl (lv_at hl 2 rfl) ?_
    refine lv_iconst (v := 1) hx hb d_M_remove_22 (by decide) ?_
    refine lv_iadd hx hb d_M_remove_23 ?_
    obtain ⟨hn9, hm⟩ := gd_u hm
    refine ro_iald hx hb hg hst 16 rfl hn9 d_M_remove_24 ?_
    refine lv_topi (fun x10 ex10 => ?_)
    have hm := lt_u hm x10 ex10
    obtain ⟨hn11, hm⟩ := gd_u hm
    refine ro_iast hx hb hg hst 16 rfl hn11 d_M_remove_25 (fun a12 H locs ea12 hst => ?_)
    have hm := lt_u hm a12 ea12
    refine lv_aload_n hx hb d_M_remove_26 rfl (lv_at hl 0 rfl) ?_
    refine ro_geta hx hb hown hG hg cM hst 33 17 (by decide) rfl rfl k_1047 d_M_remove_27 ?_
    refine lv_iload_n hx hb d_M_remove_30 rfl (lv_at hl 2 rfl) ?_
    refine lv_aload_n hx hb d_M_remove_31 rfl (lv_at hl 0 rfl) ?_
    refine ro_geta hx hb hown hG hg cM hst 33 17 (by decide) rfl rfl k_1047 d_M_remove_32 ?_
    refine lv_iload_n hx hb d_M_remove_35 rfl (lv_at hl 2 rfl) ?_
    refine lv_iconst (v := 1) hx hb d_M_remove_36 (by decide) ?_
    refine lv_iadd hx hb d_M_remove_37 ?_
    obtain ⟨hn13, hm⟩ := gd_u hm
    refine ro_iald hx hb hg hst 17 rfl hn13 d_M_remove_38 ?_
    refine lv_topi (fun x14 ex14 => ?_)
    have hm := lt_u hm x14 ex14
    obtain ⟨hn15, hm⟩ := gd_u hm
    refine ro_iast hx hb hg hst 17 rfl hn15 d_M_remove_39 (fun a16 H locs ea16 hst => ?_)
    have hm := lt_u hm a16 ea16
    refine lv_aload_n hx hb d_M_remove_40 rfl (lv_at hl 0 rfl) ?_
    refine ro_geta hx hb hown hG hg cM hst 34 18 (by decide) rfl rfl k_1048 d_M_remove_41 ?_
    refine lv_iload_n hx hb d_M_remove_44 rfl (lv_at hl 2 rfl) ?_
    refine lv_aload_n hx hb d_M_remove_45 rfl (lv_at hl 0 rfl) ?_
    refine ro_geta hx hb hown hG hg cM hst 34 18 (by decide) rfl rfl k_1048 d_M_remove_46 ?_
    refine lv_iload_n hx hb d_M_remove_49 rfl (lv_at hl 2 rfl) ?_
    refine lv_iconst (v := 1) hx hb d_M_remove_50 (by decide) ?_
    refine lv_iadd hx hb d_M_remove_51 ?_
    obtain ⟨hn17, hm⟩ := gd_u hm
    refine ro_iald hx hb hg hst 18 rfl hn17 d_M_remove_52 ?_
    refine lv_topi (fun x18 ex18 => ?_)
    have hm := lt_u hm x18 ex18
    obtain ⟨hn19, hm⟩ := gd_u hm
    refine ro_iast hx hb hg hst 18 rfl hn19 d_M_remove_53 (fun a20 H locs ea20 hst => ?_)
    have hm := lt_u hm a20 ea20
    refine lv_aload_n hx hb d_M_remove_54 rfl (lv_at hl 0 rfl) ?_
    refine ro_geta hx hb hown hG hg cM hst 35 19 (by decide) rfl rfl k_1049 d_M_remove_55 ?_
    refine lv_iload_n hx hb d_M_remove_58 rfl (lv_at hl 2 rfl) ?_
    refine lv_aload_n hx hb d_M_remove_59 rfl (lv_at hl 0 rfl) ?_
    refine ro_geta hx hb hown hG hg cM hst 35 19 (by decide) rfl rfl k_1049 d_M_remove_60 ?_
    refine lv_iload_n hx hb d_M_remove_63 rfl (lv_at hl 2 rfl) ?_
    refine lv_iconst (v := 1) hx hb d_M_remove_64 (by decide) ?_
    refine lv_iadd hx hb d_M_remove_65 ?_
    obtain ⟨hn21, hm⟩ := gd_u hm
    refine ro_iald hx hb hg hst 19 rfl hn21 d_M_remove_66 ?_
    refine lv_topi (fun x22 ex22 => ?_)
    have hm := lt_u hm x22 ex22
    obtain ⟨hn23, hm⟩ := gd_u hm
    refine ro_iast hx hb hg hst 19 rfl hn23 d_M_remove_67 (fun a24 H locs ea24 hst => ?_)
    have hm := lt_u hm a24 ea24
    refine lv_aload_n hx hb d_M_remove_68 rfl (lv_at hl 0 rfl) ?_
    refine ro_geta hx hb hown hG hg cM hst 36 20 (by decide) rfl rfl k_1050 d_M_remove_69 ?_
    refine lv_iload_n hx hb d_M_remove_72 rfl (lv_at hl 2 rfl) ?_
    refine lv_aload_n hx hb d_M_remove_73 rfl (lv_at hl 0 rfl) ?_
    refine ro_geta hx hb hown hG hg cM hst 36 20 (by decide) rfl rfl k_1050 d_M_remove_74 ?_
    refine lv_iload_n hx hb d_M_remove_77 rfl (lv_at hl 2 rfl) ?_
    refine lv_iconst (v := 1) hx hb d_M_remove_78 (by decide) ?_
    refine lv_iadd hx hb d_M_remove_79 ?_
    obtain ⟨hn25, hm⟩ := gd_u hm
    refine ro_iald hx hb hg hst 20 rfl hn25 d_M_remove_80 ?_
    refine lv_topi (fun x26 ex26 => ?_)
    have hm := lt_u hm x26 ex26
    obtain ⟨hn27, hm⟩ := gd_u hm
    refine ro_iast hx hb hg hst 20 rfl hn27 d_M_remove_81 (fun a28 H locs ea28 hst => ?_)
    have hm := lt_u hm a28 ea28
    refine lv_iconst (v := 0) hx hb d_M_remove_82 (by decide) ?_
    refine lv_istore_n (lv' := [(3, .int 0), (0, .ref h), (1, .int v1), (2, .int x1)]) hx hb d_M_remove_83 rfl hl (by decide) rfl (fun ls hl => ?_)
    refine lp_u (fun q31 : Int32 × aA => ∀ (H : Heap) (locs : List Loc) (ls : Array Slot), lv_has ls 4 [(0, .ref h), (1, .int v1), (2, .int x1), (3, .int q31.1)] → St dC dI A s.heap H locs (oW 0 h ksM spM tk L g q31.2 rw) → W p l e (rmo 0 0) s m args below meth c H locs 0 0 (MQ below (QV dC dI A (oW 0 h ksM spM tk L g0 a0 rw)) args s 0 0 A) (F0 m 84 ls [])) ?_ n (0, a28) hm _ _ _ (lv_sub hl [1, 2, 3, 0] rfl) hst
    rintro ⟨x29, a30⟩ r34 hm hJ320 hR33 H locs ls hl hst
    dsimp only at hm hl hst ⊢
    have hJ32 := fun y0 y1 (e : r34 = .inl (y0, y1)) => hJ320 (y0, y1) e
    dsimp only at hJ32
    refine lv_iload_n hx hb d_M_remove_84 rfl (lv_at hl 3 rfl) ?_
    refine lv_bipush (v := 60) hx hb d_M_remove_85 (by decide) ?_
    refine lv_icmp_ge (tgt := 121) hx hb d_M_remove_87 (by decide) (fun h35 => ?_) (fun h35 => ?_)
    · have hm := it_t hm h35
      refine lv_iinc (k := 2) (v := (x1 + 1)) (lv' := [(2, .int (x1 + 1)), (0, .ref h), (1, .int v1), (3, .int x29)]) hx hb d_M_remove_121 hl rfl (by rfl) (by decide) rfl (fun ls hl => ?_)
      refine lv_goto (tgt := 2) hx hb d_M_remove_124 (by decide) ?_
      exact hJ4 (x1 + 1) a30 (hR33 _ (Option.some.inj hm).symm).symm _ _ _ (lv_sub hl [1, 2, 0] rfl) hst
    · have hm := it_f hm h35
      refine lv_aload_n hx hb d_M_remove_90 rfl (lv_at hl 0 rfl) ?_
      refine ro_geta hx hb hown hG hg cM hst 37 21 (by decide) rfl rfl k_1051 d_M_remove_91 ?_
      refine lv_bipush (v := 60) hx hb d_M_remove_94 (by decide) ?_
      refine lv_iload_n hx hb d_M_remove_96 rfl (lv_at hl 2 rfl) ?_
      refine lv_imul hx hb d_M_remove_97 ?_
      refine lv_iload_n hx hb d_M_remove_98 rfl (lv_at hl 3 rfl) ?_
      refine lv_iadd hx hb d_M_remove_99 ?_
      refine lv_aload_n hx hb d_M_remove_100 rfl (lv_at hl 0 rfl) ?_
      refine ro_geta hx hb hown hG hg cM hst 37 21 (by decide) rfl rfl k_1051 d_M_remove_101 ?_
      refine lv_bipush (v := 60) hx hb d_M_remove_104 (by decide) ?_
      refine lv_iload_n hx hb d_M_remove_106 rfl (lv_at hl 2 rfl) ?_
      refine lv_imul hx hb d_M_remove_107 ?_
      refine lv_bipush (v := 60) hx hb d_M_remove_108 (by decide) ?_
      refine lv_iadd hx hb d_M_remove_110 ?_
      refine lv_iload_n hx hb d_M_remove_111 rfl (lv_at hl 3 rfl) ?_
      refine lv_iadd hx hb d_M_remove_112 ?_
      obtain ⟨hn36, hm⟩ := gd_u hm
      refine ro_iald hx hb hg hst 21 rfl hn36 d_M_remove_113 ?_
      refine lv_topi (fun x37 ex37 => ?_)
      have hm := lt_u hm x37 ex37
      obtain ⟨hn38, hm⟩ := gd_u hm
      refine ro_iast hx hb hg hst 21 rfl hn38 d_M_remove_114 (fun a39 H locs ea39 hst => ?_)
      have hm := lt_u hm a39 ea39
      refine lv_iinc (k := 3) (v := (x29 + 1)) (lv' := [(3, .int (x29 + 1)), (0, .ref h), (1, .int v1), (2, .int x1)]) hx hb d_M_remove_115 hl rfl (by rfl) (by decide) rfl (fun ls hl => ?_)
      refine lv_goto (tgt := 84) hx hb d_M_remove_118 (by decide) ?_
      exact hJ32 (x29 + 1) a39 (Option.some.inj hm).symm _ _ _ (lv_sub hl [1, 2, 3, 0] rfl) hst
def mM_cancel (n : Nat) (v1 : Int32) (g : aG) (a : aA) : Option (Int32 × aG × aA) := bd (mM_items n v1 g a) (fun x2 => if x2 = 1 then (bd (mM_item n v1 0 g a) (fun x6 => bd (mM_isSort n x6 1 g a) (fun x9 => if x9 = 0 then (some ((0, g, a))) else (jn (α := Int32) (lp (ε := Int32) (fun x26 => if (g 31) ≤ x26 then (some (.inr (.inr ((0, g, a))))) else (gd (inb x26 8) (lt (a 16 x26.toNatClampNeg) (fun x33 => bd (mM_item n v1 0 g a) (fun x35 => gd (inb x35 41) (lt (a 2 x35.toNatClampNeg) (fun x38 => if x33 = x38 then (some (.inr (.inl x26))) else (some (.inl (x26 + 1)))))))))) n 0) (fun x14 => gd (inb x14 8) (lt (a 16 x14.toNatClampNeg) (fun x17 => bd (mM_respond n 1 x17 0 (-32800) g a) (fun q18 => bd (mM_remove n x14 q18.1 q18.2) (fun q22 => some ((1, q22.1, q22.2))))))))))) else (some ((0, g, a))))
theorem d_M_cancel_0 : decode prog_11_method_36_code 0 = .ok (.aload_n 0, 1) := by decide +kernel
theorem d_M_cancel_1 : decode prog_11_method_36_code 1 = .ok (.iload_n 1, 1) := by decide +kernel
theorem d_M_cancel_2 : decode prog_11_method_36_code 2 = .ok (.invokevirtual 225, 3) := by decide +kernel
theorem d_M_cancel_5 : decode prog_11_method_36_code 5 = .ok (.iconst 1, 1) := by decide +kernel
theorem d_M_cancel_6 : decode prog_11_method_36_code 6 = .ok (.if_icmp .ne 17, 3) := by decide +kernel
theorem d_M_cancel_9 : decode prog_11_method_36_code 9 = .ok (.aload_n 0, 1) := by decide +kernel
theorem d_M_cancel_10 : decode prog_11_method_36_code 10 = .ok (.aload_n 0, 1) := by decide +kernel
theorem d_M_cancel_11 : decode prog_11_method_36_code 11 = .ok (.iload_n 1, 1) := by decide +kernel
theorem d_M_cancel_12 : decode prog_11_method_36_code 12 = .ok (.iconst 0, 1) := by decide +kernel
theorem d_M_cancel_13 : decode prog_11_method_36_code 13 = .ok (.invokevirtual 217, 3) := by decide +kernel
theorem d_M_cancel_16 : decode prog_11_method_36_code 16 = .ok (.iconst 1, 1) := by decide +kernel
theorem d_M_cancel_17 : decode prog_11_method_36_code 17 = .ok (.invokevirtual 188, 3) := by decide +kernel
theorem d_M_cancel_20 : decode prog_11_method_36_code 20 = .ok (.ifCond .ne 5, 3) := by decide +kernel
theorem d_M_cancel_23 : decode prog_11_method_36_code 23 = .ok (.iconst 0, 1) := by decide +kernel
theorem d_M_cancel_24 : decode prog_11_method_36_code 24 = .ok (.ireturn, 1) := by decide +kernel
theorem d_M_cancel_25 : decode prog_11_method_36_code 25 = .ok (.iconst 0, 1) := by decide +kernel
theorem d_M_cancel_26 : decode prog_11_method_36_code 26 = .ok (.istore_n 2, 1) := by decide +kernel
theorem d_M_cancel_27 : decode prog_11_method_36_code 27 = .ok (.iload_n 2, 1) := by decide +kernel
theorem d_M_cancel_28 : decode prog_11_method_36_code 28 = .ok (.aload_n 0, 1) := by decide +kernel
theorem d_M_cancel_29 : decode prog_11_method_36_code 29 = .ok (.getfield 213, 3) := by decide +kernel
theorem d_M_cancel_32 : decode prog_11_method_36_code 32 = .ok (.if_icmp .ge 54, 3) := by decide +kernel
theorem d_M_cancel_35 : decode prog_11_method_36_code 35 = .ok (.aload_n 0, 1) := by decide +kernel
theorem d_M_cancel_36 : decode prog_11_method_36_code 36 = .ok (.getfield 58, 3) := by decide +kernel
theorem d_M_cancel_39 : decode prog_11_method_36_code 39 = .ok (.iload_n 2, 1) := by decide +kernel
theorem d_M_cancel_40 : decode prog_11_method_36_code 40 = .ok (.iaload, 1) := by decide +kernel
theorem d_M_cancel_41 : decode prog_11_method_36_code 41 = .ok (.aload_n 0, 1) := by decide +kernel
theorem d_M_cancel_42 : decode prog_11_method_36_code 42 = .ok (.getfield 16, 3) := by decide +kernel
theorem d_M_cancel_45 : decode prog_11_method_36_code 45 = .ok (.aload_n 0, 1) := by decide +kernel
theorem d_M_cancel_46 : decode prog_11_method_36_code 46 = .ok (.iload_n 1, 1) := by decide +kernel
theorem d_M_cancel_47 : decode prog_11_method_36_code 47 = .ok (.iconst 0, 1) := by decide +kernel
theorem d_M_cancel_48 : decode prog_11_method_36_code 48 = .ok (.invokevirtual 217, 3) := by decide +kernel
theorem d_M_cancel_51 : decode prog_11_method_36_code 51 = .ok (.iaload, 1) := by decide +kernel
theorem d_M_cancel_52 : decode prog_11_method_36_code 52 = .ok (.if_icmp .eq 6, 3) := by decide +kernel
theorem d_M_cancel_55 : decode prog_11_method_36_code 55 = .ok (.goto 25, 3) := by decide +kernel
theorem d_M_cancel_58 : decode prog_11_method_36_code 58 = .ok (.aload_n 0, 1) := by decide +kernel
theorem d_M_cancel_59 : decode prog_11_method_36_code 59 = .ok (.iconst 1, 1) := by decide +kernel
theorem d_M_cancel_60 : decode prog_11_method_36_code 60 = .ok (.aload_n 0, 1) := by decide +kernel
theorem d_M_cancel_61 : decode prog_11_method_36_code 61 = .ok (.getfield 58, 3) := by decide +kernel
theorem d_M_cancel_64 : decode prog_11_method_36_code 64 = .ok (.iload_n 2, 1) := by decide +kernel
theorem d_M_cancel_65 : decode prog_11_method_36_code 65 = .ok (.iaload, 1) := by decide +kernel
theorem d_M_cancel_66 : decode prog_11_method_36_code 66 = .ok (.iconst 0, 1) := by decide +kernel
theorem d_M_cancel_67 : decode prog_11_method_36_code 67 = .ok (.ldc_w 262, 3) := by decide +kernel
theorem d_M_cancel_70 : decode prog_11_method_36_code 70 = .ok (.invokevirtual 180, 3) := by decide +kernel
theorem d_M_cancel_73 : decode prog_11_method_36_code 73 = .ok (.aload_n 0, 1) := by decide +kernel
theorem d_M_cancel_74 : decode prog_11_method_36_code 74 = .ok (.iload_n 2, 1) := by decide +kernel
theorem d_M_cancel_75 : decode prog_11_method_36_code 75 = .ok (.invokevirtual 263, 3) := by decide +kernel
theorem d_M_cancel_78 : decode prog_11_method_36_code 78 = .ok (.iconst 1, 1) := by decide +kernel
theorem d_M_cancel_79 : decode prog_11_method_36_code 79 = .ok (.ireturn, 1) := by decide +kernel
theorem d_M_cancel_80 : decode prog_11_method_36_code 80 = .ok (.iinc 2 1, 3) := by decide +kernel
theorem d_M_cancel_83 : decode prog_11_method_36_code 83 = .ok (.goto (-56), 3) := by decide +kernel
theorem d_M_cancel_86 : decode prog_11_method_36_code 86 = .ok (.iconst 0, 1) := by decide +kernel
theorem d_M_cancel_87 : decode prog_11_method_36_code 87 = .ok (.ireturn, 1) := by decide +kernel
set_option maxHeartbeats 4000000 in
set_option maxRecDepth 100000 in
theorem cM_cancel (l : Launch) (dC : Nat → ClassId) (dI : Nat → Nat → Nat) (tk : Nat → ClassId) (A : Nat → Prop) (h : Nat) (L : Nat → Nat) (g : aG) (a : aA) (rw : va_W) (n : Nat) (v1 : Int32) (r0 : Int32) (g0 : aG) (a0 : aA) (hm : mM_cancel n v1 g a = some (r0, g0, a0)) : CtI l dC dI tk A ⟨"EditorServerModel", "cancel", "(I)Z"⟩ prog_11_method_36_code 3 (some .boolean) 1 24 [.ref h, .int v1] (oW 0 h ksM spM tk L g a rw) r0 (oW 0 h ksM spM tk L g0 a0 rw) := by
  refine ent (by decide) (Nat.le_of_ble_eq_true rfl) ?_
  intro p e s m args below meth c hx hb hr hml hown hlk hG hg hst ls hl
  unfold mM_cancel at hm
  have hl : lv_has ls 3 [(0, .ref h), (1, .int v1)] := hl
  refine lv_aload_n hx hb d_M_cancel_0 rfl (lv_at hl 0 rfl) ?_
  refine lv_iload_n hx hb d_M_cancel_1 rfl (lv_at hl 1 rfl) ?_
  obtain ⟨x2, hc3, hm⟩ := bd_u hm
  refine cl_vi hx hb hml hown hG hg (cM_items l dC dI tk A h L g a rw n v1 _ hc3) (cw_v 1 hG k_1247 k_1249 s_46 k_14 k_1250 (by decide +kernel) ⟨by decide, by decide⟩) hst rfl oW_0 rfl hl.1 rfl (Nat.le_of_ble_eq_true rfl) ⟨Nat.le_refl 0, Nat.le_refl 0⟩ d_M_cancel_2 (fun H locs hst => ?_)
  refine lv_iconst (v := 1) hx hb d_M_cancel_5 (by decide) ?_
  refine lv_icmp_ne (tgt := 23) hx hb d_M_cancel_6 (by decide) (fun h4 => ?_) (fun h4 => ?_)
  · have hm := it_f hm h4
    refine lv_iconst (v := 0) hx hb d_M_cancel_23 (by decide) ?_
    have he := (Option.some.inj hm)
    cases he
    exact rt_i hx hb hr hlk (by decide) hst rfl d_M_cancel_24
  · have hm := it_t hm h4
    refine lv_aload_n hx hb d_M_cancel_9 rfl (lv_at hl 0 rfl) ?_
    refine lv_aload_n hx hb d_M_cancel_10 rfl (lv_at hl 0 rfl) ?_
    refine lv_iload_n hx hb d_M_cancel_11 rfl (lv_at hl 1 rfl) ?_
    refine lv_iconst (v := 0) hx hb d_M_cancel_12 (by decide) ?_
    obtain ⟨x6, hc7, hm⟩ := bd_u hm
    refine cl_vi hx hb hml hown hG hg (cM_item l dC dI tk A h L g a rw n v1 0 _ hc7) (cw_v 2 hG k_1251 k_1253 s_47 k_14 k_1254 (by decide +kernel) ⟨by decide, by decide⟩) hst rfl oW_0 rfl hl.1 rfl (Nat.le_of_ble_eq_true rfl) ⟨Nat.le_refl 0, Nat.le_refl 0⟩ d_M_cancel_13 (fun H locs hst => ?_)
    refine lv_iconst (v := 1) hx hb d_M_cancel_16 (by decide) ?_
    obtain ⟨x9, hc10, hm⟩ := bd_u hm
    refine cl_vi hx hb hml hown hG hg (cM_isSort l dC dI tk A h L g a rw n x6 1 _ hc10) (cw_v 2 hG k_1223 k_1225 s_40 k_14 k_1226 (by decide +kernel) ⟨by decide, by decide⟩) hst rfl oW_0 rfl hl.1 rfl (Nat.le_of_ble_eq_true rfl) ⟨Nat.le_refl 0, Nat.le_refl 0⟩ d_M_cancel_17 (fun H locs hst => ?_)
    refine lv_if_ne (tgt := 25) hx hb d_M_cancel_20 (by decide) (fun h11 => ?_) (fun h11 => ?_)
    · have hm := it_f hm h11
      refine lv_iconst (v := 0) hx hb d_M_cancel_25 (by decide) ?_
      refine lv_istore_n (lv' := [(2, .int 0), (0, .ref h), (1, .int v1)]) hx hb d_M_cancel_26 rfl hl (by decide) rfl (fun ls hl => ?_)
      obtain ⟨qJ12, hm, hLJ12, hR13⟩ := jn_u hm
      have hJ12 : ∀ (x14 : Int32), qJ12 = .inl x14 → ∀ (H : Heap) (locs : List Loc) (ls : Array Slot), lv_has ls 3 [(0, .ref h), (1, .int v1), (2, .int x14)] → St dC dI A s.heap H locs (oW 0 h ksM spM tk L g a rw) → W p l e (rmo 1 24) s m args below meth c H locs 0 0 (MQ below (QI dC dI A r0 (oW 0 h ksM spM tk L g0 a0 rw)) args s 0 0 A) (F0 m 58 ls []) := by
        intro x14 hq H locs ls hl hst
        have hm := hLJ12 _ hq
        refine lv_aload_n hx hb d_M_cancel_58 rfl (lv_at hl 0 rfl) ?_
        refine lv_iconst (v := 1) hx hb d_M_cancel_59 (by decide) ?_
        refine lv_aload_n hx hb d_M_cancel_60 rfl (lv_at hl 0 rfl) ?_
        refine ro_geta hx hb hown hG hg cM hst 32 16 (by decide) rfl rfl k_1046 d_M_cancel_61 ?_
        refine lv_iload_n hx hb d_M_cancel_64 rfl (lv_at hl 2 rfl) ?_
        obtain ⟨hn16, hm⟩ := gd_u hm
        refine ro_iald hx hb hg hst 16 rfl hn16 d_M_cancel_65 ?_
        refine lv_topi (fun x17 ex17 => ?_)
        have hm := lt_u hm x17 ex17
        refine lv_iconst (v := 0) hx hb d_M_cancel_66 (by decide) ?_
        refine lv_ldcw (v := (-32800)) hx hb hown (hG _ k_1294) d_M_cancel_67 ?_
        obtain ⟨⟨g19, a20⟩, hc21, hm⟩ := bd_u hm
        dsimp only at hm
        refine cl_vv hx hb hml hown hG hg (cM_respond l dC dI tk A h L g a rw n 1 x17 0 (-32800) _ _ hc21) (cw_v 4 hG k_1211 k_1213 s_37 k_14 k_1214 (by decide +kernel) ⟨by decide, by decide⟩) hst rfl oW_0 rfl hl.1 rfl (Nat.le_of_ble_eq_true rfl) ⟨Nat.le_refl 0, Nat.le_refl 0⟩ d_M_cancel_70 (fun H locs hst => ?_)
        refine lv_aload_n hx hb d_M_cancel_73 rfl (lv_at hl 0 rfl) ?_
        refine lv_iload_n hx hb d_M_cancel_74 rfl (lv_at hl 2 rfl) ?_
        obtain ⟨⟨g23, a24⟩, hc25, hm⟩ := bd_u hm
        dsimp only at hm
        refine cl_vv hx hb hml hown hG hg (cM_remove l dC dI tk A h L g19 a20 rw n x14 _ _ hc25) (cw_v 1 hG k_1295 k_1297 s_56 k_14 k_1298 (by decide +kernel) ⟨by decide, by decide⟩) hst rfl oW_0 rfl hl.1 rfl (Nat.le_of_ble_eq_true rfl) ⟨Nat.le_refl 0, Nat.le_refl 0⟩ d_M_cancel_75 (fun H locs hst => ?_)
        refine lv_iconst (v := 1) hx hb d_M_cancel_78 (by decide) ?_
        have he := (Option.some.inj hm)
        cases he
        exact rt_i hx hb hr hlk (by decide) hst rfl d_M_cancel_79
      refine lp_u (fun x26 : Int32 => ∀ (H : Heap) (locs : List Loc) (ls : Array Slot), lv_has ls 3 [(0, .ref h), (1, .int v1), (2, .int x26)] → St dC dI A s.heap H locs (oW 0 h ksM spM tk L g a rw) → W p l e (rmo 1 24) s m args below meth c H locs 0 0 (MQ below (QI dC dI A r0 (oW 0 h ksM spM tk L g0 a0 rw)) args s 0 0 A) (F0 m 27 ls [])) ?_ n 0 hm _ _ _ (lv_sub hl [1, 2, 0] rfl) hst
      rintro x26 r30 hm hJ280 hR29 H locs ls hl hst
      have hJ28 := fun y0 (e : r30 = .inl y0) => hJ280 y0 e
      refine lv_iload_n hx hb d_M_cancel_27 rfl (lv_at hl 2 rfl) ?_
      refine lv_aload_n hx hb d_M_cancel_28 rfl (lv_at hl 0 rfl) ?_
      refine ro_geti hx hb hown hG hg cM hst 31 (by decide) rfl rfl k_1045 d_M_cancel_29 ?_
      refine lv_icmp_ge (tgt := 86) hx hb d_M_cancel_32 (by decide) (fun h31 => ?_) (fun h31 => ?_)
      · have hm := it_t hm h31
        refine lv_iconst (v := 0) hx hb d_M_cancel_86 (by decide) ?_
        have he := (hR13 _ (hR29 _ (Option.some.inj hm).symm).symm)
        cases he
        exact rt_i hx hb hr hlk (by decide) hst rfl d_M_cancel_87
      · have hm := it_f hm h31
        refine lv_aload_n hx hb d_M_cancel_35 rfl (lv_at hl 0 rfl) ?_
        refine ro_geta hx hb hown hG hg cM hst 32 16 (by decide) rfl rfl k_1046 d_M_cancel_36 ?_
        refine lv_iload_n hx hb d_M_cancel_39 rfl (lv_at hl 2 rfl) ?_
        obtain ⟨hn32, hm⟩ := gd_u hm
        refine ro_iald hx hb hg hst 16 rfl hn32 d_M_cancel_40 ?_
        refine lv_topi (fun x33 ex33 => ?_)
        have hm := lt_u hm x33 ex33
        refine lv_aload_n hx hb d_M_cancel_41 rfl (lv_at hl 0 rfl) ?_
        refine ro_geta hx hb hown hG hg cM hst 10 2 (by decide) rfl rfl k_1024 d_M_cancel_42 ?_
        refine lv_aload_n hx hb d_M_cancel_45 rfl (lv_at hl 0 rfl) ?_
        refine lv_iload_n hx hb d_M_cancel_46 rfl (lv_at hl 1 rfl) ?_
        refine lv_iconst (v := 0) hx hb d_M_cancel_47 (by decide) ?_
        obtain ⟨x35, hc36, hm⟩ := bd_u hm
        refine cl_vi hx hb hml hown hG hg (cM_item l dC dI tk A h L g a rw n v1 0 _ hc36) (cw_v 2 hG k_1251 k_1253 s_47 k_14 k_1254 (by decide +kernel) ⟨by decide, by decide⟩) hst rfl oW_0 rfl hl.1 rfl (Nat.le_of_ble_eq_true rfl) ⟨Nat.le_refl 0, Nat.le_refl 0⟩ d_M_cancel_48 (fun H locs hst => ?_)
        obtain ⟨hn37, hm⟩ := gd_u hm
        refine ro_iald hx hb hg hst 2 rfl hn37 d_M_cancel_51 ?_
        refine lv_topi (fun x38 ex38 => ?_)
        have hm := lt_u hm x38 ex38
        refine lv_icmp_eq (tgt := 58) hx hb d_M_cancel_52 (by decide) (fun h39 => ?_) (fun h39 => ?_)
        · have hm := it_t hm h39
          exact hJ12 x26 (hR29 _ (Option.some.inj hm).symm).symm _ _ _ (lv_sub hl [0, 1, 2] rfl) hst
        · have hm := it_f hm h39
          refine lv_goto (tgt := 80) hx hb d_M_cancel_55 (by decide) ?_
          refine lv_iinc (k := 2) (v := (x26 + 1)) (lv' := [(2, .int (x26 + 1)), (0, .ref h), (1, .int v1)]) hx hb d_M_cancel_80 hl rfl (by rfl) (by decide) rfl (fun ls hl => ?_)
          refine lv_goto (tgt := 27) hx hb d_M_cancel_83 (by decide) ?_
          exact hJ28 (x26 + 1) (Option.some.inj hm).symm _ _ _ (lv_sub hl [1, 2, 0] rfl) hst
    · have hm := it_t hm h11
      refine lv_iconst (v := 0) hx hb d_M_cancel_23 (by decide) ?_
      have he := (Option.some.inj hm)
      cases he
      exact rt_i hx hb hr hlk (by decide) hst rfl d_M_cancel_24
def mM_linesOf (n : Nat) (fp : Nat → Int32) (np : Nat) (v1 : Int32) (v2 : Int32) : Option (Int32) := lp (ε := Int32 × Int32) (fun q3 => if (v1 + v2) ≤ q3.2 then (some (.inr (q3.1))) else (gd (inb q3.2 np) (lt (fp q3.2.toNatClampNeg) (fun x9 => if x9 = 10 then (lt ((q3.1 + 1)) (fun x12 => some (.inl (x12, (q3.2 + 1))))) else (lt ((q3.1 + 0)) (fun x11 => some (.inl (x11, (q3.2 + 1))))))))) n (1, v1)
theorem d_M_linesOf_0 : decode prog_11_method_38_code 0 = .ok (.iconst 1, 1) := by decide +kernel
theorem d_M_linesOf_1 : decode prog_11_method_38_code 1 = .ok (.istore_n 3, 1) := by decide +kernel
theorem d_M_linesOf_2 : decode prog_11_method_38_code 2 = .ok (.iload_n 1, 1) := by decide +kernel
theorem d_M_linesOf_3 : decode prog_11_method_38_code 3 = .ok (.istore 4, 2) := by decide +kernel
theorem d_M_linesOf_5 : decode prog_11_method_38_code 5 = .ok (.iload 4, 2) := by decide +kernel
theorem d_M_linesOf_7 : decode prog_11_method_38_code 7 = .ok (.iload_n 1, 1) := by decide +kernel
theorem d_M_linesOf_8 : decode prog_11_method_38_code 8 = .ok (.iload_n 2, 1) := by decide +kernel
theorem d_M_linesOf_9 : decode prog_11_method_38_code 9 = .ok (.iadd, 1) := by decide +kernel
theorem d_M_linesOf_10 : decode prog_11_method_38_code 10 = .ok (.if_icmp .ge 26, 3) := by decide +kernel
theorem d_M_linesOf_13 : decode prog_11_method_38_code 13 = .ok (.iload_n 3, 1) := by decide +kernel
theorem d_M_linesOf_14 : decode prog_11_method_38_code 14 = .ok (.aload_n 0, 1) := by decide +kernel
theorem d_M_linesOf_15 : decode prog_11_method_38_code 15 = .ok (.iload 4, 2) := by decide +kernel
theorem d_M_linesOf_17 : decode prog_11_method_38_code 17 = .ok (.iaload, 1) := by decide +kernel
theorem d_M_linesOf_18 : decode prog_11_method_38_code 18 = .ok (.bipush 10, 2) := by decide +kernel
theorem d_M_linesOf_20 : decode prog_11_method_38_code 20 = .ok (.if_icmp .ne 7, 3) := by decide +kernel
theorem d_M_linesOf_23 : decode prog_11_method_38_code 23 = .ok (.iconst 1, 1) := by decide +kernel
theorem d_M_linesOf_24 : decode prog_11_method_38_code 24 = .ok (.goto 4, 3) := by decide +kernel
theorem d_M_linesOf_27 : decode prog_11_method_38_code 27 = .ok (.iconst 0, 1) := by decide +kernel
theorem d_M_linesOf_28 : decode prog_11_method_38_code 28 = .ok (.iadd, 1) := by decide +kernel
theorem d_M_linesOf_29 : decode prog_11_method_38_code 29 = .ok (.istore_n 3, 1) := by decide +kernel
theorem d_M_linesOf_30 : decode prog_11_method_38_code 30 = .ok (.iinc 4 1, 3) := by decide +kernel
theorem d_M_linesOf_33 : decode prog_11_method_38_code 33 = .ok (.goto (-28), 3) := by decide +kernel
theorem d_M_linesOf_36 : decode prog_11_method_38_code 36 = .ok (.iload_n 3, 1) := by decide +kernel
theorem d_M_linesOf_37 : decode prog_11_method_38_code 37 = .ok (.ireturn, 1) := by decide +kernel
set_option maxHeartbeats 4000000 in
set_option maxRecDepth 100000 in
theorem cM_linesOf (l : Launch) (dC : Nat → ClassId) (dI : Nat → Nat → Nat) (tk : Nat → ClassId) (A : Nat → Prop) (h : Nat) (L : Nat → Nat) (g : aG) (a : aA) (rw : va_W) (n : Nat) (jp np : Nat) (hsp : spM[jp]? = some (0, np)) (v1 : Int32) (v2 : Int32) (r0 : Int32) (hm : mM_linesOf n (a jp) np v1 v2 = some r0) : CtI l dC dI tk A ⟨"EditorServerModel", "linesOf", "([III)I"⟩ prog_11_method_38_code 5 (some .int) 0 0 [.ref (L jp), .int v1, .int v2] (oW 0 h ksM spM tk L g a rw) r0 (oW 0 h ksM spM tk L g a rw) := by
  refine ent (by decide) (Nat.le_of_ble_eq_true rfl) ?_
  intro p e s m args below meth c hx hb hr hml hown hlk hG hg hst ls hl
  unfold mM_linesOf at hm
  have hl : lv_has ls 5 [(0, .ref (L jp)), (1, .int v1), (2, .int v2)] := hl
  refine lv_iconst (v := 1) hx hb d_M_linesOf_0 (by decide) ?_
  refine lv_istore_n (lv' := [(3, .int 1), (0, .ref (L jp)), (1, .int v1), (2, .int v2)]) hx hb d_M_linesOf_1 rfl hl (by decide) rfl (fun ls hl => ?_)
  refine lv_iload_n hx hb d_M_linesOf_2 rfl (lv_at hl 2 rfl) ?_
  refine lv_istore (lv' := [(4, .int v1), (3, .int 1), (0, .ref (L jp)), (1, .int v1), (2, .int v2)]) hx hb d_M_linesOf_3 hl (by decide) rfl (fun ls hl => ?_)
  refine lp_u (fun q3 : Int32 × Int32 => ∀ (H : Heap) (locs : List Loc) (ls : Array Slot), lv_has ls 5 [(0, .ref (L jp)), (1, .int v1), (2, .int v2), (3, .int q3.1), (4, .int q3.2)] → St dC dI A s.heap H locs (oW 0 h ksM spM tk L g a rw) → W p l e (rmo 0 0) s m args below meth c H locs 0 0 (MQ below (QI dC dI A r0 (oW 0 h ksM spM tk L g a rw)) args s 0 0 A) (F0 m 5 ls [])) ?_ n (1, v1) hm _ _ _ (lv_sub hl [2, 3, 4, 1, 0] rfl) hst
  rintro ⟨x1, x2⟩ r6 hm hJ40 hR5 H locs ls hl hst
  dsimp only at hm hl hst ⊢
  have hJ4 := fun y0 y1 (e : r6 = .inl (y0, y1)) => hJ40 (y0, y1) e
  dsimp only at hJ4
  refine lv_iload hx hb d_M_linesOf_5 (lv_at hl 4 rfl) ?_
  refine lv_iload_n hx hb d_M_linesOf_7 rfl (lv_at hl 1 rfl) ?_
  refine lv_iload_n hx hb d_M_linesOf_8 rfl (lv_at hl 2 rfl) ?_
  refine lv_iadd hx hb d_M_linesOf_9 ?_
  refine lv_icmp_ge (tgt := 36) hx hb d_M_linesOf_10 (by decide) (fun h7 => ?_) (fun h7 => ?_)
  · have hm := it_t hm h7
    refine lv_iload_n hx hb d_M_linesOf_36 rfl (lv_at hl 3 rfl) ?_
    have he := (hR5 _ (Option.some.inj hm).symm)
    cases he
    exact rt_i hx hb hr hlk rfl hst rfl d_M_linesOf_37
  · have hm := it_f hm h7
    refine lv_iload_n hx hb d_M_linesOf_13 rfl (lv_at hl 3 rfl) ?_
    refine lv_aload_n hx hb d_M_linesOf_14 rfl (lv_at hl 0 rfl) ?_
    refine lv_iload hx hb d_M_linesOf_15 (lv_at hl 4 rfl) ?_
    obtain ⟨hn8, hm⟩ := gd_u hm
    refine ro_iald hx hb hg hst jp hsp hn8 d_M_linesOf_17 ?_
    refine lv_topi (fun x9 ex9 => ?_)
    have hm := lt_u hm x9 ex9
    refine lv_bipush (v := 10) hx hb d_M_linesOf_18 (by decide) ?_
    refine lv_icmp_ne (tgt := 27) hx hb d_M_linesOf_20 (by decide) (fun h10 => ?_) (fun h10 => ?_)
    · have hm := it_f hm h10
      refine lv_iconst (v := 0) hx hb d_M_linesOf_27 (by decide) ?_
      refine lv_iadd hx hb d_M_linesOf_28 ?_
      refine lv_topi (fun x11 ex11 => ?_)
      have hm := lt_u hm x11 ex11
      refine lv_istore_n (lv' := [(3, .int x11), (0, .ref (L jp)), (1, .int v1), (2, .int v2), (4, .int x2)]) hx hb d_M_linesOf_29 rfl hl (by decide) rfl (fun ls hl => ?_)
      refine lv_iinc (k := 4) (v := (x2 + 1)) (lv' := [(4, .int (x2 + 1)), (3, .int x11), (0, .ref (L jp)), (1, .int v1), (2, .int v2)]) hx hb d_M_linesOf_30 hl rfl (by rfl) (by decide) rfl (fun ls hl => ?_)
      refine lv_goto (tgt := 5) hx hb d_M_linesOf_33 (by decide) ?_
      exact hJ4 x11 (x2 + 1) (Option.some.inj hm).symm _ _ _ (lv_sub hl [2, 3, 4, 1, 0] rfl) hst
    · have hm := it_t hm h10
      refine lv_iconst (v := 1) hx hb d_M_linesOf_23 (by decide) ?_
      refine lv_goto (tgt := 28) hx hb d_M_linesOf_24 (by decide) ?_
      refine lv_iadd hx hb d_M_linesOf_28 ?_
      refine lv_topi (fun x12 ex12 => ?_)
      have hm := lt_u hm x12 ex12
      refine lv_istore_n (lv' := [(3, .int x12), (0, .ref (L jp)), (1, .int v1), (2, .int v2), (4, .int x2)]) hx hb d_M_linesOf_29 rfl hl (by decide) rfl (fun ls hl => ?_)
      refine lv_iinc (k := 4) (v := (x2 + 1)) (lv' := [(4, .int (x2 + 1)), (3, .int x12), (0, .ref (L jp)), (1, .int v1), (2, .int v2)]) hx hb d_M_linesOf_30 hl rfl (by rfl) (by decide) rfl (fun ls hl => ?_)
      refine lv_goto (tgt := 5) hx hb d_M_linesOf_33 (by decide) ?_
      exact hJ4 x12 (x2 + 1) (Option.some.inj hm).symm _ _ _ (lv_sub hl [2, 3, 4, 1, 0] rfl) hst
def mM_placeIn (n : Nat) (fp : Nat → Int32) (np : Nat) (v1 : Int32) (v2 : Int32) (v3 : Int32) (v4 : Int32) : Option (Int32) := if 0 ≤ v3 then (bd (mM_linesOf n fp np v1 v2) (fun x3 => if v3 < x3 then (jn (α := Int32) (lp (ε := Int32 × Int32) (fun q31 => if q31.2 ≤ 0 then (some (.inr (.inl q31.1))) else (gd (inb (v1 + q31.1) np) (lt (fp (v1 + q31.1).toNatClampNeg) (fun x37 => if x37 = 10 then (some (.inl ((q31.1 + 1), (q31.2 + (-1))))) else (some (.inl ((q31.1 + 1), q31.2))))))) n (0, v3)) (fun x8 => lp (ε := Int32 × Int32) (fun q12 => if v2 ≤ q12.1 then (some (.inr (q12.1))) else (gd (inb (v1 + q12.1) np) (lt (fp (v1 + q12.1).toNatClampNeg) (fun x18 => if x18 = 10 then (some (.inr (q12.1))) else (gd (inb (v1 + q12.1) np) (lt (fp (v1 + q12.1).toNatClampNeg) (fun x21 => jn (α := Int32) (if x21 = 126 then (some (.inl 2)) else (some (.inl 1))) (fun x24 => lt ((q12.2 + x24)) (fun x26 => if x26 ≤ v4 then (some (.inl ((q12.1 + 1), x26))) else (some (.inr (q12.1)))))))))))) n (x8, 0))) else (some (v2)))) else (some (0))
theorem d_M_placeIn_0 : decode prog_11_method_39_code 0 = .ok (.iload_n 3, 1) := by decide +kernel
theorem d_M_placeIn_1 : decode prog_11_method_39_code 1 = .ok (.ifCond .ge 5, 3) := by decide +kernel
theorem d_M_placeIn_4 : decode prog_11_method_39_code 4 = .ok (.iconst 0, 1) := by decide +kernel
theorem d_M_placeIn_5 : decode prog_11_method_39_code 5 = .ok (.ireturn, 1) := by decide +kernel
theorem d_M_placeIn_6 : decode prog_11_method_39_code 6 = .ok (.iload_n 3, 1) := by decide +kernel
theorem d_M_placeIn_7 : decode prog_11_method_39_code 7 = .ok (.aload_n 0, 1) := by decide +kernel
theorem d_M_placeIn_8 : decode prog_11_method_39_code 8 = .ok (.iload_n 1, 1) := by decide +kernel
theorem d_M_placeIn_9 : decode prog_11_method_39_code 9 = .ok (.iload_n 2, 1) := by decide +kernel
theorem d_M_placeIn_10 : decode prog_11_method_39_code 10 = .ok (.invokestatic 266, 3) := by decide +kernel
theorem d_M_placeIn_13 : decode prog_11_method_39_code 13 = .ok (.if_icmp .lt 5, 3) := by decide +kernel
theorem d_M_placeIn_16 : decode prog_11_method_39_code 16 = .ok (.iload_n 2, 1) := by decide +kernel
theorem d_M_placeIn_17 : decode prog_11_method_39_code 17 = .ok (.ireturn, 1) := by decide +kernel
theorem d_M_placeIn_18 : decode prog_11_method_39_code 18 = .ok (.iconst 0, 1) := by decide +kernel
theorem d_M_placeIn_19 : decode prog_11_method_39_code 19 = .ok (.istore 5, 2) := by decide +kernel
theorem d_M_placeIn_21 : decode prog_11_method_39_code 21 = .ok (.iload_n 3, 1) := by decide +kernel
theorem d_M_placeIn_22 : decode prog_11_method_39_code 22 = .ok (.istore 6, 2) := by decide +kernel
theorem d_M_placeIn_24 : decode prog_11_method_39_code 24 = .ok (.iload 6, 2) := by decide +kernel
theorem d_M_placeIn_26 : decode prog_11_method_39_code 26 = .ok (.ifCond .le 23, 3) := by decide +kernel
theorem d_M_placeIn_29 : decode prog_11_method_39_code 29 = .ok (.aload_n 0, 1) := by decide +kernel
theorem d_M_placeIn_30 : decode prog_11_method_39_code 30 = .ok (.iload_n 1, 1) := by decide +kernel
theorem d_M_placeIn_31 : decode prog_11_method_39_code 31 = .ok (.iload 5, 2) := by decide +kernel
theorem d_M_placeIn_33 : decode prog_11_method_39_code 33 = .ok (.iadd, 1) := by decide +kernel
theorem d_M_placeIn_34 : decode prog_11_method_39_code 34 = .ok (.iaload, 1) := by decide +kernel
theorem d_M_placeIn_35 : decode prog_11_method_39_code 35 = .ok (.bipush 10, 2) := by decide +kernel
theorem d_M_placeIn_37 : decode prog_11_method_39_code 37 = .ok (.if_icmp .ne 6, 3) := by decide +kernel
theorem d_M_placeIn_40 : decode prog_11_method_39_code 40 = .ok (.iinc 6 (-1), 3) := by decide +kernel
theorem d_M_placeIn_43 : decode prog_11_method_39_code 43 = .ok (.iinc 5 1, 3) := by decide +kernel
theorem d_M_placeIn_46 : decode prog_11_method_39_code 46 = .ok (.goto (-22), 3) := by decide +kernel
theorem d_M_placeIn_49 : decode prog_11_method_39_code 49 = .ok (.iconst 0, 1) := by decide +kernel
theorem d_M_placeIn_50 : decode prog_11_method_39_code 50 = .ok (.istore 7, 2) := by decide +kernel
theorem d_M_placeIn_52 : decode prog_11_method_39_code 52 = .ok (.iload 5, 2) := by decide +kernel
theorem d_M_placeIn_54 : decode prog_11_method_39_code 54 = .ok (.iload_n 2, 1) := by decide +kernel
theorem d_M_placeIn_55 : decode prog_11_method_39_code 55 = .ok (.if_icmp .ge 51, 3) := by decide +kernel
theorem d_M_placeIn_58 : decode prog_11_method_39_code 58 = .ok (.aload_n 0, 1) := by decide +kernel
theorem d_M_placeIn_59 : decode prog_11_method_39_code 59 = .ok (.iload_n 1, 1) := by decide +kernel
theorem d_M_placeIn_60 : decode prog_11_method_39_code 60 = .ok (.iload 5, 2) := by decide +kernel
theorem d_M_placeIn_62 : decode prog_11_method_39_code 62 = .ok (.iadd, 1) := by decide +kernel
theorem d_M_placeIn_63 : decode prog_11_method_39_code 63 = .ok (.iaload, 1) := by decide +kernel
theorem d_M_placeIn_64 : decode prog_11_method_39_code 64 = .ok (.bipush 10, 2) := by decide +kernel
theorem d_M_placeIn_66 : decode prog_11_method_39_code 66 = .ok (.if_icmp .eq 40, 3) := by decide +kernel
theorem d_M_placeIn_69 : decode prog_11_method_39_code 69 = .ok (.iload 7, 2) := by decide +kernel
theorem d_M_placeIn_71 : decode prog_11_method_39_code 71 = .ok (.aload_n 0, 1) := by decide +kernel
theorem d_M_placeIn_72 : decode prog_11_method_39_code 72 = .ok (.iload_n 1, 1) := by decide +kernel
theorem d_M_placeIn_73 : decode prog_11_method_39_code 73 = .ok (.iload 5, 2) := by decide +kernel
theorem d_M_placeIn_75 : decode prog_11_method_39_code 75 = .ok (.iadd, 1) := by decide +kernel
theorem d_M_placeIn_76 : decode prog_11_method_39_code 76 = .ok (.iaload, 1) := by decide +kernel
theorem d_M_placeIn_77 : decode prog_11_method_39_code 77 = .ok (.bipush 126, 2) := by decide +kernel
theorem d_M_placeIn_79 : decode prog_11_method_39_code 79 = .ok (.if_icmp .ne 7, 3) := by decide +kernel
theorem d_M_placeIn_82 : decode prog_11_method_39_code 82 = .ok (.iconst 2, 1) := by decide +kernel
theorem d_M_placeIn_83 : decode prog_11_method_39_code 83 = .ok (.goto 4, 3) := by decide +kernel
theorem d_M_placeIn_86 : decode prog_11_method_39_code 86 = .ok (.iconst 1, 1) := by decide +kernel
theorem d_M_placeIn_87 : decode prog_11_method_39_code 87 = .ok (.iadd, 1) := by decide +kernel
theorem d_M_placeIn_88 : decode prog_11_method_39_code 88 = .ok (.istore 7, 2) := by decide +kernel
theorem d_M_placeIn_90 : decode prog_11_method_39_code 90 = .ok (.iload 7, 2) := by decide +kernel
theorem d_M_placeIn_92 : decode prog_11_method_39_code 92 = .ok (.iload 4, 2) := by decide +kernel
theorem d_M_placeIn_94 : decode prog_11_method_39_code 94 = .ok (.if_icmp .le 6, 3) := by decide +kernel
theorem d_M_placeIn_97 : decode prog_11_method_39_code 97 = .ok (.iload 5, 2) := by decide +kernel
theorem d_M_placeIn_99 : decode prog_11_method_39_code 99 = .ok (.ireturn, 1) := by decide +kernel
theorem d_M_placeIn_100 : decode prog_11_method_39_code 100 = .ok (.iinc 5 1, 3) := by decide +kernel
theorem d_M_placeIn_103 : decode prog_11_method_39_code 103 = .ok (.goto (-51), 3) := by decide +kernel
theorem d_M_placeIn_106 : decode prog_11_method_39_code 106 = .ok (.iload 5, 2) := by decide +kernel
theorem d_M_placeIn_108 : decode prog_11_method_39_code 108 = .ok (.ireturn, 1) := by decide +kernel
set_option maxHeartbeats 4000000 in
set_option maxRecDepth 100000 in
theorem cM_placeIn (l : Launch) (dC : Nat → ClassId) (dI : Nat → Nat → Nat) (tk : Nat → ClassId) (A : Nat → Prop) (h : Nat) (L : Nat → Nat) (g : aG) (a : aA) (rw : va_W) (n : Nat) (jp np : Nat) (hsp : spM[jp]? = some (0, np)) (v1 : Int32) (v2 : Int32) (v3 : Int32) (v4 : Int32) (r0 : Int32) (hm : mM_placeIn n (a jp) np v1 v2 v3 v4 = some r0) : CtI l dC dI tk A ⟨"EditorServerModel", "placeIn", "([IIIII)I"⟩ prog_11_method_39_code 8 (some .int) 1 24 [.ref (L jp), .int v1, .int v2, .int v3, .int v4] (oW 0 h ksM spM tk L g a rw) r0 (oW 0 h ksM spM tk L g a rw) := by
  refine ent (by decide) (Nat.le_of_ble_eq_true rfl) ?_
  intro p e s m args below meth c hx hb hr hml hown hlk hG hg hst ls hl
  unfold mM_placeIn at hm
  have hl : lv_has ls 8 [(0, .ref (L jp)), (1, .int v1), (2, .int v2), (3, .int v3), (4, .int v4)] := hl
  refine lv_iload_n hx hb d_M_placeIn_0 rfl (lv_at hl 3 rfl) ?_
  refine lv_if_ge (tgt := 6) hx hb d_M_placeIn_1 (by decide) (fun h1 => ?_) (fun h1 => ?_)
  · have hm := it_t hm h1
    refine lv_iload_n hx hb d_M_placeIn_6 rfl (lv_at hl 3 rfl) ?_
    refine lv_aload_n hx hb d_M_placeIn_7 rfl (lv_at hl 0 rfl) ?_
    refine lv_iload_n hx hb d_M_placeIn_8 rfl (lv_at hl 1 rfl) ?_
    refine lv_iload_n hx hb d_M_placeIn_9 rfl (lv_at hl 2 rfl) ?_
    obtain ⟨x3, hc4, hm⟩ := bd_u hm
    refine cl_si hx hb hml hown hG hg (cM_linesOf l dC dI tk A h L g a rw n jp np hsp v1 v2 _ hc4) (cw_s 3 hG k_1287 k_1288 k_14 k_1289 (by decide +kernel) ⟨by decide, by decide⟩) hst rfl hl.1 rfl (Nat.le_of_ble_eq_true rfl) ⟨Nat.le_refl 0, Nat.le_refl 0⟩ d_M_placeIn_10 (fun H locs hst => ?_)
    refine lv_icmp_lt (tgt := 18) hx hb d_M_placeIn_13 (by decide) (fun h5 => ?_) (fun h5 => ?_)
    · have hm := it_t hm h5
      refine lv_iconst (v := 0) hx hb d_M_placeIn_18 (by decide) ?_
      refine lv_istore (lv' := [(5, .int 0), (0, .ref (L jp)), (1, .int v1), (2, .int v2), (3, .int v3), (4, .int v4)]) hx hb d_M_placeIn_19 hl (by decide) rfl (fun ls hl => ?_)
      refine lv_iload_n hx hb d_M_placeIn_21 rfl (lv_at hl 4 rfl) ?_
      refine lv_istore (lv' := [(6, .int v3), (5, .int 0), (0, .ref (L jp)), (1, .int v1), (2, .int v2), (3, .int v3), (4, .int v4)]) hx hb d_M_placeIn_22 hl (by decide) rfl (fun ls hl => ?_)
      obtain ⟨qJ6, hm, hLJ6, hR7⟩ := jn_u hm
      have hJ6 : ∀ (x8 : Int32), qJ6 = .inl x8 → ∀ (H : Heap) (locs : List Loc) (ls : Array Slot), lv_has ls 8 [(0, .ref (L jp)), (1, .int v1), (2, .int v2), (3, .int v3), (4, .int v4), (5, .int x8)] → St dC dI A s.heap H locs (oW 0 h ksM spM tk L g a rw) → W p l e (rmo 1 24) s m args below meth c H locs 0 0 (MQ below (QI dC dI A r0 (oW 0 h ksM spM tk L g a rw)) args s 0 0 A) (F0 m 49 ls []) := by
        intro x8 hq H locs ls hl hst
        have hm := hLJ6 _ hq
        refine lv_iconst (v := 0) hx hb d_M_placeIn_49 (by decide) ?_
        refine lv_istore (lv' := [(7, .int 0), (0, .ref (L jp)), (1, .int v1), (2, .int v2), (3, .int v3), (4, .int v4), (5, .int x8)]) hx hb d_M_placeIn_50 hl (by decide) rfl (fun ls hl => ?_)
        refine lp_u (fun q12 : Int32 × Int32 => ∀ (H : Heap) (locs : List Loc) (ls : Array Slot), lv_has ls 8 [(0, .ref (L jp)), (1, .int v1), (2, .int v2), (3, .int v3), (4, .int v4), (5, .int q12.1), (7, .int q12.2)] → St dC dI A s.heap H locs (oW 0 h ksM spM tk L g a rw) → W p l e (rmo 1 24) s m args below meth c H locs 0 0 (MQ below (QI dC dI A r0 (oW 0 h ksM spM tk L g a rw)) args s 0 0 A) (F0 m 52 ls [])) ?_ n (x8, 0) hm _ _ _ (lv_sub hl [1, 2, 3, 4, 5, 6, 0] rfl) hst
        rintro ⟨x10, x11⟩ r15 hm hJ130 hR14 H locs ls hl hst
        dsimp only at hm hl hst ⊢
        have hJ13 := fun y0 y1 (e : r15 = .inl (y0, y1)) => hJ130 (y0, y1) e
        dsimp only at hJ13
        refine lv_iload hx hb d_M_placeIn_52 (lv_at hl 5 rfl) ?_
        refine lv_iload_n hx hb d_M_placeIn_54 rfl (lv_at hl 2 rfl) ?_
        refine lv_icmp_ge (tgt := 106) hx hb d_M_placeIn_55 (by decide) (fun h16 => ?_) (fun h16 => ?_)
        · have hm := it_t hm h16
          refine lv_iload hx hb d_M_placeIn_106 (lv_at hl 5 rfl) ?_
          have he := (hR14 _ (Option.some.inj hm).symm)
          cases he
          exact rt_i hx hb hr hlk rfl hst rfl d_M_placeIn_108
        · have hm := it_f hm h16
          refine lv_aload_n hx hb d_M_placeIn_58 rfl (lv_at hl 0 rfl) ?_
          refine lv_iload_n hx hb d_M_placeIn_59 rfl (lv_at hl 1 rfl) ?_
          refine lv_iload hx hb d_M_placeIn_60 (lv_at hl 5 rfl) ?_
          refine lv_iadd hx hb d_M_placeIn_62 ?_
          obtain ⟨hn17, hm⟩ := gd_u hm
          refine ro_iald hx hb hg hst jp hsp hn17 d_M_placeIn_63 ?_
          refine lv_topi (fun x18 ex18 => ?_)
          have hm := lt_u hm x18 ex18
          refine lv_bipush (v := 10) hx hb d_M_placeIn_64 (by decide) ?_
          refine lv_icmp_eq (tgt := 106) hx hb d_M_placeIn_66 (by decide) (fun h19 => ?_) (fun h19 => ?_)
          · have hm := it_t hm h19
            refine lv_iload hx hb d_M_placeIn_106 (lv_at hl 5 rfl) ?_
            have he := (hR14 _ (Option.some.inj hm).symm)
            cases he
            exact rt_i hx hb hr hlk rfl hst rfl d_M_placeIn_108
          · have hm := it_f hm h19
            refine lv_iload hx hb d_M_placeIn_69 (lv_at hl 6 rfl) ?_
            refine lv_aload_n hx hb d_M_placeIn_71 rfl (lv_at hl 0 rfl) ?_
            refine lv_iload_n hx hb d_M_placeIn_72 rfl (lv_at hl 1 rfl) ?_
            refine lv_iload hx hb d_M_placeIn_73 (lv_at hl 5 rfl) ?_
            refine lv_iadd hx hb d_M_placeIn_75 ?_
            obtain ⟨hn20, hm⟩ := gd_u hm
            refine ro_iald hx hb hg hst jp hsp hn20 d_M_placeIn_76 ?_
            refine lv_topi (fun x21 ex21 => ?_)
            have hm := lt_u hm x21 ex21
            refine lv_bipush (v := 126) hx hb d_M_placeIn_77 (by decide) ?_
            obtain ⟨qJ22, hm, hLJ22, hR23⟩ := jn_u hm
            have hJ22 : ∀ (x24 : Int32), qJ22 = .inl x24 → ∀ (H : Heap) (locs : List Loc) (ls : Array Slot), lv_has ls 8 [(0, .ref (L jp)), (1, .int v1), (2, .int v2), (3, .int v3), (4, .int v4), (5, .int x10), (7, .int x11)] → St dC dI A s.heap H locs (oW 0 h ksM spM tk L g a rw) → W p l e (rmo 1 24) s m args below meth c H locs 0 0 (MQ below (QI dC dI A r0 (oW 0 h ksM spM tk L g a rw)) args s 0 0 A) (F0 m 87 ls [.int x24, .int x11]) := by
              intro x24 hq H locs ls hl hst
              have hm := hLJ22 _ hq
              refine lv_iadd hx hb d_M_placeIn_87 ?_
              refine lv_topi (fun x26 ex26 => ?_)
              have hm := lt_u hm x26 ex26
              refine lv_istore (lv' := [(7, .int x26), (0, .ref (L jp)), (1, .int v1), (2, .int v2), (3, .int v3), (4, .int v4), (5, .int x10)]) hx hb d_M_placeIn_88 hl (by decide) rfl (fun ls hl => ?_)
              refine lv_iload hx hb d_M_placeIn_90 (lv_at hl 0 rfl) ?_
              refine lv_iload hx hb d_M_placeIn_92 (lv_at hl 5 rfl) ?_
              refine lv_icmp_le (tgt := 100) hx hb d_M_placeIn_94 (by decide) (fun h27 => ?_) (fun h27 => ?_)
              · have hm := it_t hm h27
                refine lv_iinc (k := 6) (v := (x10 + 1)) (lv' := [(5, .int (x10 + 1)), (7, .int x26), (0, .ref (L jp)), (1, .int v1), (2, .int v2), (3, .int v3), (4, .int v4)]) hx hb d_M_placeIn_100 hl rfl (by rfl) (by decide) rfl (fun ls hl => ?_)
                refine lv_goto (tgt := 52) hx hb d_M_placeIn_103 (by decide) ?_
                exact hJ13 (x10 + 1) x26 (Option.some.inj hm).symm _ _ _ (lv_sub hl [2, 3, 4, 5, 6, 0, 1] rfl) hst
              · have hm := it_f hm h27
                refine lv_iload hx hb d_M_placeIn_97 (lv_at hl 6 rfl) ?_
                have he := (hR14 _ (Option.some.inj hm).symm)
                cases he
                exact rt_i hx hb hr hlk rfl hst rfl d_M_placeIn_99
            refine lv_icmp_ne (tgt := 86) hx hb d_M_placeIn_79 (by decide) (fun h28 => ?_) (fun h28 => ?_)
            · have hm := it_f hm h28
              refine lv_iconst (v := 1) hx hb d_M_placeIn_86 (by decide) ?_
              exact hJ22 1 (Option.some.inj hm).symm _ _ _ (lv_sub hl [0, 1, 2, 3, 4, 5, 6] rfl) hst
            · have hm := it_t hm h28
              refine lv_iconst (v := 2) hx hb d_M_placeIn_82 (by decide) ?_
              refine lv_goto (tgt := 87) hx hb d_M_placeIn_83 (by decide) ?_
              exact hJ22 2 (Option.some.inj hm).symm _ _ _ (lv_sub hl [0, 1, 2, 3, 4, 5, 6] rfl) hst
      refine lp_u (fun q31 : Int32 × Int32 => ∀ (H : Heap) (locs : List Loc) (ls : Array Slot), lv_has ls 8 [(0, .ref (L jp)), (1, .int v1), (2, .int v2), (3, .int v3), (4, .int v4), (5, .int q31.1), (6, .int q31.2)] → St dC dI A s.heap H locs (oW 0 h ksM spM tk L g a rw) → W p l e (rmo 1 24) s m args below meth c H locs 0 0 (MQ below (QI dC dI A r0 (oW 0 h ksM spM tk L g a rw)) args s 0 0 A) (F0 m 24 ls [])) ?_ n (0, v3) hm _ _ _ (lv_sub hl [2, 3, 4, 5, 6, 1, 0] rfl) hst
      rintro ⟨x29, x30⟩ r34 hm hJ320 hR33 H locs ls hl hst
      dsimp only at hm hl hst ⊢
      have hJ32 := fun y0 y1 (e : r34 = .inl (y0, y1)) => hJ320 (y0, y1) e
      dsimp only at hJ32
      refine lv_iload hx hb d_M_placeIn_24 (lv_at hl 6 rfl) ?_
      refine lv_if_le (tgt := 49) hx hb d_M_placeIn_26 (by decide) (fun h35 => ?_) (fun h35 => ?_)
      · have hm := it_t hm h35
        exact hJ6 x29 (hR33 _ (Option.some.inj hm).symm).symm _ _ _ (lv_sub hl [0, 1, 2, 3, 4, 5] rfl) hst
      · have hm := it_f hm h35
        refine lv_aload_n hx hb d_M_placeIn_29 rfl (lv_at hl 0 rfl) ?_
        refine lv_iload_n hx hb d_M_placeIn_30 rfl (lv_at hl 1 rfl) ?_
        refine lv_iload hx hb d_M_placeIn_31 (lv_at hl 5 rfl) ?_
        refine lv_iadd hx hb d_M_placeIn_33 ?_
        obtain ⟨hn36, hm⟩ := gd_u hm
        refine ro_iald hx hb hg hst jp hsp hn36 d_M_placeIn_34 ?_
        refine lv_topi (fun x37 ex37 => ?_)
        have hm := lt_u hm x37 ex37
        refine lv_bipush (v := 10) hx hb d_M_placeIn_35 (by decide) ?_
        refine lv_icmp_ne (tgt := 43) hx hb d_M_placeIn_37 (by decide) (fun h38 => ?_) (fun h38 => ?_)
        · have hm := it_f hm h38
          refine lv_iinc (k := 5) (v := (x29 + 1)) (lv' := [(5, .int (x29 + 1)), (0, .ref (L jp)), (1, .int v1), (2, .int v2), (3, .int v3), (4, .int v4), (6, .int x30)]) hx hb d_M_placeIn_43 hl rfl (by rfl) (by decide) rfl (fun ls hl => ?_)
          refine lv_goto (tgt := 24) hx hb d_M_placeIn_46 (by decide) ?_
          exact hJ32 (x29 + 1) x30 (Option.some.inj hm).symm _ _ _ (lv_sub hl [1, 2, 3, 4, 5, 0, 6] rfl) hst
        · have hm := it_t hm h38
          refine lv_iinc (k := 6) (v := (x30 + (-1))) (lv' := [(6, .int (x30 + (-1))), (0, .ref (L jp)), (1, .int v1), (2, .int v2), (3, .int v3), (4, .int v4), (5, .int x29)]) hx hb d_M_placeIn_40 hl rfl (by rfl) (by decide) rfl (fun ls hl => ?_)
          refine lv_iinc (k := 6) (v := (x29 + 1)) (lv' := [(5, .int (x29 + 1)), (6, .int (x30 + (-1))), (0, .ref (L jp)), (1, .int v1), (2, .int v2), (3, .int v3), (4, .int v4)]) hx hb d_M_placeIn_43 hl rfl (by rfl) (by decide) rfl (fun ls hl => ?_)
          refine lv_goto (tgt := 24) hx hb d_M_placeIn_46 (by decide) ?_
          exact hJ32 (x29 + 1) (x30 + (-1)) (Option.some.inj hm).symm _ _ _ (lv_sub hl [2, 3, 4, 5, 6, 0, 1] rfl) hst
    · have hm := it_f hm h5
      refine lv_iload_n hx hb d_M_placeIn_16 rfl (lv_at hl 2 rfl) ?_
      have he := (Option.some.inj hm)
      cases he
      exact rt_i hx hb hr hlk rfl hst rfl d_M_placeIn_17
  · have hm := it_f hm h1
    refine lv_iconst (v := 0) hx hb d_M_placeIn_4 (by decide) ?_
    have he := (Option.some.inj hm)
    cases he
    exact rt_i hx hb hr hlk rfl hst rfl d_M_placeIn_5
def mM_replace (n : Nat) (v1 : Int32) (v2 : Int32) (v3 : Int32) (g : aG) (a : aA) : Option (Int32 × aG × aA) := gd (inb v3 41) (lt (a 4 v3.toNatClampNeg) (fun x2 => lt ((x2 - (v2 - v1))) (fun x3 => if ((g 29) + x3) ≤ 60 then (if 0 ≤ x3 then (lt (((g 29) - 1)) (fun x6 => jn (α := aA) (lp (ε := Int32 × aA) (fun q33 => if q33.1 < v2 then (some (.inr (.inl q33.2))) else (gd (inb q33.1 60) (lt (q33.2 15 q33.1.toNatClampNeg) (fun x39 => gd (inb (q33.1 + x3) 60) (lt (va_up q33.2 15 (upd (q33.2 15) (q33.1 + x3).toNatClampNeg x39)) (fun a41 => some (.inl ((q33.1 + (-1)), a41)))))))) n (x6, a)) (fun a9 => jn (α := aA) (lp (ε := Int32 × aA) (fun q18 => gd (inb v3 41) (lt (q18.2 4 v3.toNatClampNeg) (fun x23 => if x23 ≤ q18.1 then (some (.inr (.inl q18.2))) else (gd (inb v3 41) (lt (q18.2 3 v3.toNatClampNeg) (fun x26 => gd (inb (x26 + q18.1) 201) (lt (q18.2 8 (x26 + q18.1).toNatClampNeg) (fun x28 => gd (inb (v1 + q18.1) 60) (lt (va_up q18.2 15 (upd (q18.2 15) (v1 + q18.1).toNatClampNeg x28)) (fun a30 => some (.inl ((q18.1 + 1), a30)))))))))))) n (0, a9)) (fun a13 => lt (va_up g 29 ((g 29) + x3)) (fun g15 => some ((1, g15, a13))))))) else (jn (α := aA) (lp (ε := Int32 × aA) (fun q68 => if (g 29) ≤ q68.1 then (some (.inr (.inl q68.2))) else (gd (inb q68.1 60) (lt (q68.2 15 q68.1.toNatClampNeg) (fun x74 => gd (inb (q68.1 + x3) 60) (lt (va_up q68.2 15 (upd (q68.2 15) (q68.1 + x3).toNatClampNeg x74)) (fun a76 => some (.inl ((q68.1 + 1), a76)))))))) n (v2, a)) (fun a44 => jn (α := aA) (lp (ε := Int32 × aA) (fun q53 => gd (inb v3 41) (lt (q53.2 4 v3.toNatClampNeg) (fun x58 => if x58 ≤ q53.1 then (some (.inr (.inl q53.2))) else (gd (inb v3 41) (lt (q53.2 3 v3.toNatClampNeg) (fun x61 => gd (inb (x61 + q53.1) 201) (lt (q53.2 8 (x61 + q53.1).toNatClampNeg) (fun x63 => gd (inb (v1 + q53.1) 60) (lt (va_up q53.2 15 (upd (q53.2 15) (v1 + q53.1).toNatClampNeg x63)) (fun a65 => some (.inl ((q53.1 + 1), a65)))))))))))) n (0, a44)) (fun a48 => lt (va_up g 29 ((g 29) + x3)) (fun g50 => some ((1, g50, a48))))))) else (some ((0, g, a))))))
theorem d_M_replace_0 : decode prog_11_method_35_code 0 = .ok (.aload_n 0, 1) := by decide +kernel
theorem d_M_replace_1 : decode prog_11_method_35_code 1 = .ok (.getfield 22, 3) := by decide +kernel
theorem d_M_replace_4 : decode prog_11_method_35_code 4 = .ok (.iload_n 3, 1) := by decide +kernel
theorem d_M_replace_5 : decode prog_11_method_35_code 5 = .ok (.iaload, 1) := by decide +kernel
theorem d_M_replace_6 : decode prog_11_method_35_code 6 = .ok (.iload_n 2, 1) := by decide +kernel
theorem d_M_replace_7 : decode prog_11_method_35_code 7 = .ok (.iload_n 1, 1) := by decide +kernel
theorem d_M_replace_8 : decode prog_11_method_35_code 8 = .ok (.isub, 1) := by decide +kernel
theorem d_M_replace_9 : decode prog_11_method_35_code 9 = .ok (.isub, 1) := by decide +kernel
theorem d_M_replace_10 : decode prog_11_method_35_code 10 = .ok (.istore 4, 2) := by decide +kernel
theorem d_M_replace_12 : decode prog_11_method_35_code 12 = .ok (.aload_n 0, 1) := by decide +kernel
theorem d_M_replace_13 : decode prog_11_method_35_code 13 = .ok (.getfield 248, 3) := by decide +kernel
theorem d_M_replace_16 : decode prog_11_method_35_code 16 = .ok (.iload 4, 2) := by decide +kernel
theorem d_M_replace_18 : decode prog_11_method_35_code 18 = .ok (.iadd, 1) := by decide +kernel
theorem d_M_replace_19 : decode prog_11_method_35_code 19 = .ok (.bipush 60, 2) := by decide +kernel
theorem d_M_replace_21 : decode prog_11_method_35_code 21 = .ok (.if_icmp .le 5, 3) := by decide +kernel
theorem d_M_replace_24 : decode prog_11_method_35_code 24 = .ok (.iconst 0, 1) := by decide +kernel
theorem d_M_replace_25 : decode prog_11_method_35_code 25 = .ok (.ireturn, 1) := by decide +kernel
theorem d_M_replace_26 : decode prog_11_method_35_code 26 = .ok (.iload 4, 2) := by decide +kernel
theorem d_M_replace_28 : decode prog_11_method_35_code 28 = .ok (.ifCond .ge 41, 3) := by decide +kernel
theorem d_M_replace_31 : decode prog_11_method_35_code 31 = .ok (.iload_n 2, 1) := by decide +kernel
theorem d_M_replace_32 : decode prog_11_method_35_code 32 = .ok (.istore 5, 2) := by decide +kernel
theorem d_M_replace_34 : decode prog_11_method_35_code 34 = .ok (.iload 5, 2) := by decide +kernel
theorem d_M_replace_36 : decode prog_11_method_35_code 36 = .ok (.aload_n 0, 1) := by decide +kernel
theorem d_M_replace_37 : decode prog_11_method_35_code 37 = .ok (.getfield 248, 3) := by decide +kernel
theorem d_M_replace_40 : decode prog_11_method_35_code 40 = .ok (.if_icmp .ge 26, 3) := by decide +kernel
theorem d_M_replace_43 : decode prog_11_method_35_code 43 = .ok (.aload_n 0, 1) := by decide +kernel
theorem d_M_replace_44 : decode prog_11_method_35_code 44 = .ok (.getfield 55, 3) := by decide +kernel
theorem d_M_replace_47 : decode prog_11_method_35_code 47 = .ok (.iload 5, 2) := by decide +kernel
theorem d_M_replace_49 : decode prog_11_method_35_code 49 = .ok (.iload 4, 2) := by decide +kernel
theorem d_M_replace_51 : decode prog_11_method_35_code 51 = .ok (.iadd, 1) := by decide +kernel
theorem d_M_replace_52 : decode prog_11_method_35_code 52 = .ok (.aload_n 0, 1) := by decide +kernel
theorem d_M_replace_53 : decode prog_11_method_35_code 53 = .ok (.getfield 55, 3) := by decide +kernel
theorem d_M_replace_56 : decode prog_11_method_35_code 56 = .ok (.iload 5, 2) := by decide +kernel
theorem d_M_replace_58 : decode prog_11_method_35_code 58 = .ok (.iaload, 1) := by decide +kernel
theorem d_M_replace_59 : decode prog_11_method_35_code 59 = .ok (.iastore, 1) := by decide +kernel
theorem d_M_replace_60 : decode prog_11_method_35_code 60 = .ok (.iinc 5 1, 3) := by decide +kernel
theorem d_M_replace_63 : decode prog_11_method_35_code 63 = .ok (.goto (-29), 3) := by decide +kernel
theorem d_M_replace_66 : decode prog_11_method_35_code 66 = .ok (.goto 40, 3) := by decide +kernel
theorem d_M_replace_69 : decode prog_11_method_35_code 69 = .ok (.aload_n 0, 1) := by decide +kernel
theorem d_M_replace_70 : decode prog_11_method_35_code 70 = .ok (.getfield 248, 3) := by decide +kernel
theorem d_M_replace_73 : decode prog_11_method_35_code 73 = .ok (.iconst 1, 1) := by decide +kernel
theorem d_M_replace_74 : decode prog_11_method_35_code 74 = .ok (.isub, 1) := by decide +kernel
theorem d_M_replace_75 : decode prog_11_method_35_code 75 = .ok (.istore 5, 2) := by decide +kernel
theorem d_M_replace_77 : decode prog_11_method_35_code 77 = .ok (.iload 5, 2) := by decide +kernel
theorem d_M_replace_79 : decode prog_11_method_35_code 79 = .ok (.iload_n 2, 1) := by decide +kernel
theorem d_M_replace_80 : decode prog_11_method_35_code 80 = .ok (.if_icmp .lt 26, 3) := by decide +kernel
theorem d_M_replace_83 : decode prog_11_method_35_code 83 = .ok (.aload_n 0, 1) := by decide +kernel
theorem d_M_replace_84 : decode prog_11_method_35_code 84 = .ok (.getfield 55, 3) := by decide +kernel
theorem d_M_replace_87 : decode prog_11_method_35_code 87 = .ok (.iload 5, 2) := by decide +kernel
theorem d_M_replace_89 : decode prog_11_method_35_code 89 = .ok (.iload 4, 2) := by decide +kernel
theorem d_M_replace_91 : decode prog_11_method_35_code 91 = .ok (.iadd, 1) := by decide +kernel
theorem d_M_replace_92 : decode prog_11_method_35_code 92 = .ok (.aload_n 0, 1) := by decide +kernel
theorem d_M_replace_93 : decode prog_11_method_35_code 93 = .ok (.getfield 55, 3) := by decide +kernel
theorem d_M_replace_96 : decode prog_11_method_35_code 96 = .ok (.iload 5, 2) := by decide +kernel
theorem d_M_replace_98 : decode prog_11_method_35_code 98 = .ok (.iaload, 1) := by decide +kernel
theorem d_M_replace_99 : decode prog_11_method_35_code 99 = .ok (.iastore, 1) := by decide +kernel
theorem d_M_replace_100 : decode prog_11_method_35_code 100 = .ok (.iinc 5 (-1), 3) := by decide +kernel
theorem d_M_replace_103 : decode prog_11_method_35_code 103 = .ok (.goto (-26), 3) := by decide +kernel
theorem d_M_replace_106 : decode prog_11_method_35_code 106 = .ok (.iconst 0, 1) := by decide +kernel
theorem d_M_replace_107 : decode prog_11_method_35_code 107 = .ok (.istore 5, 2) := by decide +kernel
theorem d_M_replace_109 : decode prog_11_method_35_code 109 = .ok (.iload 5, 2) := by decide +kernel
theorem d_M_replace_111 : decode prog_11_method_35_code 111 = .ok (.aload_n 0, 1) := by decide +kernel
theorem d_M_replace_112 : decode prog_11_method_35_code 112 = .ok (.getfield 22, 3) := by decide +kernel
theorem d_M_replace_115 : decode prog_11_method_35_code 115 = .ok (.iload_n 3, 1) := by decide +kernel
theorem d_M_replace_116 : decode prog_11_method_35_code 116 = .ok (.iaload, 1) := by decide +kernel
theorem d_M_replace_117 : decode prog_11_method_35_code 117 = .ok (.if_icmp .ge 32, 3) := by decide +kernel
theorem d_M_replace_120 : decode prog_11_method_35_code 120 = .ok (.aload_n 0, 1) := by decide +kernel
theorem d_M_replace_121 : decode prog_11_method_35_code 121 = .ok (.getfield 55, 3) := by decide +kernel
theorem d_M_replace_124 : decode prog_11_method_35_code 124 = .ok (.iload_n 1, 1) := by decide +kernel
theorem d_M_replace_125 : decode prog_11_method_35_code 125 = .ok (.iload 5, 2) := by decide +kernel
theorem d_M_replace_127 : decode prog_11_method_35_code 127 = .ok (.iadd, 1) := by decide +kernel
theorem d_M_replace_128 : decode prog_11_method_35_code 128 = .ok (.aload_n 0, 1) := by decide +kernel
theorem d_M_replace_129 : decode prog_11_method_35_code 129 = .ok (.getfield 34, 3) := by decide +kernel
theorem d_M_replace_132 : decode prog_11_method_35_code 132 = .ok (.aload_n 0, 1) := by decide +kernel
theorem d_M_replace_133 : decode prog_11_method_35_code 133 = .ok (.getfield 19, 3) := by decide +kernel
theorem d_M_replace_136 : decode prog_11_method_35_code 136 = .ok (.iload_n 3, 1) := by decide +kernel
theorem d_M_replace_137 : decode prog_11_method_35_code 137 = .ok (.iaload, 1) := by decide +kernel
theorem d_M_replace_138 : decode prog_11_method_35_code 138 = .ok (.iload 5, 2) := by decide +kernel
theorem d_M_replace_140 : decode prog_11_method_35_code 140 = .ok (.iadd, 1) := by decide +kernel
theorem d_M_replace_141 : decode prog_11_method_35_code 141 = .ok (.iaload, 1) := by decide +kernel
theorem d_M_replace_142 : decode prog_11_method_35_code 142 = .ok (.iastore, 1) := by decide +kernel
theorem d_M_replace_143 : decode prog_11_method_35_code 143 = .ok (.iinc 5 1, 3) := by decide +kernel
theorem d_M_replace_146 : decode prog_11_method_35_code 146 = .ok (.goto (-37), 3) := by decide +kernel
theorem d_M_replace_149 : decode prog_11_method_35_code 149 = .ok (.aload_n 0, 1) := by decide +kernel
theorem d_M_replace_150 : decode prog_11_method_35_code 150 = .ok (.dup, 1) := by decide +kernel
theorem d_M_replace_151 : decode prog_11_method_35_code 151 = .ok (.getfield 248, 3) := by decide +kernel
theorem d_M_replace_154 : decode prog_11_method_35_code 154 = .ok (.iload 4, 2) := by decide +kernel
theorem d_M_replace_156 : decode prog_11_method_35_code 156 = .ok (.iadd, 1) := by decide +kernel
theorem d_M_replace_157 : decode prog_11_method_35_code 157 = .ok (.putfield 248, 3) := by decide +kernel
theorem d_M_replace_160 : decode prog_11_method_35_code 160 = .ok (.iconst 1, 1) := by decide +kernel
theorem d_M_replace_161 : decode prog_11_method_35_code 161 = .ok (.ireturn, 1) := by decide +kernel
set_option maxHeartbeats 4000000 in
set_option maxRecDepth 100000 in
theorem cM_replace (l : Launch) (dC : Nat → ClassId) (dI : Nat → Nat → Nat) (tk : Nat → ClassId) (A : Nat → Prop) (h : Nat) (L : Nat → Nat) (g : aG) (a : aA) (rw : va_W) (n : Nat) (v1 : Int32) (v2 : Int32) (v3 : Int32) (r0 : Int32) (g0 : aG) (a0 : aA) (hm : mM_replace n v1 v2 v3 g a = some (r0, g0, a0)) : CtI l dC dI tk A ⟨"EditorServerModel", "replace", "(III)Z"⟩ prog_11_method_35_code 6 (some .boolean) 0 0 [.ref h, .int v1, .int v2, .int v3] (oW 0 h ksM spM tk L g a rw) r0 (oW 0 h ksM spM tk L g0 a0 rw) := by
  refine ent (by decide) (Nat.le_of_ble_eq_true rfl) ?_
  intro p e s m args below meth c hx hb hr hml hown hlk hG hg hst ls hl
  unfold mM_replace at hm
  have hl : lv_has ls 6 [(0, .ref h), (1, .int v1), (2, .int v2), (3, .int v3)] := hl
  refine lv_aload_n hx hb d_M_replace_0 rfl (lv_at hl 0 rfl) ?_
  refine ro_geta hx hb hown hG hg cM hst 12 4 (by decide) rfl rfl k_1026 d_M_replace_1 ?_
  refine lv_iload_n hx hb d_M_replace_4 rfl (lv_at hl 3 rfl) ?_
  obtain ⟨hn1, hm⟩ := gd_u hm
  refine ro_iald hx hb hg hst 4 rfl hn1 d_M_replace_5 ?_
  refine lv_topi (fun x2 ex2 => ?_)
  have hm := lt_u hm x2 ex2
  refine lv_iload_n hx hb d_M_replace_6 rfl (lv_at hl 2 rfl) ?_
  refine lv_iload_n hx hb d_M_replace_7 rfl (lv_at hl 1 rfl) ?_
  refine lv_isub hx hb d_M_replace_8 ?_
  refine lv_isub hx hb d_M_replace_9 ?_
  refine lv_topi (fun x3 ex3 => ?_)
  have hm := lt_u hm x3 ex3
  refine lv_istore (lv' := [(4, .int x3), (0, .ref h), (1, .int v1), (2, .int v2), (3, .int v3)]) hx hb d_M_replace_10 hl (by decide) rfl (fun ls hl => ?_)
  refine lv_aload_n hx hb d_M_replace_12 rfl (lv_at hl 1 rfl) ?_
  refine ro_geti hx hb hown hG hg cM hst 29 (by decide) rfl rfl k_1043 d_M_replace_13 ?_
  refine lv_iload hx hb d_M_replace_16 (lv_at hl 0 rfl) ?_
  refine lv_iadd hx hb d_M_replace_18 ?_
  refine lv_bipush (v := 60) hx hb d_M_replace_19 (by decide) ?_
  refine lv_icmp_le (tgt := 26) hx hb d_M_replace_21 (by decide) (fun h4 => ?_) (fun h4 => ?_)
  · have hm := it_t hm h4
    refine lv_iload hx hb d_M_replace_26 (lv_at hl 0 rfl) ?_
    refine lv_if_ge (tgt := 69) hx hb d_M_replace_28 (by decide) (fun h5 => ?_) (fun h5 => ?_)
    · have hm := it_t hm h5
      refine lv_aload_n hx hb d_M_replace_69 rfl (lv_at hl 1 rfl) ?_
      refine ro_geti hx hb hown hG hg cM hst 29 (by decide) rfl rfl k_1043 d_M_replace_70 ?_
      refine lv_iconst (v := 1) hx hb d_M_replace_73 (by decide) ?_
      refine lv_isub hx hb d_M_replace_74 ?_
      refine lv_topi (fun x6 ex6 => ?_)
      have hm := lt_u hm x6 ex6
      refine lv_istore (lv' := [(5, .int x6), (4, .int x3), (0, .ref h), (1, .int v1), (2, .int v2), (3, .int v3)]) hx hb d_M_replace_75 hl (by decide) rfl (fun ls hl => ?_)
      obtain ⟨qJ7, hm, hLJ7, hR8⟩ := jn_u hm
      have hJ7 : ∀ (a9 : aA), qJ7 = .inl a9 → ∀ (H : Heap) (locs : List Loc) (ls : Array Slot), lv_has ls 6 [(0, .ref h), (1, .int v1), (2, .int v2), (3, .int v3), (4, .int x3)] → St dC dI A s.heap H locs (oW 0 h ksM spM tk L g a9 rw) → W p l e (rmo 0 0) s m args below meth c H locs 0 0 (MQ below (QI dC dI A r0 (oW 0 h ksM spM tk L g0 a0 rw)) args s 0 0 A) (F0 m 106 ls []) := by
        intro a9 hq H locs ls hl hst
        have hm := hLJ7 _ hq
        refine lv_iconst (v := 0) hx hb d_M_replace_106 (by decide) ?_
        refine lv_istore (lv' := [(5, .int 0), (0, .ref h), (1, .int v1), (2, .int v2), (3, .int v3), (4, .int x3)]) hx hb d_M_replace_107 hl (by decide) rfl (fun ls hl => ?_)
        obtain ⟨qJ11, hm, hLJ11, hR12⟩ := jn_u hm
        have hJ11 : ∀ (a13 : aA), qJ11 = .inl a13 → ∀ (H : Heap) (locs : List Loc) (ls : Array Slot), lv_has ls 6 [(0, .ref h), (1, .int v1), (2, .int v2), (3, .int v3), (4, .int x3)] → St dC dI A s.heap H locs (oW 0 h ksM spM tk L g a13 rw) → W p l e (rmo 0 0) s m args below meth c H locs 0 0 (MQ below (QI dC dI A r0 (oW 0 h ksM spM tk L g0 a0 rw)) args s 0 0 A) (F0 m 149 ls []) := by
          intro a13 hq H locs ls hl hst
          have hm := hLJ11 _ hq
          refine lv_aload_n hx hb d_M_replace_149 rfl (lv_at hl 0 rfl) ?_
          refine lv_dup hx hb d_M_replace_150 rfl ?_
          refine ro_geti hx hb hown hG hg cM hst 29 (by decide) rfl rfl k_1043 d_M_replace_151 ?_
          refine lv_iload hx hb d_M_replace_154 (lv_at hl 4 rfl) ?_
          refine lv_iadd hx hb d_M_replace_156 ?_
          refine ro_puti hx hb hown hG hg cM hst 29 (by decide) rfl rfl rfl rfl rfl k_1043 d_M_replace_157 (fun g15 H locs eg15 hst => ?_)
          have hm := lt_u hm g15 eg15
          refine lv_iconst (v := 1) hx hb d_M_replace_160 (by decide) ?_
          have he := (Option.some.inj hm)
          cases he
          exact rt_i hx hb hr hlk (by decide) hst rfl d_M_replace_161
        refine lp_u (fun q18 : Int32 × aA => ∀ (H : Heap) (locs : List Loc) (ls : Array Slot), lv_has ls 6 [(0, .ref h), (1, .int v1), (2, .int v2), (3, .int v3), (4, .int x3), (5, .int q18.1)] → St dC dI A s.heap H locs (oW 0 h ksM spM tk L g q18.2 rw) → W p l e (rmo 0 0) s m args below meth c H locs 0 0 (MQ below (QI dC dI A r0 (oW 0 h ksM spM tk L g0 a0 rw)) args s 0 0 A) (F0 m 109 ls [])) ?_ n (0, a9) hm _ _ _ (lv_sub hl [1, 2, 3, 4, 5, 0] rfl) hst
        rintro ⟨x16, a17⟩ r21 hm hJ190 hR20 H locs ls hl hst
        dsimp only at hm hl hst ⊢
        have hJ19 := fun y0 y1 (e : r21 = .inl (y0, y1)) => hJ190 (y0, y1) e
        dsimp only at hJ19
        refine lv_iload hx hb d_M_replace_109 (lv_at hl 5 rfl) ?_
        refine lv_aload_n hx hb d_M_replace_111 rfl (lv_at hl 0 rfl) ?_
        refine ro_geta hx hb hown hG hg cM hst 12 4 (by decide) rfl rfl k_1026 d_M_replace_112 ?_
        refine lv_iload_n hx hb d_M_replace_115 rfl (lv_at hl 3 rfl) ?_
        obtain ⟨hn22, hm⟩ := gd_u hm
        refine ro_iald hx hb hg hst 4 rfl hn22 d_M_replace_116 ?_
        refine lv_topi (fun x23 ex23 => ?_)
        have hm := lt_u hm x23 ex23
        refine lv_icmp_ge (tgt := 149) hx hb d_M_replace_117 (by decide) (fun h24 => ?_) (fun h24 => ?_)
        · have hm := it_t hm h24
          exact hJ11 a17 (hR20 _ (Option.some.inj hm).symm).symm _ _ _ (lv_sub hl [0, 1, 2, 3, 4] rfl) hst
        · have hm := it_f hm h24
          refine lv_aload_n hx hb d_M_replace_120 rfl (lv_at hl 0 rfl) ?_
          refine ro_geta hx hb hown hG hg cM hst 28 15 (by decide) rfl rfl k_1042 d_M_replace_121 ?_
          refine lv_iload_n hx hb d_M_replace_124 rfl (lv_at hl 1 rfl) ?_
          refine lv_iload hx hb d_M_replace_125 (lv_at hl 5 rfl) ?_
          refine lv_iadd hx hb d_M_replace_127 ?_
          refine lv_aload_n hx hb d_M_replace_128 rfl (lv_at hl 0 rfl) ?_
          refine ro_geta hx hb hown hG hg cM hst 16 8 (by decide) rfl rfl k_1030 d_M_replace_129 ?_
          refine lv_aload_n hx hb d_M_replace_132 rfl (lv_at hl 0 rfl) ?_
          refine ro_geta hx hb hown hG hg cM hst 11 3 (by decide) rfl rfl k_1025 d_M_replace_133 ?_
          refine lv_iload_n hx hb d_M_replace_136 rfl (lv_at hl 3 rfl) ?_
          obtain ⟨hn25, hm⟩ := gd_u hm
          refine ro_iald hx hb hg hst 3 rfl hn25 d_M_replace_137 ?_
          refine lv_topi (fun x26 ex26 => ?_)
          have hm := lt_u hm x26 ex26
          refine lv_iload hx hb d_M_replace_138 (lv_at hl 5 rfl) ?_
          refine lv_iadd hx hb d_M_replace_140 ?_
          obtain ⟨hn27, hm⟩ := gd_u hm
          refine ro_iald hx hb hg hst 8 rfl hn27 d_M_replace_141 ?_
          refine lv_topi (fun x28 ex28 => ?_)
          have hm := lt_u hm x28 ex28
          obtain ⟨hn29, hm⟩ := gd_u hm
          refine ro_iast hx hb hg hst 15 rfl hn29 d_M_replace_142 (fun a30 H locs ea30 hst => ?_)
          have hm := lt_u hm a30 ea30
          refine lv_iinc (k := 5) (v := (x16 + 1)) (lv' := [(5, .int (x16 + 1)), (0, .ref h), (1, .int v1), (2, .int v2), (3, .int v3), (4, .int x3)]) hx hb d_M_replace_143 hl rfl (by rfl) (by decide) rfl (fun ls hl => ?_)
          refine lv_goto (tgt := 109) hx hb d_M_replace_146 (by decide) ?_
          exact hJ19 (x16 + 1) a30 (Option.some.inj hm).symm _ _ _ (lv_sub hl [1, 2, 3, 4, 5, 0] rfl) hst
      refine lp_u (fun q33 : Int32 × aA => ∀ (H : Heap) (locs : List Loc) (ls : Array Slot), lv_has ls 6 [(0, .ref h), (1, .int v1), (2, .int v2), (3, .int v3), (4, .int x3), (5, .int q33.1)] → St dC dI A s.heap H locs (oW 0 h ksM spM tk L g q33.2 rw) → W p l e (rmo 0 0) s m args below meth c H locs 0 0 (MQ below (QI dC dI A r0 (oW 0 h ksM spM tk L g0 a0 rw)) args s 0 0 A) (F0 m 77 ls [])) ?_ n (x6, a) hm _ _ _ (lv_sub hl [2, 3, 4, 5, 1, 0] rfl) hst
      rintro ⟨x31, a32⟩ r36 hm hJ340 hR35 H locs ls hl hst
      dsimp only at hm hl hst ⊢
      have hJ34 := fun y0 y1 (e : r36 = .inl (y0, y1)) => hJ340 (y0, y1) e
      dsimp only at hJ34
      refine lv_iload hx hb d_M_replace_77 (lv_at hl 5 rfl) ?_
      refine lv_iload_n hx hb d_M_replace_79 rfl (lv_at hl 2 rfl) ?_
      refine lv_icmp_lt (tgt := 106) hx hb d_M_replace_80 (by decide) (fun h37 => ?_) (fun h37 => ?_)
      · have hm := it_t hm h37
        exact hJ7 a32 (hR35 _ (Option.some.inj hm).symm).symm _ _ _ (lv_sub hl [0, 1, 2, 3, 4] rfl) hst
      · have hm := it_f hm h37
        refine lv_aload_n hx hb d_M_replace_83 rfl (lv_at hl 0 rfl) ?_
        refine ro_geta hx hb hown hG hg cM hst 28 15 (by decide) rfl rfl k_1042 d_M_replace_84 ?_
        refine lv_iload hx hb d_M_replace_87 (lv_at hl 5 rfl) ?_
        refine lv_iload hx hb d_M_replace_89 (lv_at hl 4 rfl) ?_
        refine lv_iadd hx hb d_M_replace_91 ?_
        refine lv_aload_n hx hb d_M_replace_92 rfl (lv_at hl 0 rfl) ?_
        refine ro_geta hx hb hown hG hg cM hst 28 15 (by decide) rfl rfl k_1042 d_M_replace_93 ?_
        refine lv_iload hx hb d_M_replace_96 (lv_at hl 5 rfl) ?_
        obtain ⟨hn38, hm⟩ := gd_u hm
        refine ro_iald hx hb hg hst 15 rfl hn38 d_M_replace_98 ?_
        refine lv_topi (fun x39 ex39 => ?_)
        have hm := lt_u hm x39 ex39
        obtain ⟨hn40, hm⟩ := gd_u hm
        refine ro_iast hx hb hg hst 15 rfl hn40 d_M_replace_99 (fun a41 H locs ea41 hst => ?_)
        have hm := lt_u hm a41 ea41
        refine lv_iinc (k := 5) (v := (x31 + (-1))) (lv' := [(5, .int (x31 + (-1))), (0, .ref h), (1, .int v1), (2, .int v2), (3, .int v3), (4, .int x3)]) hx hb d_M_replace_100 hl rfl (by rfl) (by decide) rfl (fun ls hl => ?_)
        refine lv_goto (tgt := 77) hx hb d_M_replace_103 (by decide) ?_
        exact hJ34 (x31 + (-1)) a41 (Option.some.inj hm).symm _ _ _ (lv_sub hl [1, 2, 3, 4, 5, 0] rfl) hst
    · have hm := it_f hm h5
      refine lv_iload_n hx hb d_M_replace_31 rfl (lv_at hl 3 rfl) ?_
      refine lv_istore (lv' := [(5, .int v2), (4, .int x3), (0, .ref h), (1, .int v1), (2, .int v2), (3, .int v3)]) hx hb d_M_replace_32 hl (by decide) rfl (fun ls hl => ?_)
      obtain ⟨qJ42, hm, hLJ42, hR43⟩ := jn_u hm
      have hJ42 : ∀ (a44 : aA), qJ42 = .inl a44 → ∀ (H : Heap) (locs : List Loc) (ls : Array Slot), lv_has ls 6 [(0, .ref h), (1, .int v1), (2, .int v2), (3, .int v3), (4, .int x3)] → St dC dI A s.heap H locs (oW 0 h ksM spM tk L g a44 rw) → W p l e (rmo 0 0) s m args below meth c H locs 0 0 (MQ below (QI dC dI A r0 (oW 0 h ksM spM tk L g0 a0 rw)) args s 0 0 A) (F0 m 66 ls []) := by
        intro a44 hq H locs ls hl hst
        have hm := hLJ42 _ hq
        refine lv_goto (tgt := 106) hx hb d_M_replace_66 (by decide) ?_
        refine lv_iconst (v := 0) hx hb d_M_replace_106 (by decide) ?_
        refine lv_istore (lv' := [(5, .int 0), (0, .ref h), (1, .int v1), (2, .int v2), (3, .int v3), (4, .int x3)]) hx hb d_M_replace_107 hl (by decide) rfl (fun ls hl => ?_)
        obtain ⟨qJ46, hm, hLJ46, hR47⟩ := jn_u hm
        have hJ46 : ∀ (a48 : aA), qJ46 = .inl a48 → ∀ (H : Heap) (locs : List Loc) (ls : Array Slot), lv_has ls 6 [(0, .ref h), (1, .int v1), (2, .int v2), (3, .int v3), (4, .int x3)] → St dC dI A s.heap H locs (oW 0 h ksM spM tk L g a48 rw) → W p l e (rmo 0 0) s m args below meth c H locs 0 0 (MQ below (QI dC dI A r0 (oW 0 h ksM spM tk L g0 a0 rw)) args s 0 0 A) (F0 m 149 ls []) := by
          intro a48 hq H locs ls hl hst
          have hm := hLJ46 _ hq
          refine lv_aload_n hx hb d_M_replace_149 rfl (lv_at hl 0 rfl) ?_
          refine lv_dup hx hb d_M_replace_150 rfl ?_
          refine ro_geti hx hb hown hG hg cM hst 29 (by decide) rfl rfl k_1043 d_M_replace_151 ?_
          refine lv_iload hx hb d_M_replace_154 (lv_at hl 4 rfl) ?_
          refine lv_iadd hx hb d_M_replace_156 ?_
          refine ro_puti hx hb hown hG hg cM hst 29 (by decide) rfl rfl rfl rfl rfl k_1043 d_M_replace_157 (fun g50 H locs eg50 hst => ?_)
          have hm := lt_u hm g50 eg50
          refine lv_iconst (v := 1) hx hb d_M_replace_160 (by decide) ?_
          have he := (Option.some.inj hm)
          cases he
          exact rt_i hx hb hr hlk (by decide) hst rfl d_M_replace_161
        refine lp_u (fun q53 : Int32 × aA => ∀ (H : Heap) (locs : List Loc) (ls : Array Slot), lv_has ls 6 [(0, .ref h), (1, .int v1), (2, .int v2), (3, .int v3), (4, .int x3), (5, .int q53.1)] → St dC dI A s.heap H locs (oW 0 h ksM spM tk L g q53.2 rw) → W p l e (rmo 0 0) s m args below meth c H locs 0 0 (MQ below (QI dC dI A r0 (oW 0 h ksM spM tk L g0 a0 rw)) args s 0 0 A) (F0 m 109 ls [])) ?_ n (0, a44) hm _ _ _ (lv_sub hl [1, 2, 3, 4, 5, 0] rfl) hst
        rintro ⟨x51, a52⟩ r56 hm hJ540 hR55 H locs ls hl hst
        dsimp only at hm hl hst ⊢
        have hJ54 := fun y0 y1 (e : r56 = .inl (y0, y1)) => hJ540 (y0, y1) e
        dsimp only at hJ54
        refine lv_iload hx hb d_M_replace_109 (lv_at hl 5 rfl) ?_
        refine lv_aload_n hx hb d_M_replace_111 rfl (lv_at hl 0 rfl) ?_
        refine ro_geta hx hb hown hG hg cM hst 12 4 (by decide) rfl rfl k_1026 d_M_replace_112 ?_
        refine lv_iload_n hx hb d_M_replace_115 rfl (lv_at hl 3 rfl) ?_
        obtain ⟨hn57, hm⟩ := gd_u hm
        refine ro_iald hx hb hg hst 4 rfl hn57 d_M_replace_116 ?_
        refine lv_topi (fun x58 ex58 => ?_)
        have hm := lt_u hm x58 ex58
        refine lv_icmp_ge (tgt := 149) hx hb d_M_replace_117 (by decide) (fun h59 => ?_) (fun h59 => ?_)
        · have hm := it_t hm h59
          exact hJ46 a52 (hR55 _ (Option.some.inj hm).symm).symm _ _ _ (lv_sub hl [0, 1, 2, 3, 4] rfl) hst
        · have hm := it_f hm h59
          refine lv_aload_n hx hb d_M_replace_120 rfl (lv_at hl 0 rfl) ?_
          refine ro_geta hx hb hown hG hg cM hst 28 15 (by decide) rfl rfl k_1042 d_M_replace_121 ?_
          refine lv_iload_n hx hb d_M_replace_124 rfl (lv_at hl 1 rfl) ?_
          refine lv_iload hx hb d_M_replace_125 (lv_at hl 5 rfl) ?_
          refine lv_iadd hx hb d_M_replace_127 ?_
          refine lv_aload_n hx hb d_M_replace_128 rfl (lv_at hl 0 rfl) ?_
          refine ro_geta hx hb hown hG hg cM hst 16 8 (by decide) rfl rfl k_1030 d_M_replace_129 ?_
          refine lv_aload_n hx hb d_M_replace_132 rfl (lv_at hl 0 rfl) ?_
          refine ro_geta hx hb hown hG hg cM hst 11 3 (by decide) rfl rfl k_1025 d_M_replace_133 ?_
          refine lv_iload_n hx hb d_M_replace_136 rfl (lv_at hl 3 rfl) ?_
          obtain ⟨hn60, hm⟩ := gd_u hm
          refine ro_iald hx hb hg hst 3 rfl hn60 d_M_replace_137 ?_
          refine lv_topi (fun x61 ex61 => ?_)
          have hm := lt_u hm x61 ex61
          refine lv_iload hx hb d_M_replace_138 (lv_at hl 5 rfl) ?_
          refine lv_iadd hx hb d_M_replace_140 ?_
          obtain ⟨hn62, hm⟩ := gd_u hm
          refine ro_iald hx hb hg hst 8 rfl hn62 d_M_replace_141 ?_
          refine lv_topi (fun x63 ex63 => ?_)
          have hm := lt_u hm x63 ex63
          obtain ⟨hn64, hm⟩ := gd_u hm
          refine ro_iast hx hb hg hst 15 rfl hn64 d_M_replace_142 (fun a65 H locs ea65 hst => ?_)
          have hm := lt_u hm a65 ea65
          refine lv_iinc (k := 5) (v := (x51 + 1)) (lv' := [(5, .int (x51 + 1)), (0, .ref h), (1, .int v1), (2, .int v2), (3, .int v3), (4, .int x3)]) hx hb d_M_replace_143 hl rfl (by rfl) (by decide) rfl (fun ls hl => ?_)
          refine lv_goto (tgt := 109) hx hb d_M_replace_146 (by decide) ?_
          exact hJ54 (x51 + 1) a65 (Option.some.inj hm).symm _ _ _ (lv_sub hl [1, 2, 3, 4, 5, 0] rfl) hst
      refine lp_u (fun q68 : Int32 × aA => ∀ (H : Heap) (locs : List Loc) (ls : Array Slot), lv_has ls 6 [(0, .ref h), (1, .int v1), (2, .int v2), (3, .int v3), (4, .int x3), (5, .int q68.1)] → St dC dI A s.heap H locs (oW 0 h ksM spM tk L g q68.2 rw) → W p l e (rmo 0 0) s m args below meth c H locs 0 0 (MQ below (QI dC dI A r0 (oW 0 h ksM spM tk L g0 a0 rw)) args s 0 0 A) (F0 m 34 ls [])) ?_ n (v2, a) hm _ _ _ (lv_sub hl [2, 3, 4, 5, 1, 0] rfl) hst
      rintro ⟨x66, a67⟩ r71 hm hJ690 hR70 H locs ls hl hst
      dsimp only at hm hl hst ⊢
      have hJ69 := fun y0 y1 (e : r71 = .inl (y0, y1)) => hJ690 (y0, y1) e
      dsimp only at hJ69
      refine lv_iload hx hb d_M_replace_34 (lv_at hl 5 rfl) ?_
      refine lv_aload_n hx hb d_M_replace_36 rfl (lv_at hl 0 rfl) ?_
      refine ro_geti hx hb hown hG hg cM hst 29 (by decide) rfl rfl k_1043 d_M_replace_37 ?_
      refine lv_icmp_ge (tgt := 66) hx hb d_M_replace_40 (by decide) (fun h72 => ?_) (fun h72 => ?_)
      · have hm := it_t hm h72
        exact hJ42 a67 (hR70 _ (Option.some.inj hm).symm).symm _ _ _ (lv_sub hl [0, 1, 2, 3, 4] rfl) hst
      · have hm := it_f hm h72
        refine lv_aload_n hx hb d_M_replace_43 rfl (lv_at hl 0 rfl) ?_
        refine ro_geta hx hb hown hG hg cM hst 28 15 (by decide) rfl rfl k_1042 d_M_replace_44 ?_
        refine lv_iload hx hb d_M_replace_47 (lv_at hl 5 rfl) ?_
        refine lv_iload hx hb d_M_replace_49 (lv_at hl 4 rfl) ?_
        refine lv_iadd hx hb d_M_replace_51 ?_
        refine lv_aload_n hx hb d_M_replace_52 rfl (lv_at hl 0 rfl) ?_
        refine ro_geta hx hb hown hG hg cM hst 28 15 (by decide) rfl rfl k_1042 d_M_replace_53 ?_
        refine lv_iload hx hb d_M_replace_56 (lv_at hl 5 rfl) ?_
        obtain ⟨hn73, hm⟩ := gd_u hm
        refine ro_iald hx hb hg hst 15 rfl hn73 d_M_replace_58 ?_
        refine lv_topi (fun x74 ex74 => ?_)
        have hm := lt_u hm x74 ex74
        obtain ⟨hn75, hm⟩ := gd_u hm
        refine ro_iast hx hb hg hst 15 rfl hn75 d_M_replace_59 (fun a76 H locs ea76 hst => ?_)
        have hm := lt_u hm a76 ea76
        refine lv_iinc (k := 5) (v := (x66 + 1)) (lv' := [(5, .int (x66 + 1)), (0, .ref h), (1, .int v1), (2, .int v2), (3, .int v3), (4, .int x3)]) hx hb d_M_replace_60 hl rfl (by rfl) (by decide) rfl (fun ls hl => ?_)
        refine lv_goto (tgt := 34) hx hb d_M_replace_63 (by decide) ?_
        exact hJ69 (x66 + 1) a76 (Option.some.inj hm).symm _ _ _ (lv_sub hl [1, 2, 3, 4, 5, 0] rfl) hst
  · have hm := it_f hm h4
    refine lv_iconst (v := 0) hx hb d_M_replace_24 (by decide) ?_
    have he := (Option.some.inj hm)
    cases he
    exact rt_i hx hb hr hlk (by decide) hst rfl d_M_replace_25
def mM_edit (n : Nat) (v1 : Int32) (g : aG) (a : aA) : Option (Int32 × aG × aA) := gd (inb v1 41) (lt (a 1 v1.toNatClampNeg) (fun x2 => if x2 = 2 then (bd (mM_replace n 0 (g 29) v1 g a) (fun q82 => gd (okz q82.1) (some ((q82.1, q82.2.1, q82.2.2))))) else (gd (inb v1 41) (lt (a 1 v1.toNatClampNeg) (fun x5 => if x5 = 3 then (bd (mM_items n v1 g a) (fun x8 => if x8 = 5 then (bd (mM_item n v1 4 g a) (fun x12 => bd (mM_isSort n x12 2 g a) (fun x15 => jn (α := Int32) (lp (ε := Int32 × Int32) (fun q69 => if 4 ≤ q69.2 then (some (.inr (.inl q69.1))) else (if q69.1 = 0 then (some (.inl (0, (q69.2 + 1)))) else (bd (mM_item n v1 q69.2 g a) (fun x76 => bd (mM_isSort n x76 1 g a) (fun x79 => if x79 = 0 then (some (.inl (0, (q69.2 + 1)))) else (some (.inl (1, (q69.2 + 1))))))))) n (x15, 0)) (fun x19 => if x19 = 0 then (some ((0, g, a))) else (bd (mM_item n v1 0 g a) (fun x23 => gd (inb x23 41) (lt (a 2 x23.toNatClampNeg) (fun x26 => bd (mM_item n v1 1 g a) (fun x28 => gd (inb x28 41) (lt (a 2 x28.toNatClampNeg) (fun x31 => bd (mM_placeIn n (a 15) 60 0 (g 29) x26 x31) (fun x33 => bd (mM_item n v1 2 g a) (fun x36 => gd (inb x36 41) (lt (a 2 x36.toNatClampNeg) (fun x39 => bd (mM_item n v1 3 g a) (fun x41 => gd (inb x41 41) (lt (a 2 x41.toNatClampNeg) (fun x44 => bd (mM_placeIn n (a 15) 60 0 (g 29) x39 x44) (fun x46 => jn (α := Int32) (if x46 ≤ x33 then (some (.inl x46)) else (some (.inl x33))) (fun x50 => jn (α := Int32) (if x46 ≤ x33 then (some (.inl x33)) else (some (.inl x46))) (fun x54 => bd (mM_item n v1 4 g a) (fun x57 => bd (mM_replace n x50 x54 x57 g a) (fun q59 => gd (okz q59.1) (some ((q59.1, q59.2.1, q59.2.2)))))))))))))))))))))))))) else (some ((0, g, a))))) else (some ((0, g, a))))))))
theorem d_M_edit_0 : decode prog_11_method_34_code 0 = .ok (.aload_n 0, 1) := by decide +kernel
theorem d_M_edit_1 : decode prog_11_method_34_code 1 = .ok (.getfield 13, 3) := by decide +kernel
theorem d_M_edit_4 : decode prog_11_method_34_code 4 = .ok (.iload_n 1, 1) := by decide +kernel
theorem d_M_edit_5 : decode prog_11_method_34_code 5 = .ok (.iaload, 1) := by decide +kernel
theorem d_M_edit_6 : decode prog_11_method_34_code 6 = .ok (.iconst 2, 1) := by decide +kernel
theorem d_M_edit_7 : decode prog_11_method_34_code 7 = .ok (.if_icmp .ne 14, 3) := by decide +kernel
theorem d_M_edit_10 : decode prog_11_method_34_code 10 = .ok (.aload_n 0, 1) := by decide +kernel
theorem d_M_edit_11 : decode prog_11_method_34_code 11 = .ok (.iconst 0, 1) := by decide +kernel
theorem d_M_edit_12 : decode prog_11_method_34_code 12 = .ok (.aload_n 0, 1) := by decide +kernel
theorem d_M_edit_13 : decode prog_11_method_34_code 13 = .ok (.getfield 248, 3) := by decide +kernel
theorem d_M_edit_16 : decode prog_11_method_34_code 16 = .ok (.iload_n 1, 1) := by decide +kernel
theorem d_M_edit_17 : decode prog_11_method_34_code 17 = .ok (.invokevirtual 254, 3) := by decide +kernel
theorem d_M_edit_20 : decode prog_11_method_34_code 20 = .ok (.ireturn, 1) := by decide +kernel
theorem d_M_edit_21 : decode prog_11_method_34_code 21 = .ok (.aload_n 0, 1) := by decide +kernel
theorem d_M_edit_22 : decode prog_11_method_34_code 22 = .ok (.getfield 13, 3) := by decide +kernel
theorem d_M_edit_25 : decode prog_11_method_34_code 25 = .ok (.iload_n 1, 1) := by decide +kernel
theorem d_M_edit_26 : decode prog_11_method_34_code 26 = .ok (.iaload, 1) := by decide +kernel
theorem d_M_edit_27 : decode prog_11_method_34_code 27 = .ok (.iconst 3, 1) := by decide +kernel
theorem d_M_edit_28 : decode prog_11_method_34_code 28 = .ok (.if_icmp .ne 12, 3) := by decide +kernel
theorem d_M_edit_31 : decode prog_11_method_34_code 31 = .ok (.aload_n 0, 1) := by decide +kernel
theorem d_M_edit_32 : decode prog_11_method_34_code 32 = .ok (.iload_n 1, 1) := by decide +kernel
theorem d_M_edit_33 : decode prog_11_method_34_code 33 = .ok (.invokevirtual 225, 3) := by decide +kernel
theorem d_M_edit_36 : decode prog_11_method_34_code 36 = .ok (.iconst 5, 1) := by decide +kernel
theorem d_M_edit_37 : decode prog_11_method_34_code 37 = .ok (.if_icmp .eq 5, 3) := by decide +kernel
theorem d_M_edit_40 : decode prog_11_method_34_code 40 = .ok (.iconst 0, 1) := by decide +kernel
theorem d_M_edit_41 : decode prog_11_method_34_code 41 = .ok (.ireturn, 1) := by decide +kernel
theorem d_M_edit_42 : decode prog_11_method_34_code 42 = .ok (.aload_n 0, 1) := by decide +kernel
theorem d_M_edit_43 : decode prog_11_method_34_code 43 = .ok (.aload_n 0, 1) := by decide +kernel
theorem d_M_edit_44 : decode prog_11_method_34_code 44 = .ok (.iload_n 1, 1) := by decide +kernel
theorem d_M_edit_45 : decode prog_11_method_34_code 45 = .ok (.iconst 4, 1) := by decide +kernel
theorem d_M_edit_46 : decode prog_11_method_34_code 46 = .ok (.invokevirtual 217, 3) := by decide +kernel
theorem d_M_edit_49 : decode prog_11_method_34_code 49 = .ok (.iconst 2, 1) := by decide +kernel
theorem d_M_edit_50 : decode prog_11_method_34_code 50 = .ok (.invokevirtual 188, 3) := by decide +kernel
theorem d_M_edit_53 : decode prog_11_method_34_code 53 = .ok (.istore_n 2, 1) := by decide +kernel
theorem d_M_edit_54 : decode prog_11_method_34_code 54 = .ok (.iconst 0, 1) := by decide +kernel
theorem d_M_edit_55 : decode prog_11_method_34_code 55 = .ok (.istore_n 3, 1) := by decide +kernel
theorem d_M_edit_56 : decode prog_11_method_34_code 56 = .ok (.iload_n 3, 1) := by decide +kernel
theorem d_M_edit_57 : decode prog_11_method_34_code 57 = .ok (.iconst 4, 1) := by decide +kernel
theorem d_M_edit_58 : decode prog_11_method_34_code 58 = .ok (.if_icmp .ge 33, 3) := by decide +kernel
theorem d_M_edit_61 : decode prog_11_method_34_code 61 = .ok (.iload_n 2, 1) := by decide +kernel
theorem d_M_edit_62 : decode prog_11_method_34_code 62 = .ok (.ifCond .eq 21, 3) := by decide +kernel
theorem d_M_edit_65 : decode prog_11_method_34_code 65 = .ok (.aload_n 0, 1) := by decide +kernel
theorem d_M_edit_66 : decode prog_11_method_34_code 66 = .ok (.aload_n 0, 1) := by decide +kernel
theorem d_M_edit_67 : decode prog_11_method_34_code 67 = .ok (.iload_n 1, 1) := by decide +kernel
theorem d_M_edit_68 : decode prog_11_method_34_code 68 = .ok (.iload_n 3, 1) := by decide +kernel
theorem d_M_edit_69 : decode prog_11_method_34_code 69 = .ok (.invokevirtual 217, 3) := by decide +kernel
theorem d_M_edit_72 : decode prog_11_method_34_code 72 = .ok (.iconst 1, 1) := by decide +kernel
theorem d_M_edit_73 : decode prog_11_method_34_code 73 = .ok (.invokevirtual 188, 3) := by decide +kernel
theorem d_M_edit_76 : decode prog_11_method_34_code 76 = .ok (.ifCond .eq 7, 3) := by decide +kernel
theorem d_M_edit_79 : decode prog_11_method_34_code 79 = .ok (.iconst 1, 1) := by decide +kernel
theorem d_M_edit_80 : decode prog_11_method_34_code 80 = .ok (.goto 4, 3) := by decide +kernel
theorem d_M_edit_83 : decode prog_11_method_34_code 83 = .ok (.iconst 0, 1) := by decide +kernel
theorem d_M_edit_84 : decode prog_11_method_34_code 84 = .ok (.istore_n 2, 1) := by decide +kernel
theorem d_M_edit_85 : decode prog_11_method_34_code 85 = .ok (.iinc 3 1, 3) := by decide +kernel
theorem d_M_edit_88 : decode prog_11_method_34_code 88 = .ok (.goto (-32), 3) := by decide +kernel
theorem d_M_edit_91 : decode prog_11_method_34_code 91 = .ok (.iload_n 2, 1) := by decide +kernel
theorem d_M_edit_92 : decode prog_11_method_34_code 92 = .ok (.ifCond .ne 5, 3) := by decide +kernel
theorem d_M_edit_95 : decode prog_11_method_34_code 95 = .ok (.iconst 0, 1) := by decide +kernel
theorem d_M_edit_96 : decode prog_11_method_34_code 96 = .ok (.ireturn, 1) := by decide +kernel
theorem d_M_edit_97 : decode prog_11_method_34_code 97 = .ok (.aload_n 0, 1) := by decide +kernel
theorem d_M_edit_98 : decode prog_11_method_34_code 98 = .ok (.getfield 55, 3) := by decide +kernel
theorem d_M_edit_101 : decode prog_11_method_34_code 101 = .ok (.iconst 0, 1) := by decide +kernel
theorem d_M_edit_102 : decode prog_11_method_34_code 102 = .ok (.aload_n 0, 1) := by decide +kernel
theorem d_M_edit_103 : decode prog_11_method_34_code 103 = .ok (.getfield 248, 3) := by decide +kernel
theorem d_M_edit_106 : decode prog_11_method_34_code 106 = .ok (.aload_n 0, 1) := by decide +kernel
theorem d_M_edit_107 : decode prog_11_method_34_code 107 = .ok (.getfield 16, 3) := by decide +kernel
theorem d_M_edit_110 : decode prog_11_method_34_code 110 = .ok (.aload_n 0, 1) := by decide +kernel
theorem d_M_edit_111 : decode prog_11_method_34_code 111 = .ok (.iload_n 1, 1) := by decide +kernel
theorem d_M_edit_112 : decode prog_11_method_34_code 112 = .ok (.iconst 0, 1) := by decide +kernel
theorem d_M_edit_113 : decode prog_11_method_34_code 113 = .ok (.invokevirtual 217, 3) := by decide +kernel
theorem d_M_edit_116 : decode prog_11_method_34_code 116 = .ok (.iaload, 1) := by decide +kernel
theorem d_M_edit_117 : decode prog_11_method_34_code 117 = .ok (.aload_n 0, 1) := by decide +kernel
theorem d_M_edit_118 : decode prog_11_method_34_code 118 = .ok (.getfield 16, 3) := by decide +kernel
theorem d_M_edit_121 : decode prog_11_method_34_code 121 = .ok (.aload_n 0, 1) := by decide +kernel
theorem d_M_edit_122 : decode prog_11_method_34_code 122 = .ok (.iload_n 1, 1) := by decide +kernel
theorem d_M_edit_123 : decode prog_11_method_34_code 123 = .ok (.iconst 1, 1) := by decide +kernel
theorem d_M_edit_124 : decode prog_11_method_34_code 124 = .ok (.invokevirtual 217, 3) := by decide +kernel
theorem d_M_edit_127 : decode prog_11_method_34_code 127 = .ok (.iaload, 1) := by decide +kernel
theorem d_M_edit_128 : decode prog_11_method_34_code 128 = .ok (.invokestatic 258, 3) := by decide +kernel
theorem d_M_edit_131 : decode prog_11_method_34_code 131 = .ok (.istore_n 3, 1) := by decide +kernel
theorem d_M_edit_132 : decode prog_11_method_34_code 132 = .ok (.aload_n 0, 1) := by decide +kernel
theorem d_M_edit_133 : decode prog_11_method_34_code 133 = .ok (.getfield 55, 3) := by decide +kernel
theorem d_M_edit_136 : decode prog_11_method_34_code 136 = .ok (.iconst 0, 1) := by decide +kernel
theorem d_M_edit_137 : decode prog_11_method_34_code 137 = .ok (.aload_n 0, 1) := by decide +kernel
theorem d_M_edit_138 : decode prog_11_method_34_code 138 = .ok (.getfield 248, 3) := by decide +kernel
theorem d_M_edit_141 : decode prog_11_method_34_code 141 = .ok (.aload_n 0, 1) := by decide +kernel
theorem d_M_edit_142 : decode prog_11_method_34_code 142 = .ok (.getfield 16, 3) := by decide +kernel
theorem d_M_edit_145 : decode prog_11_method_34_code 145 = .ok (.aload_n 0, 1) := by decide +kernel
theorem d_M_edit_146 : decode prog_11_method_34_code 146 = .ok (.iload_n 1, 1) := by decide +kernel
theorem d_M_edit_147 : decode prog_11_method_34_code 147 = .ok (.iconst 2, 1) := by decide +kernel
theorem d_M_edit_148 : decode prog_11_method_34_code 148 = .ok (.invokevirtual 217, 3) := by decide +kernel
theorem d_M_edit_151 : decode prog_11_method_34_code 151 = .ok (.iaload, 1) := by decide +kernel
theorem d_M_edit_152 : decode prog_11_method_34_code 152 = .ok (.aload_n 0, 1) := by decide +kernel
theorem d_M_edit_153 : decode prog_11_method_34_code 153 = .ok (.getfield 16, 3) := by decide +kernel
theorem d_M_edit_156 : decode prog_11_method_34_code 156 = .ok (.aload_n 0, 1) := by decide +kernel
theorem d_M_edit_157 : decode prog_11_method_34_code 157 = .ok (.iload_n 1, 1) := by decide +kernel
theorem d_M_edit_158 : decode prog_11_method_34_code 158 = .ok (.iconst 3, 1) := by decide +kernel
theorem d_M_edit_159 : decode prog_11_method_34_code 159 = .ok (.invokevirtual 217, 3) := by decide +kernel
theorem d_M_edit_162 : decode prog_11_method_34_code 162 = .ok (.iaload, 1) := by decide +kernel
theorem d_M_edit_163 : decode prog_11_method_34_code 163 = .ok (.invokestatic 258, 3) := by decide +kernel
theorem d_M_edit_166 : decode prog_11_method_34_code 166 = .ok (.istore 4, 2) := by decide +kernel
theorem d_M_edit_168 : decode prog_11_method_34_code 168 = .ok (.aload_n 0, 1) := by decide +kernel
theorem d_M_edit_169 : decode prog_11_method_34_code 169 = .ok (.iload_n 3, 1) := by decide +kernel
theorem d_M_edit_170 : decode prog_11_method_34_code 170 = .ok (.iload 4, 2) := by decide +kernel
theorem d_M_edit_172 : decode prog_11_method_34_code 172 = .ok (.if_icmp .ge 7, 3) := by decide +kernel
theorem d_M_edit_175 : decode prog_11_method_34_code 175 = .ok (.iload_n 3, 1) := by decide +kernel
theorem d_M_edit_176 : decode prog_11_method_34_code 176 = .ok (.goto 5, 3) := by decide +kernel
theorem d_M_edit_179 : decode prog_11_method_34_code 179 = .ok (.iload 4, 2) := by decide +kernel
theorem d_M_edit_181 : decode prog_11_method_34_code 181 = .ok (.iload_n 3, 1) := by decide +kernel
theorem d_M_edit_182 : decode prog_11_method_34_code 182 = .ok (.iload 4, 2) := by decide +kernel
theorem d_M_edit_184 : decode prog_11_method_34_code 184 = .ok (.if_icmp .ge 8, 3) := by decide +kernel
theorem d_M_edit_187 : decode prog_11_method_34_code 187 = .ok (.iload 4, 2) := by decide +kernel
theorem d_M_edit_189 : decode prog_11_method_34_code 189 = .ok (.goto 4, 3) := by decide +kernel
theorem d_M_edit_192 : decode prog_11_method_34_code 192 = .ok (.iload_n 3, 1) := by decide +kernel
theorem d_M_edit_193 : decode prog_11_method_34_code 193 = .ok (.aload_n 0, 1) := by decide +kernel
theorem d_M_edit_194 : decode prog_11_method_34_code 194 = .ok (.iload_n 1, 1) := by decide +kernel
theorem d_M_edit_195 : decode prog_11_method_34_code 195 = .ok (.iconst 4, 1) := by decide +kernel
theorem d_M_edit_196 : decode prog_11_method_34_code 196 = .ok (.invokevirtual 217, 3) := by decide +kernel
theorem d_M_edit_199 : decode prog_11_method_34_code 199 = .ok (.invokevirtual 254, 3) := by decide +kernel
theorem d_M_edit_202 : decode prog_11_method_34_code 202 = .ok (.ireturn, 1) := by decide +kernel
set_option maxHeartbeats 4000000 in
set_option maxRecDepth 100000 in
theorem cM_edit (l : Launch) (dC : Nat → ClassId) (dI : Nat → Nat → Nat) (tk : Nat → ClassId) (A : Nat → Prop) (h : Nat) (L : Nat → Nat) (g : aG) (a : aA) (rw : va_W) (n : Nat) (v1 : Int32) (r0 : Int32) (g0 : aG) (a0 : aA) (hm : mM_edit n v1 g a = some (r0, g0, a0)) : CtI l dC dI tk A ⟨"EditorServerModel", "edit", "(I)Z"⟩ prog_11_method_34_code 5 (some .boolean) 2 51 [.ref h, .int v1] (oW 0 h ksM spM tk L g a rw) r0 (oW 0 h ksM spM tk L g0 a0 rw) := by
  refine ent (by decide) (Nat.le_of_ble_eq_true rfl) ?_
  intro p e s m args below meth c hx hb hr hml hown hlk hG hg hst ls hl
  unfold mM_edit at hm
  have hl : lv_has ls 5 [(0, .ref h), (1, .int v1)] := hl
  refine lv_aload_n hx hb d_M_edit_0 rfl (lv_at hl 0 rfl) ?_
  refine ro_geta hx hb hown hG hg cM hst 9 1 (by decide) rfl rfl k_1023 d_M_edit_1 ?_
  refine lv_iload_n hx hb d_M_edit_4 rfl (lv_at hl 1 rfl) ?_
  obtain ⟨hn1, hm⟩ := gd_u hm
  refine ro_iald hx hb hg hst 1 rfl hn1 d_M_edit_5 ?_
  refine lv_topi (fun x2 ex2 => ?_)
  have hm := lt_u hm x2 ex2
  refine lv_iconst (v := 2) hx hb d_M_edit_6 (by decide) ?_
  refine lv_icmp_ne (tgt := 21) hx hb d_M_edit_7 (by decide) (fun h3 => ?_) (fun h3 => ?_)
  · have hm := it_f hm h3
    refine lv_aload_n hx hb d_M_edit_21 rfl (lv_at hl 0 rfl) ?_
    refine ro_geta hx hb hown hG hg cM hst 9 1 (by decide) rfl rfl k_1023 d_M_edit_22 ?_
    refine lv_iload_n hx hb d_M_edit_25 rfl (lv_at hl 1 rfl) ?_
    obtain ⟨hn4, hm⟩ := gd_u hm
    refine ro_iald hx hb hg hst 1 rfl hn4 d_M_edit_26 ?_
    refine lv_topi (fun x5 ex5 => ?_)
    have hm := lt_u hm x5 ex5
    refine lv_iconst (v := 3) hx hb d_M_edit_27 (by decide) ?_
    refine lv_icmp_ne (tgt := 40) hx hb d_M_edit_28 (by decide) (fun h6 => ?_) (fun h6 => ?_)
    · have hm := it_f hm h6
      refine lv_iconst (v := 0) hx hb d_M_edit_40 (by decide) ?_
      have he := (Option.some.inj hm)
      cases he
      exact rt_i hx hb hr hlk (by decide) hst rfl d_M_edit_41
    · have hm := it_t hm h6
      refine lv_aload_n hx hb d_M_edit_31 rfl (lv_at hl 0 rfl) ?_
      refine lv_iload_n hx hb d_M_edit_32 rfl (lv_at hl 1 rfl) ?_
      obtain ⟨x8, hc9, hm⟩ := bd_u hm
      refine cl_vi hx hb hml hown hG hg (cM_items l dC dI tk A h L g a rw n v1 _ hc9) (cw_v 1 hG k_1247 k_1249 s_46 k_14 k_1250 (by decide +kernel) ⟨by decide, by decide⟩) hst rfl oW_0 rfl hl.1 rfl (Nat.le_of_ble_eq_true rfl) ⟨Nat.le_refl 0, Nat.le_refl 0⟩ d_M_edit_33 (fun H locs hst => ?_)
      refine lv_iconst (v := 5) hx hb d_M_edit_36 (by decide) ?_
      refine lv_icmp_eq (tgt := 42) hx hb d_M_edit_37 (by decide) (fun h10 => ?_) (fun h10 => ?_)
      · have hm := it_t hm h10
        refine lv_aload_n hx hb d_M_edit_42 rfl (lv_at hl 0 rfl) ?_
        refine lv_aload_n hx hb d_M_edit_43 rfl (lv_at hl 0 rfl) ?_
        refine lv_iload_n hx hb d_M_edit_44 rfl (lv_at hl 1 rfl) ?_
        refine lv_iconst (v := 4) hx hb d_M_edit_45 (by decide) ?_
        obtain ⟨x12, hc13, hm⟩ := bd_u hm
        refine cl_vi hx hb hml hown hG hg (cM_item l dC dI tk A h L g a rw n v1 4 _ hc13) (cw_v 2 hG k_1251 k_1253 s_47 k_14 k_1254 (by decide +kernel) ⟨by decide, by decide⟩) hst rfl oW_0 rfl hl.1 rfl (Nat.le_of_ble_eq_true rfl) ⟨Nat.le_refl 0, Nat.le_refl 0⟩ d_M_edit_46 (fun H locs hst => ?_)
        refine lv_iconst (v := 2) hx hb d_M_edit_49 (by decide) ?_
        obtain ⟨x15, hc16, hm⟩ := bd_u hm
        refine cl_vi hx hb hml hown hG hg (cM_isSort l dC dI tk A h L g a rw n x12 2 _ hc16) (cw_v 2 hG k_1223 k_1225 s_40 k_14 k_1226 (by decide +kernel) ⟨by decide, by decide⟩) hst rfl oW_0 rfl hl.1 rfl (Nat.le_of_ble_eq_true rfl) ⟨Nat.le_refl 0, Nat.le_refl 0⟩ d_M_edit_50 (fun H locs hst => ?_)
        refine lv_istore_n (lv' := [(2, .int x15), (0, .ref h), (1, .int v1)]) hx hb d_M_edit_53 rfl hl (by decide) rfl (fun ls hl => ?_)
        refine lv_iconst (v := 0) hx hb d_M_edit_54 (by decide) ?_
        refine lv_istore_n (lv' := [(3, .int 0), (2, .int x15), (0, .ref h), (1, .int v1)]) hx hb d_M_edit_55 rfl hl (by decide) rfl (fun ls hl => ?_)
        obtain ⟨qJ17, hm, hLJ17, hR18⟩ := jn_u hm
        have hJ17 : ∀ (x19 : Int32), qJ17 = .inl x19 → ∀ (H : Heap) (locs : List Loc) (ls : Array Slot), lv_has ls 5 [(0, .ref h), (1, .int v1), (2, .int x19)] → St dC dI A s.heap H locs (oW 0 h ksM spM tk L g a rw) → W p l e (rmo 2 51) s m args below meth c H locs 0 0 (MQ below (QI dC dI A r0 (oW 0 h ksM spM tk L g0 a0 rw)) args s 0 0 A) (F0 m 91 ls []) := by
          intro x19 hq H locs ls hl hst
          have hm := hLJ17 _ hq
          refine lv_iload_n hx hb d_M_edit_91 rfl (lv_at hl 2 rfl) ?_
          refine lv_if_ne (tgt := 97) hx hb d_M_edit_92 (by decide) (fun h21 => ?_) (fun h21 => ?_)
          · have hm := it_f hm h21
            refine lv_aload_n hx hb d_M_edit_97 rfl (lv_at hl 0 rfl) ?_
            refine ro_geta hx hb hown hG hg cM hst 28 15 (by decide) rfl rfl k_1042 d_M_edit_98 ?_
            refine lv_iconst (v := 0) hx hb d_M_edit_101 (by decide) ?_
            refine lv_aload_n hx hb d_M_edit_102 rfl (lv_at hl 0 rfl) ?_
            refine ro_geti hx hb hown hG hg cM hst 29 (by decide) rfl rfl k_1043 d_M_edit_103 ?_
            refine lv_aload_n hx hb d_M_edit_106 rfl (lv_at hl 0 rfl) ?_
            refine ro_geta hx hb hown hG hg cM hst 10 2 (by decide) rfl rfl k_1024 d_M_edit_107 ?_
            refine lv_aload_n hx hb d_M_edit_110 rfl (lv_at hl 0 rfl) ?_
            refine lv_iload_n hx hb d_M_edit_111 rfl (lv_at hl 1 rfl) ?_
            refine lv_iconst (v := 0) hx hb d_M_edit_112 (by decide) ?_
            obtain ⟨x23, hc24, hm⟩ := bd_u hm
            refine cl_vi hx hb hml hown hG hg (cM_item l dC dI tk A h L g a rw n v1 0 _ hc24) (cw_v 2 hG k_1251 k_1253 s_47 k_14 k_1254 (by decide +kernel) ⟨by decide, by decide⟩) hst rfl oW_0 rfl hl.1 rfl (Nat.le_of_ble_eq_true rfl) ⟨Nat.le_refl 0, Nat.le_refl 0⟩ d_M_edit_113 (fun H locs hst => ?_)
            obtain ⟨hn25, hm⟩ := gd_u hm
            refine ro_iald hx hb hg hst 2 rfl hn25 d_M_edit_116 ?_
            refine lv_topi (fun x26 ex26 => ?_)
            have hm := lt_u hm x26 ex26
            refine lv_aload_n hx hb d_M_edit_117 rfl (lv_at hl 0 rfl) ?_
            refine ro_geta hx hb hown hG hg cM hst 10 2 (by decide) rfl rfl k_1024 d_M_edit_118 ?_
            refine lv_aload_n hx hb d_M_edit_121 rfl (lv_at hl 0 rfl) ?_
            refine lv_iload_n hx hb d_M_edit_122 rfl (lv_at hl 1 rfl) ?_
            refine lv_iconst (v := 1) hx hb d_M_edit_123 (by decide) ?_
            obtain ⟨x28, hc29, hm⟩ := bd_u hm
            refine cl_vi hx hb hml hown hG hg (cM_item l dC dI tk A h L g a rw n v1 1 _ hc29) (cw_v 2 hG k_1251 k_1253 s_47 k_14 k_1254 (by decide +kernel) ⟨by decide, by decide⟩) hst rfl oW_0 rfl hl.1 rfl (Nat.le_of_ble_eq_true rfl) ⟨Nat.le_refl 0, Nat.le_refl 0⟩ d_M_edit_124 (fun H locs hst => ?_)
            obtain ⟨hn30, hm⟩ := gd_u hm
            refine ro_iald hx hb hg hst 2 rfl hn30 d_M_edit_127 ?_
            refine lv_topi (fun x31 ex31 => ?_)
            have hm := lt_u hm x31 ex31
            obtain ⟨x33, hc34, hm⟩ := bd_u hm
            refine cl_si hx hb hml hown hG hg (cM_placeIn l dC dI tk A h L g a rw n 15 60 rfl 0 (g 29) x26 x31 _ hc34) (cw_s 5 hG k_1284 k_1285 k_14 k_1286 (by decide +kernel) ⟨by decide, by decide⟩) hst rfl hl.1 rfl (Nat.le_of_ble_eq_true rfl) ⟨Nat.le_refl 0, Nat.le_refl 0⟩ d_M_edit_128 (fun H locs hst => ?_)
            refine lv_istore_n (lv' := [(3, .int x33), (0, .ref h), (1, .int v1), (2, .int x19)]) hx hb d_M_edit_131 rfl hl (by decide) rfl (fun ls hl => ?_)
            refine lv_aload_n hx hb d_M_edit_132 rfl (lv_at hl 1 rfl) ?_
            refine ro_geta hx hb hown hG hg cM hst 28 15 (by decide) rfl rfl k_1042 d_M_edit_133 ?_
            refine lv_iconst (v := 0) hx hb d_M_edit_136 (by decide) ?_
            refine lv_aload_n hx hb d_M_edit_137 rfl (lv_at hl 1 rfl) ?_
            refine ro_geti hx hb hown hG hg cM hst 29 (by decide) rfl rfl k_1043 d_M_edit_138 ?_
            refine lv_aload_n hx hb d_M_edit_141 rfl (lv_at hl 1 rfl) ?_
            refine ro_geta hx hb hown hG hg cM hst 10 2 (by decide) rfl rfl k_1024 d_M_edit_142 ?_
            refine lv_aload_n hx hb d_M_edit_145 rfl (lv_at hl 1 rfl) ?_
            refine lv_iload_n hx hb d_M_edit_146 rfl (lv_at hl 2 rfl) ?_
            refine lv_iconst (v := 2) hx hb d_M_edit_147 (by decide) ?_
            obtain ⟨x36, hc37, hm⟩ := bd_u hm
            refine cl_vi hx hb hml hown hG hg (cM_item l dC dI tk A h L g a rw n v1 2 _ hc37) (cw_v 2 hG k_1251 k_1253 s_47 k_14 k_1254 (by decide +kernel) ⟨by decide, by decide⟩) hst rfl oW_0 rfl hl.1 rfl (Nat.le_of_ble_eq_true rfl) ⟨Nat.le_refl 0, Nat.le_refl 0⟩ d_M_edit_148 (fun H locs hst => ?_)
            obtain ⟨hn38, hm⟩ := gd_u hm
            refine ro_iald hx hb hg hst 2 rfl hn38 d_M_edit_151 ?_
            refine lv_topi (fun x39 ex39 => ?_)
            have hm := lt_u hm x39 ex39
            refine lv_aload_n hx hb d_M_edit_152 rfl (lv_at hl 1 rfl) ?_
            refine ro_geta hx hb hown hG hg cM hst 10 2 (by decide) rfl rfl k_1024 d_M_edit_153 ?_
            refine lv_aload_n hx hb d_M_edit_156 rfl (lv_at hl 1 rfl) ?_
            refine lv_iload_n hx hb d_M_edit_157 rfl (lv_at hl 2 rfl) ?_
            refine lv_iconst (v := 3) hx hb d_M_edit_158 (by decide) ?_
            obtain ⟨x41, hc42, hm⟩ := bd_u hm
            refine cl_vi hx hb hml hown hG hg (cM_item l dC dI tk A h L g a rw n v1 3 _ hc42) (cw_v 2 hG k_1251 k_1253 s_47 k_14 k_1254 (by decide +kernel) ⟨by decide, by decide⟩) hst rfl oW_0 rfl hl.1 rfl (Nat.le_of_ble_eq_true rfl) ⟨Nat.le_refl 0, Nat.le_refl 0⟩ d_M_edit_159 (fun H locs hst => ?_)
            obtain ⟨hn43, hm⟩ := gd_u hm
            refine ro_iald hx hb hg hst 2 rfl hn43 d_M_edit_162 ?_
            refine lv_topi (fun x44 ex44 => ?_)
            have hm := lt_u hm x44 ex44
            obtain ⟨x46, hc47, hm⟩ := bd_u hm
            refine cl_si hx hb hml hown hG hg (cM_placeIn l dC dI tk A h L g a rw n 15 60 rfl 0 (g 29) x39 x44 _ hc47) (cw_s 5 hG k_1284 k_1285 k_14 k_1286 (by decide +kernel) ⟨by decide, by decide⟩) hst rfl hl.1 rfl (Nat.le_of_ble_eq_true rfl) ⟨Nat.le_refl 0, Nat.le_refl 0⟩ d_M_edit_163 (fun H locs hst => ?_)
            refine lv_istore (lv' := [(4, .int x46), (3, .int x33), (0, .ref h), (1, .int v1), (2, .int x19)]) hx hb d_M_edit_166 hl (by decide) rfl (fun ls hl => ?_)
            refine lv_aload_n hx hb d_M_edit_168 rfl (lv_at hl 2 rfl) ?_
            refine lv_iload_n hx hb d_M_edit_169 rfl (lv_at hl 1 rfl) ?_
            refine lv_iload hx hb d_M_edit_170 (lv_at hl 0 rfl) ?_
            obtain ⟨qJ48, hm, hLJ48, hR49⟩ := jn_u hm
            have hJ48 : ∀ (x50 : Int32), qJ48 = .inl x50 → ∀ (H : Heap) (locs : List Loc) (ls : Array Slot), lv_has ls 5 [(0, .ref h), (1, .int v1), (2, .int x19), (3, .int x33), (4, .int x46)] → St dC dI A s.heap H locs (oW 0 h ksM spM tk L g a rw) → W p l e (rmo 2 51) s m args below meth c H locs 0 0 (MQ below (QI dC dI A r0 (oW 0 h ksM spM tk L g0 a0 rw)) args s 0 0 A) (F0 m 181 ls [.int x50, .ref h]) := by
              intro x50 hq H locs ls hl hst
              have hm := hLJ48 _ hq
              refine lv_iload_n hx hb d_M_edit_181 rfl (lv_at hl 3 rfl) ?_
              refine lv_iload hx hb d_M_edit_182 (lv_at hl 4 rfl) ?_
              obtain ⟨qJ52, hm, hLJ52, hR53⟩ := jn_u hm
              have hJ52 : ∀ (x54 : Int32), qJ52 = .inl x54 → ∀ (H : Heap) (locs : List Loc) (ls : Array Slot), lv_has ls 5 [(0, .ref h), (1, .int v1), (2, .int x19), (3, .int x33), (4, .int x46)] → St dC dI A s.heap H locs (oW 0 h ksM spM tk L g a rw) → W p l e (rmo 2 51) s m args below meth c H locs 0 0 (MQ below (QI dC dI A r0 (oW 0 h ksM spM tk L g0 a0 rw)) args s 0 0 A) (F0 m 193 ls [.int x54, .int x50, .ref h]) := by
                intro x54 hq H locs ls hl hst
                have hm := hLJ52 _ hq
                refine lv_aload_n hx hb d_M_edit_193 rfl (lv_at hl 0 rfl) ?_
                refine lv_iload_n hx hb d_M_edit_194 rfl (lv_at hl 1 rfl) ?_
                refine lv_iconst (v := 4) hx hb d_M_edit_195 (by decide) ?_
                obtain ⟨x57, hc58, hm⟩ := bd_u hm
                refine cl_vi hx hb hml hown hG hg (cM_item l dC dI tk A h L g a rw n v1 4 _ hc58) (cw_v 2 hG k_1251 k_1253 s_47 k_14 k_1254 (by decide +kernel) ⟨by decide, by decide⟩) hst rfl oW_0 rfl hl.1 rfl (Nat.le_of_ble_eq_true rfl) ⟨Nat.le_refl 0, Nat.le_refl 0⟩ d_M_edit_196 (fun H locs hst => ?_)
                obtain ⟨⟨x60, g61, a62⟩, hc63, hm⟩ := bd_u hm
                dsimp only at hm
                refine cl_vi hx hb hml hown hG hg (cM_replace l dC dI tk A h L g a rw n x50 x54 x57 _ _ _ hc63) (cw_v 3 hG k_1280 k_1282 s_54 k_14 k_1283 (by decide +kernel) ⟨by decide, by decide⟩) hst rfl oW_0 rfl hl.1 rfl (Nat.le_of_ble_eq_true rfl) ⟨Nat.le_refl 0, Nat.le_refl 0⟩ d_M_edit_199 (fun H locs hst => ?_)
                obtain ⟨hn64, hm⟩ := gd_u hm
                have he := (Option.some.inj hm)
                cases he
                exact rt_i hx hb hr hlk (okz_n hn64).1 hst rfl d_M_edit_202
              refine lv_icmp_ge (tgt := 192) hx hb d_M_edit_184 (by decide) (fun h65 => ?_) (fun h65 => ?_)
              · have hm := it_t hm h65
                refine lv_iload_n hx hb d_M_edit_192 rfl (lv_at hl 3 rfl) ?_
                exact hJ52 x33 (Option.some.inj hm).symm _ _ _ (lv_sub hl [0, 1, 2, 3, 4] rfl) hst
              · have hm := it_f hm h65
                refine lv_iload hx hb d_M_edit_187 (lv_at hl 4 rfl) ?_
                refine lv_goto (tgt := 193) hx hb d_M_edit_189 (by decide) ?_
                exact hJ52 x46 (Option.some.inj hm).symm _ _ _ (lv_sub hl [0, 1, 2, 3, 4] rfl) hst
            refine lv_icmp_ge (tgt := 179) hx hb d_M_edit_172 (by decide) (fun h66 => ?_) (fun h66 => ?_)
            · have hm := it_t hm h66
              refine lv_iload hx hb d_M_edit_179 (lv_at hl 0 rfl) ?_
              exact hJ48 x46 (Option.some.inj hm).symm _ _ _ (lv_sub hl [2, 3, 4, 1, 0] rfl) hst
            · have hm := it_f hm h66
              refine lv_iload_n hx hb d_M_edit_175 rfl (lv_at hl 1 rfl) ?_
              refine lv_goto (tgt := 181) hx hb d_M_edit_176 (by decide) ?_
              exact hJ48 x33 (Option.some.inj hm).symm _ _ _ (lv_sub hl [2, 3, 4, 1, 0] rfl) hst
          · have hm := it_t hm h21
            refine lv_iconst (v := 0) hx hb d_M_edit_95 (by decide) ?_
            have he := (Option.some.inj hm)
            cases he
            exact rt_i hx hb hr hlk (by decide) hst rfl d_M_edit_96
        refine lp_u (fun q69 : Int32 × Int32 => ∀ (H : Heap) (locs : List Loc) (ls : Array Slot), lv_has ls 5 [(0, .ref h), (1, .int v1), (2, .int q69.1), (3, .int q69.2)] → St dC dI A s.heap H locs (oW 0 h ksM spM tk L g a rw) → W p l e (rmo 2 51) s m args below meth c H locs 0 0 (MQ below (QI dC dI A r0 (oW 0 h ksM spM tk L g0 a0 rw)) args s 0 0 A) (F0 m 56 ls [])) ?_ n (x15, 0) hm _ _ _ (lv_sub hl [2, 3, 1, 0] rfl) hst
        rintro ⟨x67, x68⟩ r72 hm hJ700 hR71 H locs ls hl hst
        dsimp only at hm hl hst ⊢
        have hJ70 := fun y0 y1 (e : r72 = .inl (y0, y1)) => hJ700 (y0, y1) e
        dsimp only at hJ70
        refine lv_iload_n hx hb d_M_edit_56 rfl (lv_at hl 3 rfl) ?_
        refine lv_iconst (v := 4) hx hb d_M_edit_57 (by decide) ?_
        refine lv_icmp_ge (tgt := 91) hx hb d_M_edit_58 (by decide) (fun h73 => ?_) (fun h73 => ?_)
        · have hm := it_t hm h73
          exact hJ17 x67 (hR71 _ (Option.some.inj hm).symm).symm _ _ _ (lv_sub hl [0, 1, 2] rfl) hst
        · have hm := it_f hm h73
          refine lv_iload_n hx hb d_M_edit_61 rfl (lv_at hl 2 rfl) ?_
          refine lv_if_eq (tgt := 83) hx hb d_M_edit_62 (by decide) (fun h74 => ?_) (fun h74 => ?_)
          · have hm := it_t hm h74
            refine lv_iconst (v := 0) hx hb d_M_edit_83 (by decide) ?_
            refine lv_istore_n (lv' := [(2, .int 0), (0, .ref h), (1, .int v1), (3, .int x68)]) hx hb d_M_edit_84 rfl hl (by decide) rfl (fun ls hl => ?_)
            refine lv_iinc (k := 3) (v := (x68 + 1)) (lv' := [(3, .int (x68 + 1)), (2, .int 0), (0, .ref h), (1, .int v1)]) hx hb d_M_edit_85 hl rfl (by rfl) (by decide) rfl (fun ls hl => ?_)
            refine lv_goto (tgt := 56) hx hb d_M_edit_88 (by decide) ?_
            exact hJ70 0 (x68 + 1) (Option.some.inj hm).symm _ _ _ (lv_sub hl [2, 3, 1, 0] rfl) hst
          · have hm := it_f hm h74
            refine lv_aload_n hx hb d_M_edit_65 rfl (lv_at hl 0 rfl) ?_
            refine lv_aload_n hx hb d_M_edit_66 rfl (lv_at hl 0 rfl) ?_
            refine lv_iload_n hx hb d_M_edit_67 rfl (lv_at hl 1 rfl) ?_
            refine lv_iload_n hx hb d_M_edit_68 rfl (lv_at hl 3 rfl) ?_
            obtain ⟨x76, hc77, hm⟩ := bd_u hm
            refine cl_vi hx hb hml hown hG hg (cM_item l dC dI tk A h L g a rw n v1 x68 _ hc77) (cw_v 2 hG k_1251 k_1253 s_47 k_14 k_1254 (by decide +kernel) ⟨by decide, by decide⟩) hst rfl oW_0 rfl hl.1 rfl (Nat.le_of_ble_eq_true rfl) ⟨Nat.le_refl 0, Nat.le_refl 0⟩ d_M_edit_69 (fun H locs hst => ?_)
            refine lv_iconst (v := 1) hx hb d_M_edit_72 (by decide) ?_
            obtain ⟨x79, hc80, hm⟩ := bd_u hm
            refine cl_vi hx hb hml hown hG hg (cM_isSort l dC dI tk A h L g a rw n x76 1 _ hc80) (cw_v 2 hG k_1223 k_1225 s_40 k_14 k_1226 (by decide +kernel) ⟨by decide, by decide⟩) hst rfl oW_0 rfl hl.1 rfl (Nat.le_of_ble_eq_true rfl) ⟨Nat.le_refl 0, Nat.le_refl 0⟩ d_M_edit_73 (fun H locs hst => ?_)
            refine lv_if_eq (tgt := 83) hx hb d_M_edit_76 (by decide) (fun h81 => ?_) (fun h81 => ?_)
            · have hm := it_t hm h81
              refine lv_iconst (v := 0) hx hb d_M_edit_83 (by decide) ?_
              refine lv_istore_n (lv' := [(2, .int 0), (0, .ref h), (1, .int v1), (3, .int x68)]) hx hb d_M_edit_84 rfl hl (by decide) rfl (fun ls hl => ?_)
              refine lv_iinc (k := 3) (v := (x68 + 1)) (lv' := [(3, .int (x68 + 1)), (2, .int 0), (0, .ref h), (1, .int v1)]) hx hb d_M_edit_85 hl rfl (by rfl) (by decide) rfl (fun ls hl => ?_)
              refine lv_goto (tgt := 56) hx hb d_M_edit_88 (by decide) ?_
              exact hJ70 0 (x68 + 1) (Option.some.inj hm).symm _ _ _ (lv_sub hl [2, 3, 1, 0] rfl) hst
            · have hm := it_f hm h81
              refine lv_iconst (v := 1) hx hb d_M_edit_79 (by decide) ?_
              refine lv_goto (tgt := 84) hx hb d_M_edit_80 (by decide) ?_
              refine lv_istore_n (lv' := [(2, .int 1), (0, .ref h), (1, .int v1), (3, .int x68)]) hx hb d_M_edit_84 rfl hl (by decide) rfl (fun ls hl => ?_)
              refine lv_iinc (k := 3) (v := (x68 + 1)) (lv' := [(3, .int (x68 + 1)), (2, .int 1), (0, .ref h), (1, .int v1)]) hx hb d_M_edit_85 hl rfl (by rfl) (by decide) rfl (fun ls hl => ?_)
              refine lv_goto (tgt := 56) hx hb d_M_edit_88 (by decide) ?_
              exact hJ70 1 (x68 + 1) (Option.some.inj hm).symm _ _ _ (lv_sub hl [2, 3, 1, 0] rfl) hst
      · have hm := it_f hm h10
        refine lv_iconst (v := 0) hx hb d_M_edit_40 (by decide) ?_
        have he := (Option.some.inj hm)
        cases he
        exact rt_i hx hb hr hlk (by decide) hst rfl d_M_edit_41
  · have hm := it_t hm h3
    refine lv_aload_n hx hb d_M_edit_10 rfl (lv_at hl 0 rfl) ?_
    refine lv_iconst (v := 0) hx hb d_M_edit_11 (by decide) ?_
    refine lv_aload_n hx hb d_M_edit_12 rfl (lv_at hl 0 rfl) ?_
    refine ro_geti hx hb hown hG hg cM hst 29 (by decide) rfl rfl k_1043 d_M_edit_13 ?_
    refine lv_iload_n hx hb d_M_edit_16 rfl (lv_at hl 1 rfl) ?_
    obtain ⟨⟨x83, g84, a85⟩, hc86, hm⟩ := bd_u hm
    dsimp only at hm
    refine cl_vi hx hb hml hown hG hg (cM_replace l dC dI tk A h L g a rw n 0 (g 29) v1 _ _ _ hc86) (cw_v 3 hG k_1280 k_1282 s_54 k_14 k_1283 (by decide +kernel) ⟨by decide, by decide⟩) hst rfl oW_0 rfl hl.1 rfl (Nat.le_of_ble_eq_true rfl) ⟨Nat.le_refl 0, Nat.le_refl 0⟩ d_M_edit_17 (fun H locs hst => ?_)
    obtain ⟨hn87, hm⟩ := gd_u hm
    have he := (Option.some.inj hm)
    cases he
    exact rt_i hx hb hr hlk (okz_n hn87).1 hst rfl d_M_edit_20
def mM_change (n : Nat) (v1 : Int32) (g : aG) (a : aA) : Option (Int32 × aG × aA) := bd (mM_items n v1 g a) (fun x2 => jn (α := Int32) (if 2 ≤ x2 then (bd (mM_item n v1 0 g a) (fun x89 => bd (mM_documentOf n x89 g a) (fun x92 => some (.inl x92)))) else (some (.inl (-1)))) (fun x6 => if x6 < 0 then (some ((0, g, a))) else (bd (mM_item n v1 1 g a) (fun x10 => bd (mM_isSort n x10 1 g a) (fun x13 => if x13 = 0 then (some ((0, g, a))) else (bd (mM_item n v1 1 g a) (fun x17 => gd (inb x17 41) (lt (a 2 x17.toNatClampNeg) (fun x20 => gd (inb x6 3) (lt (a 12 x6.toNatClampNeg) (fun x22 => if x22 < x20 then (gd (inb x6 3) (lt (a 13 x6.toNatClampNeg) (fun x25 => lt (va_up g 29 x25) (fun g26 => jn (α := aA) (lp (ε := Int32 × aA) (fun q78 => if (g26 29) ≤ q78.1 then (some (.inr (.inl q78.2))) else (gd (inb ((60 * x6) + q78.1) 180) (lt (q78.2 14 ((60 * x6) + q78.1).toNatClampNeg) (fun x84 => gd (inb q78.1 60) (lt (va_up q78.2 15 (upd (q78.2 15) q78.1.toNatClampNeg x84)) (fun a86 => some (.inl ((q78.1 + 1), a86)))))))) n (0, a)) (fun a29 => jn (α := Int32 × aG × aA) (lp (ε := Int32 × Int32 × aG × aA) (fun q62 => if x2 ≤ q62.2.1 then (some (.inr (.inl (q62.1, q62.2.2.1, q62.2.2.2)))) else (if q62.1 = 0 then (some (.inr (.inl (q62.1, q62.2.2.1, q62.2.2.2)))) else (bd (mM_item n v1 q62.2.1 q62.2.2.1 q62.2.2.2) (fun x69 => bd (mM_edit n x69 q62.2.2.1 q62.2.2.2) (fun q71 => some (.inl (q71.1, (q62.2.1 + 1), q71.2.1, q71.2.2))))))) n (1, 2, g26, a29)) (fun q36 => if q36.1 = 0 then (some ((0, q36.2.1, q36.2.2))) else (bd (mM_item n v1 1 q36.2.1 q36.2.2) (fun x39 => gd (inb x39 41) (lt (q36.2.2 2 x39.toNatClampNeg) (fun x42 => gd (inb x6 3) (lt (va_up q36.2.2 12 (upd (q36.2.2 12) x6.toNatClampNeg x42)) (fun a44 => gd (inb x6 3) (lt (va_up a44 13 (upd (a44 13) x6.toNatClampNeg (q36.2.1 29))) (fun a46 => lp (ε := Int32 × aA) (fun q49 => if (q36.2.1 29) ≤ q49.1 then (some (.inr ((1, q36.2.1, q49.2)))) else (gd (inb q49.1 60) (lt (q49.2 15 q49.1.toNatClampNeg) (fun x55 => gd (inb ((60 * x6) + q49.1) 180) (lt (va_up q49.2 14 (upd (q49.2 14) ((60 * x6) + q49.1).toNatClampNeg x55)) (fun a57 => some (.inl ((q49.1 + 1), a57)))))))) n (0, a46))))))))))))))) else (some ((0, g, a))))))))))))))
theorem d_M_change_0 : decode prog_11_method_33_code 0 = .ok (.aload_n 0, 1) := by decide +kernel
theorem d_M_change_1 : decode prog_11_method_33_code 1 = .ok (.iload_n 1, 1) := by decide +kernel
theorem d_M_change_2 : decode prog_11_method_33_code 2 = .ok (.invokevirtual 225, 3) := by decide +kernel
theorem d_M_change_5 : decode prog_11_method_33_code 5 = .ok (.istore_n 2, 1) := by decide +kernel
theorem d_M_change_6 : decode prog_11_method_33_code 6 = .ok (.iload_n 2, 1) := by decide +kernel
theorem d_M_change_7 : decode prog_11_method_33_code 7 = .ok (.iconst 2, 1) := by decide +kernel
theorem d_M_change_8 : decode prog_11_method_33_code 8 = .ok (.if_icmp .ge 7, 3) := by decide +kernel
theorem d_M_change_11 : decode prog_11_method_33_code 11 = .ok (.iconst (-1), 1) := by decide +kernel
theorem d_M_change_12 : decode prog_11_method_33_code 12 = .ok (.goto 13, 3) := by decide +kernel
theorem d_M_change_15 : decode prog_11_method_33_code 15 = .ok (.aload_n 0, 1) := by decide +kernel
theorem d_M_change_16 : decode prog_11_method_33_code 16 = .ok (.aload_n 0, 1) := by decide +kernel
theorem d_M_change_17 : decode prog_11_method_33_code 17 = .ok (.iload_n 1, 1) := by decide +kernel
theorem d_M_change_18 : decode prog_11_method_33_code 18 = .ok (.iconst 0, 1) := by decide +kernel
theorem d_M_change_19 : decode prog_11_method_33_code 19 = .ok (.invokevirtual 217, 3) := by decide +kernel
theorem d_M_change_22 : decode prog_11_method_33_code 22 = .ok (.invokevirtual 221, 3) := by decide +kernel
theorem d_M_change_25 : decode prog_11_method_33_code 25 = .ok (.istore_n 3, 1) := by decide +kernel
theorem d_M_change_26 : decode prog_11_method_33_code 26 = .ok (.iload_n 3, 1) := by decide +kernel
theorem d_M_change_27 : decode prog_11_method_33_code 27 = .ok (.ifCond .lt 37, 3) := by decide +kernel
theorem d_M_change_30 : decode prog_11_method_33_code 30 = .ok (.aload_n 0, 1) := by decide +kernel
theorem d_M_change_31 : decode prog_11_method_33_code 31 = .ok (.aload_n 0, 1) := by decide +kernel
theorem d_M_change_32 : decode prog_11_method_33_code 32 = .ok (.iload_n 1, 1) := by decide +kernel
theorem d_M_change_33 : decode prog_11_method_33_code 33 = .ok (.iconst 1, 1) := by decide +kernel
theorem d_M_change_34 : decode prog_11_method_33_code 34 = .ok (.invokevirtual 217, 3) := by decide +kernel
theorem d_M_change_37 : decode prog_11_method_33_code 37 = .ok (.iconst 1, 1) := by decide +kernel
theorem d_M_change_38 : decode prog_11_method_33_code 38 = .ok (.invokevirtual 188, 3) := by decide +kernel
theorem d_M_change_41 : decode prog_11_method_33_code 41 = .ok (.ifCond .eq 23, 3) := by decide +kernel
theorem d_M_change_44 : decode prog_11_method_33_code 44 = .ok (.aload_n 0, 1) := by decide +kernel
theorem d_M_change_45 : decode prog_11_method_33_code 45 = .ok (.getfield 16, 3) := by decide +kernel
theorem d_M_change_48 : decode prog_11_method_33_code 48 = .ok (.aload_n 0, 1) := by decide +kernel
theorem d_M_change_49 : decode prog_11_method_33_code 49 = .ok (.iload_n 1, 1) := by decide +kernel
theorem d_M_change_50 : decode prog_11_method_33_code 50 = .ok (.iconst 1, 1) := by decide +kernel
theorem d_M_change_51 : decode prog_11_method_33_code 51 = .ok (.invokevirtual 217, 3) := by decide +kernel
theorem d_M_change_54 : decode prog_11_method_33_code 54 = .ok (.iaload, 1) := by decide +kernel
theorem d_M_change_55 : decode prog_11_method_33_code 55 = .ok (.aload_n 0, 1) := by decide +kernel
theorem d_M_change_56 : decode prog_11_method_33_code 56 = .ok (.getfield 46, 3) := by decide +kernel
theorem d_M_change_59 : decode prog_11_method_33_code 59 = .ok (.iload_n 3, 1) := by decide +kernel
theorem d_M_change_60 : decode prog_11_method_33_code 60 = .ok (.iaload, 1) := by decide +kernel
theorem d_M_change_61 : decode prog_11_method_33_code 61 = .ok (.if_icmp .gt 5, 3) := by decide +kernel
theorem d_M_change_64 : decode prog_11_method_33_code 64 = .ok (.iconst 0, 1) := by decide +kernel
theorem d_M_change_65 : decode prog_11_method_33_code 65 = .ok (.ireturn, 1) := by decide +kernel
theorem d_M_change_66 : decode prog_11_method_33_code 66 = .ok (.aload_n 0, 1) := by decide +kernel
theorem d_M_change_67 : decode prog_11_method_33_code 67 = .ok (.aload_n 0, 1) := by decide +kernel
theorem d_M_change_68 : decode prog_11_method_33_code 68 = .ok (.getfield 49, 3) := by decide +kernel
theorem d_M_change_71 : decode prog_11_method_33_code 71 = .ok (.iload_n 3, 1) := by decide +kernel
theorem d_M_change_72 : decode prog_11_method_33_code 72 = .ok (.iaload, 1) := by decide +kernel
theorem d_M_change_73 : decode prog_11_method_33_code 73 = .ok (.putfield 248, 3) := by decide +kernel
theorem d_M_change_76 : decode prog_11_method_33_code 76 = .ok (.iconst 0, 1) := by decide +kernel
theorem d_M_change_77 : decode prog_11_method_33_code 77 = .ok (.istore 4, 2) := by decide +kernel
theorem d_M_change_79 : decode prog_11_method_33_code 79 = .ok (.iload 4, 2) := by decide +kernel
theorem d_M_change_81 : decode prog_11_method_33_code 81 = .ok (.aload_n 0, 1) := by decide +kernel
theorem d_M_change_82 : decode prog_11_method_33_code 82 = .ok (.getfield 248, 3) := by decide +kernel
theorem d_M_change_85 : decode prog_11_method_33_code 85 = .ok (.if_icmp .ge 28, 3) := by decide +kernel
theorem d_M_change_88 : decode prog_11_method_33_code 88 = .ok (.aload_n 0, 1) := by decide +kernel
theorem d_M_change_89 : decode prog_11_method_33_code 89 = .ok (.getfield 55, 3) := by decide +kernel
theorem d_M_change_92 : decode prog_11_method_33_code 92 = .ok (.iload 4, 2) := by decide +kernel
theorem d_M_change_94 : decode prog_11_method_33_code 94 = .ok (.aload_n 0, 1) := by decide +kernel
theorem d_M_change_95 : decode prog_11_method_33_code 95 = .ok (.getfield 52, 3) := by decide +kernel
theorem d_M_change_98 : decode prog_11_method_33_code 98 = .ok (.bipush 60, 2) := by decide +kernel
theorem d_M_change_100 : decode prog_11_method_33_code 100 = .ok (.iload_n 3, 1) := by decide +kernel
theorem d_M_change_101 : decode prog_11_method_33_code 101 = .ok (.imul, 1) := by decide +kernel
theorem d_M_change_102 : decode prog_11_method_33_code 102 = .ok (.iload 4, 2) := by decide +kernel
theorem d_M_change_104 : decode prog_11_method_33_code 104 = .ok (.iadd, 1) := by decide +kernel
theorem d_M_change_105 : decode prog_11_method_33_code 105 = .ok (.iaload, 1) := by decide +kernel
theorem d_M_change_106 : decode prog_11_method_33_code 106 = .ok (.iastore, 1) := by decide +kernel
theorem d_M_change_107 : decode prog_11_method_33_code 107 = .ok (.iinc 4 1, 3) := by decide +kernel
theorem d_M_change_110 : decode prog_11_method_33_code 110 = .ok (.goto (-31), 3) := by decide +kernel
theorem d_M_change_113 : decode prog_11_method_33_code 113 = .ok (.iconst 1, 1) := by decide +kernel
theorem d_M_change_114 : decode prog_11_method_33_code 114 = .ok (.istore 4, 2) := by decide +kernel
theorem d_M_change_116 : decode prog_11_method_33_code 116 = .ok (.iconst 2, 1) := by decide +kernel
theorem d_M_change_117 : decode prog_11_method_33_code 117 = .ok (.istore 5, 2) := by decide +kernel
theorem d_M_change_119 : decode prog_11_method_33_code 119 = .ok (.iload 5, 2) := by decide +kernel
theorem d_M_change_121 : decode prog_11_method_33_code 121 = .ok (.iload_n 2, 1) := by decide +kernel
theorem d_M_change_122 : decode prog_11_method_33_code 122 = .ok (.if_icmp .ge 27, 3) := by decide +kernel
theorem d_M_change_125 : decode prog_11_method_33_code 125 = .ok (.iload 4, 2) := by decide +kernel
theorem d_M_change_127 : decode prog_11_method_33_code 127 = .ok (.ifCond .eq 22, 3) := by decide +kernel
theorem d_M_change_130 : decode prog_11_method_33_code 130 = .ok (.aload_n 0, 1) := by decide +kernel
theorem d_M_change_131 : decode prog_11_method_33_code 131 = .ok (.aload_n 0, 1) := by decide +kernel
theorem d_M_change_132 : decode prog_11_method_33_code 132 = .ok (.iload_n 1, 1) := by decide +kernel
theorem d_M_change_133 : decode prog_11_method_33_code 133 = .ok (.iload 5, 2) := by decide +kernel
theorem d_M_change_135 : decode prog_11_method_33_code 135 = .ok (.invokevirtual 217, 3) := by decide +kernel
theorem d_M_change_138 : decode prog_11_method_33_code 138 = .ok (.invokevirtual 251, 3) := by decide +kernel
theorem d_M_change_141 : decode prog_11_method_33_code 141 = .ok (.istore 4, 2) := by decide +kernel
theorem d_M_change_143 : decode prog_11_method_33_code 143 = .ok (.iinc 5 1, 3) := by decide +kernel
theorem d_M_change_146 : decode prog_11_method_33_code 146 = .ok (.goto (-27), 3) := by decide +kernel
theorem d_M_change_149 : decode prog_11_method_33_code 149 = .ok (.iload 4, 2) := by decide +kernel
theorem d_M_change_151 : decode prog_11_method_33_code 151 = .ok (.ifCond .ne 5, 3) := by decide +kernel
theorem d_M_change_154 : decode prog_11_method_33_code 154 = .ok (.iconst 0, 1) := by decide +kernel
theorem d_M_change_155 : decode prog_11_method_33_code 155 = .ok (.ireturn, 1) := by decide +kernel
theorem d_M_change_156 : decode prog_11_method_33_code 156 = .ok (.aload_n 0, 1) := by decide +kernel
theorem d_M_change_157 : decode prog_11_method_33_code 157 = .ok (.getfield 46, 3) := by decide +kernel
theorem d_M_change_160 : decode prog_11_method_33_code 160 = .ok (.iload_n 3, 1) := by decide +kernel
theorem d_M_change_161 : decode prog_11_method_33_code 161 = .ok (.aload_n 0, 1) := by decide +kernel
theorem d_M_change_162 : decode prog_11_method_33_code 162 = .ok (.getfield 16, 3) := by decide +kernel
theorem d_M_change_165 : decode prog_11_method_33_code 165 = .ok (.aload_n 0, 1) := by decide +kernel
theorem d_M_change_166 : decode prog_11_method_33_code 166 = .ok (.iload_n 1, 1) := by decide +kernel
theorem d_M_change_167 : decode prog_11_method_33_code 167 = .ok (.iconst 1, 1) := by decide +kernel
theorem d_M_change_168 : decode prog_11_method_33_code 168 = .ok (.invokevirtual 217, 3) := by decide +kernel
theorem d_M_change_171 : decode prog_11_method_33_code 171 = .ok (.iaload, 1) := by decide +kernel
theorem d_M_change_172 : decode prog_11_method_33_code 172 = .ok (.iastore, 1) := by decide +kernel
theorem d_M_change_173 : decode prog_11_method_33_code 173 = .ok (.aload_n 0, 1) := by decide +kernel
theorem d_M_change_174 : decode prog_11_method_33_code 174 = .ok (.getfield 49, 3) := by decide +kernel
theorem d_M_change_177 : decode prog_11_method_33_code 177 = .ok (.iload_n 3, 1) := by decide +kernel
theorem d_M_change_178 : decode prog_11_method_33_code 178 = .ok (.aload_n 0, 1) := by decide +kernel
theorem d_M_change_179 : decode prog_11_method_33_code 179 = .ok (.getfield 248, 3) := by decide +kernel
theorem d_M_change_182 : decode prog_11_method_33_code 182 = .ok (.iastore, 1) := by decide +kernel
theorem d_M_change_183 : decode prog_11_method_33_code 183 = .ok (.iconst 0, 1) := by decide +kernel
theorem d_M_change_184 : decode prog_11_method_33_code 184 = .ok (.istore 5, 2) := by decide +kernel
theorem d_M_change_186 : decode prog_11_method_33_code 186 = .ok (.iload 5, 2) := by decide +kernel
theorem d_M_change_188 : decode prog_11_method_33_code 188 = .ok (.aload_n 0, 1) := by decide +kernel
theorem d_M_change_189 : decode prog_11_method_33_code 189 = .ok (.getfield 248, 3) := by decide +kernel
theorem d_M_change_192 : decode prog_11_method_33_code 192 = .ok (.if_icmp .ge 28, 3) := by decide +kernel
theorem d_M_change_195 : decode prog_11_method_33_code 195 = .ok (.aload_n 0, 1) := by decide +kernel
theorem d_M_change_196 : decode prog_11_method_33_code 196 = .ok (.getfield 52, 3) := by decide +kernel
theorem d_M_change_199 : decode prog_11_method_33_code 199 = .ok (.bipush 60, 2) := by decide +kernel
theorem d_M_change_201 : decode prog_11_method_33_code 201 = .ok (.iload_n 3, 1) := by decide +kernel
theorem d_M_change_202 : decode prog_11_method_33_code 202 = .ok (.imul, 1) := by decide +kernel
theorem d_M_change_203 : decode prog_11_method_33_code 203 = .ok (.iload 5, 2) := by decide +kernel
theorem d_M_change_205 : decode prog_11_method_33_code 205 = .ok (.iadd, 1) := by decide +kernel
theorem d_M_change_206 : decode prog_11_method_33_code 206 = .ok (.aload_n 0, 1) := by decide +kernel
theorem d_M_change_207 : decode prog_11_method_33_code 207 = .ok (.getfield 55, 3) := by decide +kernel
theorem d_M_change_210 : decode prog_11_method_33_code 210 = .ok (.iload 5, 2) := by decide +kernel
theorem d_M_change_212 : decode prog_11_method_33_code 212 = .ok (.iaload, 1) := by decide +kernel
theorem d_M_change_213 : decode prog_11_method_33_code 213 = .ok (.iastore, 1) := by decide +kernel
theorem d_M_change_214 : decode prog_11_method_33_code 214 = .ok (.iinc 5 1, 3) := by decide +kernel
theorem d_M_change_217 : decode prog_11_method_33_code 217 = .ok (.goto (-31), 3) := by decide +kernel
theorem d_M_change_220 : decode prog_11_method_33_code 220 = .ok (.iconst 1, 1) := by decide +kernel
theorem d_M_change_221 : decode prog_11_method_33_code 221 = .ok (.ireturn, 1) := by decide +kernel
set_option maxHeartbeats 4000000 in
set_option maxRecDepth 100000 in
theorem cM_change (l : Launch) (dC : Nat → ClassId) (dI : Nat → Nat → Nat) (tk : Nat → ClassId) (A : Nat → Prop) (h : Nat) (L : Nat → Nat) (g : aG) (a : aA) (rw : va_W) (n : Nat) (v1 : Int32) (r0 : Int32) (g0 : aG) (a0 : aA) (hm : mM_change n v1 g a = some (r0, g0, a0)) : CtI l dC dI tk A ⟨"EditorServerModel", "change", "(I)Z"⟩ prog_11_method_33_code 6 (some .boolean) 3 75 [.ref h, .int v1] (oW 0 h ksM spM tk L g a rw) r0 (oW 0 h ksM spM tk L g0 a0 rw) := by
  refine ent (by decide) (Nat.le_of_ble_eq_true rfl) ?_
  intro p e s m args below meth c hx hb hr hml hown hlk hG hg hst ls hl
  unfold mM_change at hm
  have hl : lv_has ls 6 [(0, .ref h), (1, .int v1)] := hl
  refine lv_aload_n hx hb d_M_change_0 rfl (lv_at hl 0 rfl) ?_
  refine lv_iload_n hx hb d_M_change_1 rfl (lv_at hl 1 rfl) ?_
  obtain ⟨x2, hc3, hm⟩ := bd_u hm
  refine cl_vi hx hb hml hown hG hg (cM_items l dC dI tk A h L g a rw n v1 _ hc3) (cw_v 1 hG k_1247 k_1249 s_46 k_14 k_1250 (by decide +kernel) ⟨by decide, by decide⟩) hst rfl oW_0 rfl hl.1 rfl (Nat.le_of_ble_eq_true rfl) ⟨Nat.le_refl 0, Nat.le_refl 0⟩ d_M_change_2 (fun H locs hst => ?_)
  refine lv_istore_n (lv' := [(2, .int x2), (0, .ref h), (1, .int v1)]) hx hb d_M_change_5 rfl hl (by decide) rfl (fun ls hl => ?_)
  refine lv_iload_n hx hb d_M_change_6 rfl (lv_at hl 0 rfl) ?_
  refine lv_iconst (v := 2) hx hb d_M_change_7 (by decide) ?_
  obtain ⟨qJ4, hm, hLJ4, hR5⟩ := jn_u hm
  have hJ4 : ∀ (x6 : Int32), qJ4 = .inl x6 → ∀ (H : Heap) (locs : List Loc) (ls : Array Slot), lv_has ls 6 [(0, .ref h), (1, .int v1), (2, .int x2)] → St dC dI A s.heap H locs (oW 0 h ksM spM tk L g a rw) → W p l e (rmo 3 75) s m args below meth c H locs 0 0 (MQ below (QI dC dI A r0 (oW 0 h ksM spM tk L g0 a0 rw)) args s 0 0 A) (F0 m 25 ls [.int x6]) := by
    intro x6 hq H locs ls hl hst
    have hm := hLJ4 _ hq
    refine lv_istore_n (lv' := [(3, .int x6), (0, .ref h), (1, .int v1), (2, .int x2)]) hx hb d_M_change_25 rfl hl (by decide) rfl (fun ls hl => ?_)
    refine lv_iload_n hx hb d_M_change_26 rfl (lv_at hl 0 rfl) ?_
    refine lv_if_lt (tgt := 64) hx hb d_M_change_27 (by decide) (fun h8 => ?_) (fun h8 => ?_)
    · have hm := it_t hm h8
      refine lv_iconst (v := 0) hx hb d_M_change_64 (by decide) ?_
      have he := (Option.some.inj hm)
      cases he
      exact rt_i hx hb hr hlk (by decide) hst rfl d_M_change_65
    · have hm := it_f hm h8
      refine lv_aload_n hx hb d_M_change_30 rfl (lv_at hl 1 rfl) ?_
      refine lv_aload_n hx hb d_M_change_31 rfl (lv_at hl 1 rfl) ?_
      refine lv_iload_n hx hb d_M_change_32 rfl (lv_at hl 2 rfl) ?_
      refine lv_iconst (v := 1) hx hb d_M_change_33 (by decide) ?_
      obtain ⟨x10, hc11, hm⟩ := bd_u hm
      refine cl_vi hx hb hml hown hG hg (cM_item l dC dI tk A h L g a rw n v1 1 _ hc11) (cw_v 2 hG k_1251 k_1253 s_47 k_14 k_1254 (by decide +kernel) ⟨by decide, by decide⟩) hst rfl oW_0 rfl hl.1 rfl (Nat.le_of_ble_eq_true rfl) ⟨Nat.le_refl 0, Nat.le_refl 0⟩ d_M_change_34 (fun H locs hst => ?_)
      refine lv_iconst (v := 1) hx hb d_M_change_37 (by decide) ?_
      obtain ⟨x13, hc14, hm⟩ := bd_u hm
      refine cl_vi hx hb hml hown hG hg (cM_isSort l dC dI tk A h L g a rw n x10 1 _ hc14) (cw_v 2 hG k_1223 k_1225 s_40 k_14 k_1226 (by decide +kernel) ⟨by decide, by decide⟩) hst rfl oW_0 rfl hl.1 rfl (Nat.le_of_ble_eq_true rfl) ⟨Nat.le_refl 0, Nat.le_refl 0⟩ d_M_change_38 (fun H locs hst => ?_)
      refine lv_if_eq (tgt := 64) hx hb d_M_change_41 (by decide) (fun h15 => ?_) (fun h15 => ?_)
      · have hm := it_t hm h15
        refine lv_iconst (v := 0) hx hb d_M_change_64 (by decide) ?_
        have he := (Option.some.inj hm)
        cases he
        exact rt_i hx hb hr hlk (by decide) hst rfl d_M_change_65
      · have hm := it_f hm h15
        refine lv_aload_n hx hb d_M_change_44 rfl (lv_at hl 1 rfl) ?_
        refine ro_geta hx hb hown hG hg cM hst 10 2 (by decide) rfl rfl k_1024 d_M_change_45 ?_
        refine lv_aload_n hx hb d_M_change_48 rfl (lv_at hl 1 rfl) ?_
        refine lv_iload_n hx hb d_M_change_49 rfl (lv_at hl 2 rfl) ?_
        refine lv_iconst (v := 1) hx hb d_M_change_50 (by decide) ?_
        obtain ⟨x17, hc18, hm⟩ := bd_u hm
        refine cl_vi hx hb hml hown hG hg (cM_item l dC dI tk A h L g a rw n v1 1 _ hc18) (cw_v 2 hG k_1251 k_1253 s_47 k_14 k_1254 (by decide +kernel) ⟨by decide, by decide⟩) hst rfl oW_0 rfl hl.1 rfl (Nat.le_of_ble_eq_true rfl) ⟨Nat.le_refl 0, Nat.le_refl 0⟩ d_M_change_51 (fun H locs hst => ?_)
        obtain ⟨hn19, hm⟩ := gd_u hm
        refine ro_iald hx hb hg hst 2 rfl hn19 d_M_change_54 ?_
        refine lv_topi (fun x20 ex20 => ?_)
        have hm := lt_u hm x20 ex20
        refine lv_aload_n hx hb d_M_change_55 rfl (lv_at hl 1 rfl) ?_
        refine ro_geta hx hb hown hG hg cM hst 25 12 (by decide) rfl rfl k_1039 d_M_change_56 ?_
        refine lv_iload_n hx hb d_M_change_59 rfl (lv_at hl 0 rfl) ?_
        obtain ⟨hn21, hm⟩ := gd_u hm
        refine ro_iald hx hb hg hst 12 rfl hn21 d_M_change_60 ?_
        refine lv_topi (fun x22 ex22 => ?_)
        have hm := lt_u hm x22 ex22
        refine lv_icmp_gt (tgt := 66) hx hb d_M_change_61 (by decide) (fun h23 => ?_) (fun h23 => ?_)
        · have hm := it_t hm h23
          refine lv_aload_n hx hb d_M_change_66 rfl (lv_at hl 1 rfl) ?_
          refine lv_aload_n hx hb d_M_change_67 rfl (lv_at hl 1 rfl) ?_
          refine ro_geta hx hb hown hG hg cM hst 26 13 (by decide) rfl rfl k_1040 d_M_change_68 ?_
          refine lv_iload_n hx hb d_M_change_71 rfl (lv_at hl 0 rfl) ?_
          obtain ⟨hn24, hm⟩ := gd_u hm
          refine ro_iald hx hb hg hst 13 rfl hn24 d_M_change_72 ?_
          refine lv_topi (fun x25 ex25 => ?_)
          have hm := lt_u hm x25 ex25
          refine ro_puti hx hb hown hG hg cM hst 29 (by decide) rfl rfl rfl rfl rfl k_1043 d_M_change_73 (fun g26 H locs eg26 hst => ?_)
          have hm := lt_u hm g26 eg26
          refine lv_iconst (v := 0) hx hb d_M_change_76 (by decide) ?_
          refine lv_istore (lv' := [(4, .int 0), (3, .int x6), (0, .ref h), (1, .int v1), (2, .int x2)]) hx hb d_M_change_77 hl (by decide) rfl (fun ls hl => ?_)
          obtain ⟨qJ27, hm, hLJ27, hR28⟩ := jn_u hm
          have hJ27 : ∀ (a29 : aA), qJ27 = .inl a29 → ∀ (H : Heap) (locs : List Loc) (ls : Array Slot), lv_has ls 6 [(0, .ref h), (1, .int v1), (2, .int x2), (3, .int x6)] → St dC dI A s.heap H locs (oW 0 h ksM spM tk L g26 a29 rw) → W p l e (rmo 3 75) s m args below meth c H locs 0 0 (MQ below (QI dC dI A r0 (oW 0 h ksM spM tk L g0 a0 rw)) args s 0 0 A) (F0 m 113 ls []) := by
            intro a29 hq H locs ls hl hst
            have hm := hLJ27 _ hq
            refine lv_iconst (v := 1) hx hb d_M_change_113 (by decide) ?_
            refine lv_istore (lv' := [(4, .int 1), (0, .ref h), (1, .int v1), (2, .int x2), (3, .int x6)]) hx hb d_M_change_114 hl (by decide) rfl (fun ls hl => ?_)
            refine lv_iconst (v := 2) hx hb d_M_change_116 (by decide) ?_
            refine lv_istore (lv' := [(5, .int 2), (4, .int 1), (0, .ref h), (1, .int v1), (2, .int x2), (3, .int x6)]) hx hb d_M_change_117 hl (by decide) rfl (fun ls hl => ?_)
            obtain ⟨qJ31, hm, hLJ31, hR32⟩ := jn_u hm
            have hJ31 : ∀ (x33 : Int32) (g34 : aG) (a35 : aA), qJ31 = .inl (x33, g34, a35) → ∀ (H : Heap) (locs : List Loc) (ls : Array Slot), lv_has ls 6 [(0, .ref h), (1, .int v1), (2, .int x2), (3, .int x6), (4, .int x33)] → St dC dI A s.heap H locs (oW 0 h ksM spM tk L g34 a35 rw) → W p l e (rmo 3 75) s m args below meth c H locs 0 0 (MQ below (QI dC dI A r0 (oW 0 h ksM spM tk L g0 a0 rw)) args s 0 0 A) (F0 m 149 ls []) := by
              intro x33 g34 a35 hq H locs ls hl hst
              have hm := hLJ31 _ hq
              dsimp only at hm
              refine lv_iload hx hb d_M_change_149 (lv_at hl 4 rfl) ?_
              refine lv_if_ne (tgt := 156) hx hb d_M_change_151 (by decide) (fun h37 => ?_) (fun h37 => ?_)
              · have hm := it_f hm h37
                refine lv_aload_n hx hb d_M_change_156 rfl (lv_at hl 0 rfl) ?_
                refine ro_geta hx hb hown hG hg cM hst 25 12 (by decide) rfl rfl k_1039 d_M_change_157 ?_
                refine lv_iload_n hx hb d_M_change_160 rfl (lv_at hl 3 rfl) ?_
                refine lv_aload_n hx hb d_M_change_161 rfl (lv_at hl 0 rfl) ?_
                refine ro_geta hx hb hown hG hg cM hst 10 2 (by decide) rfl rfl k_1024 d_M_change_162 ?_
                refine lv_aload_n hx hb d_M_change_165 rfl (lv_at hl 0 rfl) ?_
                refine lv_iload_n hx hb d_M_change_166 rfl (lv_at hl 1 rfl) ?_
                refine lv_iconst (v := 1) hx hb d_M_change_167 (by decide) ?_
                obtain ⟨x39, hc40, hm⟩ := bd_u hm
                refine cl_vi hx hb hml hown hG hg (cM_item l dC dI tk A h L g34 a35 rw n v1 1 _ hc40) (cw_v 2 hG k_1251 k_1253 s_47 k_14 k_1254 (by decide +kernel) ⟨by decide, by decide⟩) hst rfl oW_0 rfl hl.1 rfl (Nat.le_of_ble_eq_true rfl) ⟨Nat.le_refl 0, Nat.le_refl 0⟩ d_M_change_168 (fun H locs hst => ?_)
                obtain ⟨hn41, hm⟩ := gd_u hm
                refine ro_iald hx hb hg hst 2 rfl hn41 d_M_change_171 ?_
                refine lv_topi (fun x42 ex42 => ?_)
                have hm := lt_u hm x42 ex42
                obtain ⟨hn43, hm⟩ := gd_u hm
                refine ro_iast hx hb hg hst 12 rfl hn43 d_M_change_172 (fun a44 H locs ea44 hst => ?_)
                have hm := lt_u hm a44 ea44
                refine lv_aload_n hx hb d_M_change_173 rfl (lv_at hl 0 rfl) ?_
                refine ro_geta hx hb hown hG hg cM hst 26 13 (by decide) rfl rfl k_1040 d_M_change_174 ?_
                refine lv_iload_n hx hb d_M_change_177 rfl (lv_at hl 3 rfl) ?_
                refine lv_aload_n hx hb d_M_change_178 rfl (lv_at hl 0 rfl) ?_
                refine ro_geti hx hb hown hG hg cM hst 29 (by decide) rfl rfl k_1043 d_M_change_179 ?_
                obtain ⟨hn45, hm⟩ := gd_u hm
                refine ro_iast hx hb hg hst 13 rfl hn45 d_M_change_182 (fun a46 H locs ea46 hst => ?_)
                have hm := lt_u hm a46 ea46
                refine lv_iconst (v := 0) hx hb d_M_change_183 (by decide) ?_
                refine lv_istore (lv' := [(5, .int 0), (0, .ref h), (1, .int v1), (2, .int x2), (3, .int x6), (4, .int x33)]) hx hb d_M_change_184 hl (by decide) rfl (fun ls hl => ?_)
                refine lp_u (fun q49 : Int32 × aA => ∀ (H : Heap) (locs : List Loc) (ls : Array Slot), lv_has ls 6 [(0, .ref h), (1, .int v1), (2, .int x2), (3, .int x6), (4, .int x33), (5, .int q49.1)] → St dC dI A s.heap H locs (oW 0 h ksM spM tk L g34 q49.2 rw) → W p l e (rmo 3 75) s m args below meth c H locs 0 0 (MQ below (QI dC dI A r0 (oW 0 h ksM spM tk L g0 a0 rw)) args s 0 0 A) (F0 m 186 ls [])) ?_ n (0, a46) hm _ _ _ (lv_sub hl [1, 2, 3, 4, 5, 0] rfl) hst
                rintro ⟨x47, a48⟩ r52 hm hJ500 hR51 H locs ls hl hst
                dsimp only at hm hl hst ⊢
                have hJ50 := fun y0 y1 (e : r52 = .inl (y0, y1)) => hJ500 (y0, y1) e
                dsimp only at hJ50
                refine lv_iload hx hb d_M_change_186 (lv_at hl 5 rfl) ?_
                refine lv_aload_n hx hb d_M_change_188 rfl (lv_at hl 0 rfl) ?_
                refine ro_geti hx hb hown hG hg cM hst 29 (by decide) rfl rfl k_1043 d_M_change_189 ?_
                refine lv_icmp_ge (tgt := 220) hx hb d_M_change_192 (by decide) (fun h53 => ?_) (fun h53 => ?_)
                · have hm := it_t hm h53
                  refine lv_iconst (v := 1) hx hb d_M_change_220 (by decide) ?_
                  have he := (hR51 _ (Option.some.inj hm).symm)
                  cases he
                  exact rt_i hx hb hr hlk (by decide) hst rfl d_M_change_221
                · have hm := it_f hm h53
                  refine lv_aload_n hx hb d_M_change_195 rfl (lv_at hl 0 rfl) ?_
                  refine ro_geta hx hb hown hG hg cM hst 27 14 (by decide) rfl rfl k_1041 d_M_change_196 ?_
                  refine lv_bipush (v := 60) hx hb d_M_change_199 (by decide) ?_
                  refine lv_iload_n hx hb d_M_change_201 rfl (lv_at hl 3 rfl) ?_
                  refine lv_imul hx hb d_M_change_202 ?_
                  refine lv_iload hx hb d_M_change_203 (lv_at hl 5 rfl) ?_
                  refine lv_iadd hx hb d_M_change_205 ?_
                  refine lv_aload_n hx hb d_M_change_206 rfl (lv_at hl 0 rfl) ?_
                  refine ro_geta hx hb hown hG hg cM hst 28 15 (by decide) rfl rfl k_1042 d_M_change_207 ?_
                  refine lv_iload hx hb d_M_change_210 (lv_at hl 5 rfl) ?_
                  obtain ⟨hn54, hm⟩ := gd_u hm
                  refine ro_iald hx hb hg hst 15 rfl hn54 d_M_change_212 ?_
                  refine lv_topi (fun x55 ex55 => ?_)
                  have hm := lt_u hm x55 ex55
                  obtain ⟨hn56, hm⟩ := gd_u hm
                  refine ro_iast hx hb hg hst 14 rfl hn56 d_M_change_213 (fun a57 H locs ea57 hst => ?_)
                  have hm := lt_u hm a57 ea57
                  refine lv_iinc (k := 5) (v := (x47 + 1)) (lv' := [(5, .int (x47 + 1)), (0, .ref h), (1, .int v1), (2, .int x2), (3, .int x6), (4, .int x33)]) hx hb d_M_change_214 hl rfl (by rfl) (by decide) rfl (fun ls hl => ?_)
                  refine lv_goto (tgt := 186) hx hb d_M_change_217 (by decide) ?_
                  exact hJ50 (x47 + 1) a57 (Option.some.inj hm).symm _ _ _ (lv_sub hl [1, 2, 3, 4, 5, 0] rfl) hst
              · have hm := it_t hm h37
                refine lv_iconst (v := 0) hx hb d_M_change_154 (by decide) ?_
                have he := (Option.some.inj hm)
                cases he
                exact rt_i hx hb hr hlk (by decide) hst rfl d_M_change_155
            refine lp_u (fun q62 : Int32 × Int32 × aG × aA => ∀ (H : Heap) (locs : List Loc) (ls : Array Slot), lv_has ls 6 [(0, .ref h), (1, .int v1), (2, .int x2), (3, .int x6), (4, .int q62.1), (5, .int q62.2.1)] → St dC dI A s.heap H locs (oW 0 h ksM spM tk L q62.2.2.1 q62.2.2.2 rw) → W p l e (rmo 3 75) s m args below meth c H locs 0 0 (MQ below (QI dC dI A r0 (oW 0 h ksM spM tk L g0 a0 rw)) args s 0 0 A) (F0 m 119 ls [])) ?_ n (1, 2, g26, a29) hm _ _ _ (lv_sub hl [2, 3, 4, 5, 1, 0] rfl) hst
            rintro ⟨x58, x59, g60, a61⟩ r65 hm hJ630 hR64 H locs ls hl hst
            dsimp only at hm hl hst ⊢
            have hJ63 := fun y0 y1 y2 y3 (e : r65 = .inl (y0, y1, y2, y3)) => hJ630 (y0, y1, y2, y3) e
            dsimp only at hJ63
            refine lv_iload hx hb d_M_change_119 (lv_at hl 5 rfl) ?_
            refine lv_iload_n hx hb d_M_change_121 rfl (lv_at hl 2 rfl) ?_
            refine lv_icmp_ge (tgt := 149) hx hb d_M_change_122 (by decide) (fun h66 => ?_) (fun h66 => ?_)
            · have hm := it_t hm h66
              exact hJ31 x58 g60 a61 (hR64 _ (Option.some.inj hm).symm).symm _ _ _ (lv_sub hl [0, 1, 2, 3, 4] rfl) hst
            · have hm := it_f hm h66
              refine lv_iload hx hb d_M_change_125 (lv_at hl 4 rfl) ?_
              refine lv_if_eq (tgt := 149) hx hb d_M_change_127 (by decide) (fun h67 => ?_) (fun h67 => ?_)
              · have hm := it_t hm h67
                exact hJ31 x58 g60 a61 (hR64 _ (Option.some.inj hm).symm).symm _ _ _ (lv_sub hl [0, 1, 2, 3, 4] rfl) hst
              · have hm := it_f hm h67
                refine lv_aload_n hx hb d_M_change_130 rfl (lv_at hl 0 rfl) ?_
                refine lv_aload_n hx hb d_M_change_131 rfl (lv_at hl 0 rfl) ?_
                refine lv_iload_n hx hb d_M_change_132 rfl (lv_at hl 1 rfl) ?_
                refine lv_iload hx hb d_M_change_133 (lv_at hl 5 rfl) ?_
                obtain ⟨x69, hc70, hm⟩ := bd_u hm
                refine cl_vi hx hb hml hown hG hg (cM_item l dC dI tk A h L g60 a61 rw n v1 x59 _ hc70) (cw_v 2 hG k_1251 k_1253 s_47 k_14 k_1254 (by decide +kernel) ⟨by decide, by decide⟩) hst rfl oW_0 rfl hl.1 rfl (Nat.le_of_ble_eq_true rfl) ⟨Nat.le_refl 0, Nat.le_refl 0⟩ d_M_change_135 (fun H locs hst => ?_)
                obtain ⟨⟨x72, g73, a74⟩, hc75, hm⟩ := bd_u hm
                dsimp only at hm
                refine cl_vi hx hb hml hown hG hg (cM_edit l dC dI tk A h L g60 a61 rw n x69 _ _ _ hc75) (cw_v 1 hG k_1276 k_1278 s_53 k_14 k_1279 (by decide +kernel) ⟨by decide, by decide⟩) hst rfl oW_0 rfl hl.1 rfl (Nat.le_of_ble_eq_true rfl) ⟨Nat.le_refl 0, Nat.le_refl 0⟩ d_M_change_138 (fun H locs hst => ?_)
                refine lv_istore (lv' := [(4, .int x72), (0, .ref h), (1, .int v1), (2, .int x2), (3, .int x6), (5, .int x59)]) hx hb d_M_change_141 hl (by decide) rfl (fun ls hl => ?_)
                refine lv_iinc (k := 5) (v := (x59 + 1)) (lv' := [(5, .int (x59 + 1)), (4, .int x72), (0, .ref h), (1, .int v1), (2, .int x2), (3, .int x6)]) hx hb d_M_change_143 hl rfl (by rfl) (by decide) rfl (fun ls hl => ?_)
                refine lv_goto (tgt := 119) hx hb d_M_change_146 (by decide) ?_
                exact hJ63 x72 (x59 + 1) g73 a74 (Option.some.inj hm).symm _ _ _ (lv_sub hl [2, 3, 4, 5, 1, 0] rfl) hst
          refine lp_u (fun q78 : Int32 × aA => ∀ (H : Heap) (locs : List Loc) (ls : Array Slot), lv_has ls 6 [(0, .ref h), (1, .int v1), (2, .int x2), (3, .int x6), (4, .int q78.1)] → St dC dI A s.heap H locs (oW 0 h ksM spM tk L g26 q78.2 rw) → W p l e (rmo 3 75) s m args below meth c H locs 0 0 (MQ below (QI dC dI A r0 (oW 0 h ksM spM tk L g0 a0 rw)) args s 0 0 A) (F0 m 79 ls [])) ?_ n (0, a) hm _ _ _ (lv_sub hl [2, 3, 4, 1, 0] rfl) hst
          rintro ⟨x76, a77⟩ r81 hm hJ790 hR80 H locs ls hl hst
          dsimp only at hm hl hst ⊢
          have hJ79 := fun y0 y1 (e : r81 = .inl (y0, y1)) => hJ790 (y0, y1) e
          dsimp only at hJ79
          refine lv_iload hx hb d_M_change_79 (lv_at hl 4 rfl) ?_
          refine lv_aload_n hx hb d_M_change_81 rfl (lv_at hl 0 rfl) ?_
          refine ro_geti hx hb hown hG hg cM hst 29 (by decide) rfl rfl k_1043 d_M_change_82 ?_
          refine lv_icmp_ge (tgt := 113) hx hb d_M_change_85 (by decide) (fun h82 => ?_) (fun h82 => ?_)
          · have hm := it_t hm h82
            exact hJ27 a77 (hR80 _ (Option.some.inj hm).symm).symm _ _ _ (lv_sub hl [0, 1, 2, 3] rfl) hst
          · have hm := it_f hm h82
            refine lv_aload_n hx hb d_M_change_88 rfl (lv_at hl 0 rfl) ?_
            refine ro_geta hx hb hown hG hg cM hst 28 15 (by decide) rfl rfl k_1042 d_M_change_89 ?_
            refine lv_iload hx hb d_M_change_92 (lv_at hl 4 rfl) ?_
            refine lv_aload_n hx hb d_M_change_94 rfl (lv_at hl 0 rfl) ?_
            refine ro_geta hx hb hown hG hg cM hst 27 14 (by decide) rfl rfl k_1041 d_M_change_95 ?_
            refine lv_bipush (v := 60) hx hb d_M_change_98 (by decide) ?_
            refine lv_iload_n hx hb d_M_change_100 rfl (lv_at hl 3 rfl) ?_
            refine lv_imul hx hb d_M_change_101 ?_
            refine lv_iload hx hb d_M_change_102 (lv_at hl 4 rfl) ?_
            refine lv_iadd hx hb d_M_change_104 ?_
            obtain ⟨hn83, hm⟩ := gd_u hm
            refine ro_iald hx hb hg hst 14 rfl hn83 d_M_change_105 ?_
            refine lv_topi (fun x84 ex84 => ?_)
            have hm := lt_u hm x84 ex84
            obtain ⟨hn85, hm⟩ := gd_u hm
            refine ro_iast hx hb hg hst 15 rfl hn85 d_M_change_106 (fun a86 H locs ea86 hst => ?_)
            have hm := lt_u hm a86 ea86
            refine lv_iinc (k := 4) (v := (x76 + 1)) (lv' := [(4, .int (x76 + 1)), (0, .ref h), (1, .int v1), (2, .int x2), (3, .int x6)]) hx hb d_M_change_107 hl rfl (by rfl) (by decide) rfl (fun ls hl => ?_)
            refine lv_goto (tgt := 79) hx hb d_M_change_110 (by decide) ?_
            exact hJ79 (x76 + 1) a86 (Option.some.inj hm).symm _ _ _ (lv_sub hl [1, 2, 3, 4, 0] rfl) hst
        · have hm := it_f hm h23
          refine lv_iconst (v := 0) hx hb d_M_change_64 (by decide) ?_
          have he := (Option.some.inj hm)
          cases he
          exact rt_i hx hb hr hlk (by decide) hst rfl d_M_change_65
  refine lv_icmp_ge (tgt := 15) hx hb d_M_change_8 (by decide) (fun h87 => ?_) (fun h87 => ?_)
  · have hm := it_t hm h87
    refine lv_aload_n hx hb d_M_change_15 rfl (lv_at hl 1 rfl) ?_
    refine lv_aload_n hx hb d_M_change_16 rfl (lv_at hl 1 rfl) ?_
    refine lv_iload_n hx hb d_M_change_17 rfl (lv_at hl 2 rfl) ?_
    refine lv_iconst (v := 0) hx hb d_M_change_18 (by decide) ?_
    obtain ⟨x89, hc90, hm⟩ := bd_u hm
    refine cl_vi hx hb hml hown hG hg (cM_item l dC dI tk A h L g a rw n v1 0 _ hc90) (cw_v 2 hG k_1251 k_1253 s_47 k_14 k_1254 (by decide +kernel) ⟨by decide, by decide⟩) hst rfl oW_0 rfl hl.1 rfl (Nat.le_of_ble_eq_true rfl) ⟨Nat.le_refl 0, Nat.le_refl 0⟩ d_M_change_19 (fun H locs hst => ?_)
    obtain ⟨x92, hc93, hm⟩ := bd_u hm
    refine cl_vi hx hb hml hown hG hg (cM_documentOf l dC dI tk A h L g a rw n x89 _ hc93) (cw_v 1 hG k_1255 k_1257 s_48 k_14 k_1258 (by decide +kernel) ⟨by decide, by decide⟩) hst rfl oW_0 rfl hl.1 rfl (Nat.le_of_ble_eq_true rfl) ⟨Nat.le_refl 0, Nat.le_refl 0⟩ d_M_change_22 (fun H locs hst => ?_)
    exact hJ4 x92 (Option.some.inj hm).symm _ _ _ (lv_sub hl [1, 2, 0] rfl) hst
  · have hm := it_f hm h87
    refine lv_iconst (v := (-1)) hx hb d_M_change_11 (by decide) ?_
    refine lv_goto (tgt := 25) hx hb d_M_change_12 (by decide) ?_
    exact hJ4 (-1) (Option.some.inj hm).symm _ _ _ (lv_sub hl [1, 2, 0] rfl) hst
