theorem d_Q_addRow_0 : decode prog_6_method_3_code 0 = .ok (.aload_n 0, 1) := by decide +kernel
theorem d_Q_addRow_1 : decode prog_6_method_3_code 1 = .ok (.dup, 1) := by decide +kernel
theorem d_Q_addRow_2 : decode prog_6_method_3_code 2 = .ok (.getfield 18, 3) := by decide +kernel
theorem d_Q_addRow_5 : decode prog_6_method_3_code 5 = .ok (.iconst 1, 1) := by decide +kernel
theorem d_Q_addRow_6 : decode prog_6_method_3_code 6 = .ok (.iadd, 1) := by decide +kernel
theorem d_Q_addRow_7 : decode prog_6_method_3_code 7 = .ok (.putfield 18, 3) := by decide +kernel
theorem d_Q_addRow_10 : decode prog_6_method_3_code 10 = .ok (.aload_n 0, 1) := by decide +kernel
theorem d_Q_addRow_11 : decode prog_6_method_3_code 11 = .ok (.getfield 13, 3) := by decide +kernel
theorem d_Q_addRow_14 : decode prog_6_method_3_code 14 = .ok (.aload_n 0, 1) := by decide +kernel
theorem d_Q_addRow_15 : decode prog_6_method_3_code 15 = .ok (.getfield 18, 3) := by decide +kernel
theorem d_Q_addRow_18 : decode prog_6_method_3_code 18 = .ok (.iconst 1, 1) := by decide +kernel
theorem d_Q_addRow_19 : decode prog_6_method_3_code 19 = .ok (.isub, 1) := by decide +kernel
theorem d_Q_addRow_20 : decode prog_6_method_3_code 20 = .ok (.aaload, 1) := by decide +kernel
theorem d_Q_addRow_21 : decode prog_6_method_3_code 21 = .ok (.areturn, 1) := by decide +kernel
theorem d_Q_takeOut_0 : decode prog_6_method_5_code 0 = .ok (.aload_n 0, 1) := by decide +kernel
theorem d_Q_takeOut_1 : decode prog_6_method_5_code 1 = .ok (.getfield 13, 3) := by decide +kernel
theorem d_Q_takeOut_4 : decode prog_6_method_5_code 4 = .ok (.iload_n 1, 1) := by decide +kernel
theorem d_Q_takeOut_5 : decode prog_6_method_5_code 5 = .ok (.aaload, 1) := by decide +kernel
theorem d_Q_takeOut_6 : decode prog_6_method_5_code 6 = .ok (.astore_n 2, 1) := by decide +kernel
theorem d_Q_takeOut_7 : decode prog_6_method_5_code 7 = .ok (.aload_n 0, 1) := by decide +kernel
theorem d_Q_takeOut_8 : decode prog_6_method_5_code 8 = .ok (.dup, 1) := by decide +kernel
theorem d_Q_takeOut_9 : decode prog_6_method_5_code 9 = .ok (.getfield 18, 3) := by decide +kernel
theorem d_Q_takeOut_12 : decode prog_6_method_5_code 12 = .ok (.iconst 1, 1) := by decide +kernel
theorem d_Q_takeOut_13 : decode prog_6_method_5_code 13 = .ok (.isub, 1) := by decide +kernel
theorem d_Q_takeOut_14 : decode prog_6_method_5_code 14 = .ok (.putfield 18, 3) := by decide +kernel
theorem d_Q_takeOut_17 : decode prog_6_method_5_code 17 = .ok (.iload_n 1, 1) := by decide +kernel
theorem d_Q_takeOut_18 : decode prog_6_method_5_code 18 = .ok (.istore_n 3, 1) := by decide +kernel
theorem d_Q_takeOut_19 : decode prog_6_method_5_code 19 = .ok (.iload_n 3, 1) := by decide +kernel
theorem d_Q_takeOut_20 : decode prog_6_method_5_code 20 = .ok (.aload_n 0, 1) := by decide +kernel
theorem d_Q_takeOut_21 : decode prog_6_method_5_code 21 = .ok (.getfield 18, 3) := by decide +kernel
theorem d_Q_takeOut_24 : decode prog_6_method_5_code 24 = .ok (.if_icmp .ge 23, 3) := by decide +kernel
theorem d_Q_takeOut_27 : decode prog_6_method_5_code 27 = .ok (.aload_n 0, 1) := by decide +kernel
theorem d_Q_takeOut_28 : decode prog_6_method_5_code 28 = .ok (.getfield 13, 3) := by decide +kernel
theorem d_Q_takeOut_31 : decode prog_6_method_5_code 31 = .ok (.iload_n 3, 1) := by decide +kernel
theorem d_Q_takeOut_32 : decode prog_6_method_5_code 32 = .ok (.aload_n 0, 1) := by decide +kernel
theorem d_Q_takeOut_33 : decode prog_6_method_5_code 33 = .ok (.getfield 13, 3) := by decide +kernel
theorem d_Q_takeOut_36 : decode prog_6_method_5_code 36 = .ok (.iload_n 3, 1) := by decide +kernel
theorem d_Q_takeOut_37 : decode prog_6_method_5_code 37 = .ok (.iconst 1, 1) := by decide +kernel
theorem d_Q_takeOut_38 : decode prog_6_method_5_code 38 = .ok (.iadd, 1) := by decide +kernel
theorem d_Q_takeOut_39 : decode prog_6_method_5_code 39 = .ok (.aaload, 1) := by decide +kernel
theorem d_Q_takeOut_40 : decode prog_6_method_5_code 40 = .ok (.aastore, 1) := by decide +kernel
theorem d_Q_takeOut_41 : decode prog_6_method_5_code 41 = .ok (.iinc 3 1, 3) := by decide +kernel
theorem d_Q_takeOut_44 : decode prog_6_method_5_code 44 = .ok (.goto (-25), 3) := by decide +kernel
theorem d_Q_takeOut_47 : decode prog_6_method_5_code 47 = .ok (.aload_n 0, 1) := by decide +kernel
theorem d_Q_takeOut_48 : decode prog_6_method_5_code 48 = .ok (.getfield 13, 3) := by decide +kernel
theorem d_Q_takeOut_51 : decode prog_6_method_5_code 51 = .ok (.aload_n 0, 1) := by decide +kernel
theorem d_Q_takeOut_52 : decode prog_6_method_5_code 52 = .ok (.getfield 18, 3) := by decide +kernel
theorem d_Q_takeOut_55 : decode prog_6_method_5_code 55 = .ok (.aload_n 2, 1) := by decide +kernel
theorem d_Q_takeOut_56 : decode prog_6_method_5_code 56 = .ok (.aastore, 1) := by decide +kernel
theorem d_Q_takeOut_57 : decode prog_6_method_5_code 57 = .ok (.aload_n 2, 1) := by decide +kernel
theorem d_Q_takeOut_58 : decode prog_6_method_5_code 58 = .ok (.areturn, 1) := by decide +kernel
theorem d_S_close_0 : decode prog_7_method_4_code 0 = .ok (.aload_n 1, 1) := by decide +kernel
theorem d_S_close_1 : decode prog_7_method_4_code 1 = .ok (.iload_n 2, 1) := by decide +kernel
theorem d_S_close_2 : decode prog_7_method_4_code 2 = .ok (.ldc 52, 2) := by decide +kernel
theorem d_S_close_4 : decode prog_7_method_4_code 4 = .ok (.invokevirtual 35, 3) := by decide +kernel
theorem d_S_close_7 : decode prog_7_method_4_code 7 = .ok (.ifCond .eq 17, 3) := by decide +kernel
theorem d_S_close_10 : decode prog_7_method_4_code 10 = .ok (.aload_n 0, 1) := by decide +kernel
theorem d_S_close_11 : decode prog_7_method_4_code 11 = .ok (.aload_n 1, 1) := by decide +kernel
theorem d_S_close_12 : decode prog_7_method_4_code 12 = .ok (.aload_n 1, 1) := by decide +kernel
theorem d_S_close_13 : decode prog_7_method_4_code 13 = .ok (.iload_n 2, 1) := by decide +kernel
theorem d_S_close_14 : decode prog_7_method_4_code 14 = .ok (.iconst 0, 1) := by decide +kernel
theorem d_S_close_15 : decode prog_7_method_4_code 15 = .ok (.invokevirtual 41, 3) := by decide +kernel
theorem d_S_close_18 : decode prog_7_method_4_code 18 = .ok (.invokevirtual 45, 3) := by decide +kernel
theorem d_S_close_21 : decode prog_7_method_4_code 21 = .ok (.goto 4, 3) := by decide +kernel
theorem d_S_close_24 : decode prog_7_method_4_code 24 = .ok (.iconst (-1), 1) := by decide +kernel
theorem d_S_close_25 : decode prog_7_method_4_code 25 = .ok (.istore_n 3, 1) := by decide +kernel
theorem d_S_close_26 : decode prog_7_method_4_code 26 = .ok (.iload_n 3, 1) := by decide +kernel
theorem d_S_close_27 : decode prog_7_method_4_code 27 = .ok (.iconst (-1), 1) := by decide +kernel
theorem d_S_close_28 : decode prog_7_method_4_code 28 = .ok (.if_icmp .ne 5, 3) := by decide +kernel
theorem d_S_close_31 : decode prog_7_method_4_code 31 = .ok (.iconst 0, 1) := by decide +kernel
theorem d_S_close_32 : decode prog_7_method_4_code 32 = .ok (.ireturn, 1) := by decide +kernel
theorem d_S_close_33 : decode prog_7_method_4_code 33 = .ok (.aload_n 0, 1) := by decide +kernel
theorem d_S_close_34 : decode prog_7_method_4_code 34 = .ok (.getfield 13, 3) := by decide +kernel
theorem d_S_close_37 : decode prog_7_method_4_code 37 = .ok (.iload_n 3, 1) := by decide +kernel
theorem d_S_close_38 : decode prog_7_method_4_code 38 = .ok (.aaload, 1) := by decide +kernel
theorem d_S_close_39 : decode prog_7_method_4_code 39 = .ok (.astore 4, 2) := by decide +kernel
theorem d_S_close_41 : decode prog_7_method_4_code 41 = .ok (.aload_n 0, 1) := by decide +kernel
theorem d_S_close_42 : decode prog_7_method_4_code 42 = .ok (.dup, 1) := by decide +kernel
theorem d_S_close_43 : decode prog_7_method_4_code 43 = .ok (.getfield 25, 3) := by decide +kernel
theorem d_S_close_46 : decode prog_7_method_4_code 46 = .ok (.iconst 1, 1) := by decide +kernel
theorem d_S_close_47 : decode prog_7_method_4_code 47 = .ok (.isub, 1) := by decide +kernel
theorem d_S_close_48 : decode prog_7_method_4_code 48 = .ok (.putfield 25, 3) := by decide +kernel
theorem d_S_close_51 : decode prog_7_method_4_code 51 = .ok (.iload_n 3, 1) := by decide +kernel
theorem d_S_close_52 : decode prog_7_method_4_code 52 = .ok (.istore 5, 2) := by decide +kernel
theorem d_S_close_54 : decode prog_7_method_4_code 54 = .ok (.iload 5, 2) := by decide +kernel
theorem d_S_close_56 : decode prog_7_method_4_code 56 = .ok (.aload_n 0, 1) := by decide +kernel
theorem d_S_close_57 : decode prog_7_method_4_code 57 = .ok (.getfield 25, 3) := by decide +kernel
theorem d_S_close_60 : decode prog_7_method_4_code 60 = .ok (.if_icmp .ge 25, 3) := by decide +kernel
theorem d_S_close_63 : decode prog_7_method_4_code 63 = .ok (.aload_n 0, 1) := by decide +kernel
theorem d_S_close_64 : decode prog_7_method_4_code 64 = .ok (.getfield 13, 3) := by decide +kernel
theorem d_S_close_67 : decode prog_7_method_4_code 67 = .ok (.iload 5, 2) := by decide +kernel
theorem d_S_close_69 : decode prog_7_method_4_code 69 = .ok (.aload_n 0, 1) := by decide +kernel
theorem d_S_close_70 : decode prog_7_method_4_code 70 = .ok (.getfield 13, 3) := by decide +kernel
theorem d_S_close_73 : decode prog_7_method_4_code 73 = .ok (.iload 5, 2) := by decide +kernel
theorem d_S_close_75 : decode prog_7_method_4_code 75 = .ok (.iconst 1, 1) := by decide +kernel
theorem d_S_close_76 : decode prog_7_method_4_code 76 = .ok (.iadd, 1) := by decide +kernel
theorem d_S_close_77 : decode prog_7_method_4_code 77 = .ok (.aaload, 1) := by decide +kernel
theorem d_S_close_78 : decode prog_7_method_4_code 78 = .ok (.aastore, 1) := by decide +kernel
theorem d_S_close_79 : decode prog_7_method_4_code 79 = .ok (.iinc 5 1, 3) := by decide +kernel
theorem d_S_close_82 : decode prog_7_method_4_code 82 = .ok (.goto (-28), 3) := by decide +kernel
theorem d_S_close_85 : decode prog_7_method_4_code 85 = .ok (.aload_n 0, 1) := by decide +kernel
theorem d_S_close_86 : decode prog_7_method_4_code 86 = .ok (.getfield 13, 3) := by decide +kernel
theorem d_S_close_89 : decode prog_7_method_4_code 89 = .ok (.aload_n 0, 1) := by decide +kernel
theorem d_S_close_90 : decode prog_7_method_4_code 90 = .ok (.getfield 25, 3) := by decide +kernel
theorem d_S_close_93 : decode prog_7_method_4_code 93 = .ok (.aload 4, 2) := by decide +kernel
theorem d_S_close_95 : decode prog_7_method_4_code 95 = .ok (.aastore, 1) := by decide +kernel
theorem d_S_close_96 : decode prog_7_method_4_code 96 = .ok (.iconst 1, 1) := by decide +kernel
theorem d_S_close_97 : decode prog_7_method_4_code 97 = .ok (.ireturn, 1) := by decide +kernel
/-- Queue.addRow: the row behind the last; its slot is the old count -/
def mQ_addRow (gQ : aG) : Option (Nat × aG) := lt (va_up gQ 1 ((gQ 1) + 1)) (fun g => gd (inb ((g 1) - 1) 8) (some (((g 1) - 1).toNatClampNeg, g)))
set_option maxHeartbeats 4000000 in
theorem cQ_addRow (l : Launch) (dC : Nat → ClassId) (dI : Nat → Nat → Nat) (tk : Nat → ClassId) (A : Nat → Prop) (hQ : Nat) (LQ : Nat → Nat) (gQ : aG) (aQ : aA) (dO : aP) (rw : va_W) (r0 : Nat) (ogQ : aG) (hm : mQ_addRow gQ = some (r0, ogQ)) : CtR l dC dI tk A ⟨"EditorServer$Queue", "addRow", "()LEditorServer$Asked;"⟩ prog_6_method_3_code 1 (some (.object "EditorServer$Asked")) 0 0 [.ref hQ] (oW 7 hQ ksQ spQ tk LQ gQ aQ (rA 5 (LQ 0) 8 tk (fun i => some (dO i).1.1) (pW 8 ksK spK 0 tk dO 8 rw))) (dO r0).1.1 (oW 7 hQ ksQ spQ tk LQ ogQ aQ (rA 5 (LQ 0) 8 tk (fun i => some (dO i).1.1) (pW 8 ksK spK 0 tk dO 8 rw))) := by
  refine ent (by decide) (Nat.le_of_ble_eq_true rfl) ?_
  intro p e s m args below meth c hx hb hr hml hown hlk hG hg hst ls hl
  unfold mQ_addRow at hm
  have hl : lv_has ls 1 [(0, .ref hQ)] := hl
  refine lv_aload_n hx hb d_Q_addRow_0 rfl (lv_at hl 0 rfl) ?_
  refine lv_dup hx hb d_Q_addRow_1 rfl ?_
  refine ro_geti hx hb hown hG hg cQ hst 1 (by decide) rfl rfl k_214 d_Q_addRow_2 ?_
  refine lv_iconst (v := 1) hx hb d_Q_addRow_5 (by decide) ?_
  refine lv_iadd hx hb d_Q_addRow_6 ?_
  refine ro_puti hx hb hown hG hg cQ hst 1 (by decide) rfl rfl rfl rfl rfl k_214 d_Q_addRow_7 (fun g1 H locs eg1 hst => ?_)
  have hm := lt_u hm g1 eg1
  obtain ⟨hn, hm⟩ := gd_u hm
  refine lv_aload_n hx hb d_Q_addRow_10 rfl (lv_at hl 0 rfl) ?_
  refine ro_geta hx hb hown hG hg cQ hst 0 0 (by decide) rfl rfl k_212 d_Q_addRow_11 ?_
  refine lv_aload_n hx hb d_Q_addRow_14 rfl (lv_at hl 0 rfl) ?_
  refine ro_geti hx hb hown hG hg cQ hst 1 (by decide) rfl rfl k_214 d_Q_addRow_15 ?_
  refine lv_iconst (v := 1) hx hb d_Q_addRow_18 (by decide) ?_
  refine lv_isub hx hb d_Q_addRow_19 ?_
  have hst : St dC dI A s.heap H locs (rA 5 (LQ 0) 8 tk (fun i => some (dO i).1.1) (oW 7 hQ ksQ spQ tk LQ g1 aQ (pW 8 ksK spK 0 tk dO 8 rw))) := gr1 (a := (oX 7 hQ ksQ spQ tk LQ g1 aQ)) (b := (rX 5 (LQ 0) 8 tk (fun i => some (dO i).1.1))) (r := (pW 8 ksK spK 0 tk dO 8 rw)) hst
  refine ro_aald (a := (dO ((g1 1) - 1).toNatClampNeg).1.1) hx hb hg hst rfl hn rfl d_Q_addRow_20 ?_
  have hst9 : St dC dI A s.heap H locs (oW 7 hQ ksQ spQ tk LQ g1 aQ (rA 5 (LQ 0) 8 tk (fun i => some (dO i).1.1) (pW 8 ksK spK 0 tk dO 8 rw))) := gr1 (a := (rX 5 (LQ 0) 8 tk (fun i => some (dO i).1.1))) (b := (oX 7 hQ ksQ spQ tk LQ g1 aQ)) (r := (pW 8 ksK spK 0 tk dO 8 rw)) hst
  have he := Option.some.inj hm
  cases he
  exact rt_r hx hb hr hlk hst9 rfl d_Q_addRow_21
/-- rows i .. c move down by one, and the row of slot i comes to slot c -/
def mRot (n N : Nat) (c i : Int32) (dS : aP) : Option aP := lp (ε := Int32 × aP) (fun q => if c ≤ q.1 then gd (decide (q.1 = c)) (some (.inr q.2)) else gd (inb (q.1 + 1) N) (gd (inb q.1 N) (some (.inl (q.1 + 1, swp q.2 q.1.toNatClampNeg (q.1 + 1).toNatClampNeg))))) n (i, dS)
/-- Queue.takeOut: the row of slot k comes behind the others; the slot where it lies then -/
def mQ_takeOut (n : Nat) (v1 : Int32) (gQ : aG) (dO : aP) : Option (Nat × aG × aP) := gd (inb v1 8) (lt (va_up gQ 1 ((gQ 1) - 1)) (fun g => bd (mRot n 8 (g 1) v1 dO) (fun d => gd (inb (g 1) 8) (some ((g 1).toNatClampNeg, g, d)))))
theorem rot_hole {f : Nat → Option Nat} {dS : aP} {a b : Nat} (hab : a ≠ b) (h : ∀ j, j ≠ a → f j = some (dS j).1.1) : ∀ j, j ≠ b → va_up f a (some (dS b).1.1) j = some (swp dS a b j).1.1 := by
  intro j hj
  by_cases e : j = a
  · subst e
    rw [va_up_self, swp_a hab]
  · rw [va_up_ne _ _ e, swp_o e hj, h j e]
theorem rot_full {f : Nat → Option Nat} {dS : aP} {a : Nat} (h : ∀ j, j ≠ a → f j = some (dS j).1.1) : va_up f a (some (dS a).1.1) = fun j => some (dS j).1.1 := by
  funext j
  by_cases e : j = a
  · subst e
    rw [va_up_self]
  · rw [va_up_ne _ _ e, h j e]
set_option maxHeartbeats 4000000 in
theorem cQ_takeOut (l : Launch) (dC : Nat → ClassId) (dI : Nat → Nat → Nat) (tk : Nat → ClassId) (A : Nat → Prop) (hQ : Nat) (LQ : Nat → Nat) (gQ : aG) (aQ : aA) (dO : aP) (rw : va_W) (n : Nat) (v1 : Int32) (r0 : Nat) (ogQ : aG) (odO : aP) (hm : mQ_takeOut n v1 gQ dO = some (r0, ogQ, odO)) : CtR l dC dI tk A ⟨"EditorServer$Queue", "takeOut", "(I)LEditorServer$Asked;"⟩ prog_6_method_5_code 4 (some (.object "EditorServer$Asked")) 0 0 [.ref hQ, .int v1] (oW 7 hQ ksQ spQ tk LQ gQ aQ (rA 5 (LQ 0) 8 tk (fun i => some (dO i).1.1) (pW 8 ksK spK 0 tk dO 8 rw))) (odO r0).1.1 (oW 7 hQ ksQ spQ tk LQ ogQ aQ (rA 5 (LQ 0) 8 tk (fun i => some (odO i).1.1) (pW 8 ksK spK 0 tk odO 8 rw))) := by
  refine ent (by decide) (Nat.le_of_ble_eq_true rfl) ?_
  intro p e s m args below meth c hx hb hr hml hown hlk hG hg hst ls hl
  unfold mQ_takeOut at hm
  have hl : lv_has ls 4 [(0, .ref hQ), (1, .int v1)] := hl
  obtain ⟨hn0, hm⟩ := gd_u hm
  obtain ⟨H, hH⟩ : ∃ H, H = s.heap := ⟨_, rfl⟩
  obtain ⟨locs, hlc⟩ : ∃ locs : List Loc, locs = [] := ⟨_, rfl⟩
  have hst : St dC dI A s.heap H locs (oW 7 hQ ksQ spQ tk LQ gQ aQ (rA 5 (LQ 0) 8 tk (fun i => some (dO i).1.1) (pW 8 ksK spK 0 tk dO 8 rw))) := by rw [hH, hlc]; exact hst
  suffices hw : W p l e (rmo 0 0) s m args below meth c H locs 0 0 (MQ below (QR dC dI A (odO r0).1.1 (oW 7 hQ ksQ spQ tk LQ ogQ aQ (rA 5 (LQ 0) 8 tk (fun i => some (odO i).1.1) (pW 8 ksK spK 0 tk odO 8 rw)))) args s 0 0 A) (F0 m 0 ls []) by rw [hH, hlc] at hw; exact hw
  refine lv_aload_n hx hb d_Q_takeOut_0 rfl (lv_at hl 0 rfl) ?_
  refine ro_geta hx hb hown hG hg cQ hst 0 0 (by decide) rfl rfl k_212 d_Q_takeOut_1 ?_
  refine lv_iload_n hx hb d_Q_takeOut_4 rfl (lv_at hl 1 rfl) ?_
  have hst : St dC dI A s.heap H locs (rA 5 (LQ 0) 8 tk (fun i => some (dO i).1.1) (oW 7 hQ ksQ spQ tk LQ gQ aQ (pW 8 ksK spK 0 tk dO 8 rw))) := gr1 (a := (oX 7 hQ ksQ spQ tk LQ gQ aQ)) (b := (rX 5 (LQ 0) 8 tk (fun i => some (dO i).1.1))) (r := (pW 8 ksK spK 0 tk dO 8 rw)) hst
  refine ro_aald (a := (dO v1.toNatClampNeg).1.1) hx hb hg hst rfl hn0 rfl d_Q_takeOut_5 ?_
  have hst : St dC dI A s.heap H locs (oW 7 hQ ksQ spQ tk LQ gQ aQ (rA 5 (LQ 0) 8 tk (fun i => some (dO i).1.1) (pW 8 ksK spK 0 tk dO 8 rw))) := gr1 (a := (rX 5 (LQ 0) 8 tk (fun i => some (dO i).1.1))) (b := (oX 7 hQ ksQ spQ tk LQ gQ aQ)) (r := (pW 8 ksK spK 0 tk dO 8 rw)) hst
  refine lv_astore_n (lv' := [(2, .ref (dO v1.toNatClampNeg).1.1), (0, .ref hQ), (1, .int v1)]) hx hb d_Q_takeOut_6 rfl hl (by decide) rfl (fun ls hl => ?_)
  refine lv_aload_n hx hb d_Q_takeOut_7 rfl (lv_at hl 1 rfl) ?_
  refine lv_dup hx hb d_Q_takeOut_8 rfl ?_
  refine ro_geti hx hb hown hG hg cQ hst 1 (by decide) rfl rfl k_214 d_Q_takeOut_9 ?_
  refine lv_iconst (v := 1) hx hb d_Q_takeOut_12 (by decide) ?_
  refine lv_isub hx hb d_Q_takeOut_13 ?_
  refine ro_puti hx hb hown hG hg cQ hst 1 (by decide) rfl rfl rfl rfl rfl k_214 d_Q_takeOut_14 (fun g1 H locs eg1 hst => ?_)
  have hm := lt_u hm g1 eg1
  obtain ⟨d9, hrot, hm⟩ := bd_u hm
  obtain ⟨hn9, hm⟩ := gd_u hm
  refine lv_iload_n hx hb d_Q_takeOut_17 rfl (lv_at hl 2 rfl) ?_
  refine lv_istore_n (lv' := [(3, .int v1), (2, .ref (dO v1.toNatClampNeg).1.1), (0, .ref hQ), (1, .int v1)]) hx hb d_Q_takeOut_18 rfl hl (by decide) rfl (fun ls hl => ?_)
  unfold mRot at hrot
  refine lp_u (fun q : Int32 × aP => ∀ (H : Heap) (locs : List Loc) (ls : Array Slot) (f : Nat → Option Nat), lv_has ls 4 [(0, .ref hQ), (2, .ref (dO v1.toNatClampNeg).1.1), (3, .int q.1)] → (∀ j, j ≠ q.1.toNatClampNeg → f j = some (q.2 j).1.1) → (q.2 q.1.toNatClampNeg).1.1 = (dO v1.toNatClampNeg).1.1 → St dC dI A s.heap H locs (oW 7 hQ ksQ spQ tk LQ g1 aQ (rA 5 (LQ 0) 8 tk f (pW 8 ksK spK 0 tk q.2 8 rw))) → W p l e (rmo 0 0) s m args below meth c H locs 0 0 (MQ below (QR dC dI A (odO r0).1.1 (oW 7 hQ ksQ spQ tk LQ ogQ aQ (rA 5 (LQ 0) 8 tk (fun i => some (odO i).1.1) (pW 8 ksK spK 0 tk odO 8 rw)))) args s 0 0 A) (F0 m 19 ls [])) ?_ n (v1, dO) hrot _ _ _ (fun i => some (dO i).1.1) (lv_sub hl [2, 1, 0] rfl) (fun _ _ => rfl) rfl hst
  rintro ⟨i, d1⟩ r hr1 hJ0 hR H locs ls f hl hf hcl hst
  dsimp only at hr1 hl hf hcl hst ⊢
  refine lv_iload_n hx hb d_Q_takeOut_19 rfl (lv_at hl 2 rfl) ?_
  refine lv_aload_n hx hb d_Q_takeOut_20 rfl (lv_at hl 0 rfl) ?_
  refine ro_geti hx hb hown hG hg cQ hst 1 (by decide) rfl rfl k_214 d_Q_takeOut_21 ?_
  refine lv_icmp_ge (tgt := 47) hx hb d_Q_takeOut_24 (by decide) (fun h1 => ?_) (fun h1 => ?_)
  · have hr1 := it_t hr1 h1
    obtain ⟨hic, hr1⟩ := gd_u hr1
    have hic : i = g1 1 := of_decide_eq_true hic
    have hd1 : d1 = d9 := hR _ (Option.some.inj hr1).symm
    subst hd1
    refine lv_aload_n hx hb d_Q_takeOut_47 rfl (lv_at hl 0 rfl) ?_
    refine ro_geta hx hb hown hG hg cQ hst 0 0 (by decide) rfl rfl k_212 d_Q_takeOut_48 ?_
    refine lv_aload_n hx hb d_Q_takeOut_51 rfl (lv_at hl 0 rfl) ?_
    refine ro_geti hx hb hown hG hg cQ hst 1 (by decide) rfl rfl k_214 d_Q_takeOut_52 ?_
    refine lv_aload_n hx hb d_Q_takeOut_55 rfl (lv_at hl 1 rfl) ?_
    have hst : St dC dI A s.heap H locs (rA 5 (LQ 0) 8 tk f (oW 7 hQ ksQ spQ tk LQ g1 aQ (pW 8 ksK spK 0 tk d1 8 rw))) := gr1 (a := (oX 7 hQ ksQ spQ tk LQ g1 aQ)) (b := (rX 5 (LQ 0) 8 tk f)) (r := (pW 8 ksK spK 0 tk d1 8 rw)) hst
    rw [← hcl, hic]
    refine ro_aast (C := RK) hx hb hg hst rfl cK.1 (oW_m (p_mem (inb_lt hn9))) hn9 d_Q_takeOut_56 (fun f1 H locs ef1 hst => ?_)
    rw [hic] at hf
    rw [rot_full hf] at ef1
    subst ef1
    have hst9 : St dC dI A s.heap H locs (oW 7 hQ ksQ spQ tk LQ g1 aQ (rA 5 (LQ 0) 8 tk (fun i => some (d1 i).1.1) (pW 8 ksK spK 0 tk d1 8 rw))) := gr1 (a := (rX 5 (LQ 0) 8 tk (fun j => some (d1 j).1.1))) (b := (oX 7 hQ ksQ spQ tk LQ g1 aQ)) (r := (pW 8 ksK spK 0 tk d1 8 rw)) hst
    refine lv_aload_n hx hb d_Q_takeOut_57 rfl (lv_at hl 1 rfl) ?_
    rw [← hcl, hic]
    have he := Option.some.inj hm
    cases he
    exact rt_r hx hb hr hlk hst9 rfl d_Q_takeOut_58
  · have hr1 := it_f hr1 h1
    obtain ⟨hn1, hr1⟩ := gd_u hr1
    obtain ⟨hn2, hr1⟩ := gd_u hr1
    have hs := inb_s hn2 (by decide)
    have hne : (i + 1).toNatClampNeg ≠ i.toNatClampNeg := by omega
    refine lv_aload_n hx hb d_Q_takeOut_27 rfl (lv_at hl 0 rfl) ?_
    refine ro_geta hx hb hown hG hg cQ hst 0 0 (by decide) rfl rfl k_212 d_Q_takeOut_28 ?_
    refine lv_iload_n hx hb d_Q_takeOut_31 rfl (lv_at hl 2 rfl) ?_
    refine lv_aload_n hx hb d_Q_takeOut_32 rfl (lv_at hl 0 rfl) ?_
    refine ro_geta hx hb hown hG hg cQ hst 0 0 (by decide) rfl rfl k_212 d_Q_takeOut_33 ?_
    refine lv_iload_n hx hb d_Q_takeOut_36 rfl (lv_at hl 2 rfl) ?_
    refine lv_iconst (v := 1) hx hb d_Q_takeOut_37 (by decide) ?_
    refine lv_iadd hx hb d_Q_takeOut_38 ?_
    have hst : St dC dI A s.heap H locs (rA 5 (LQ 0) 8 tk f (oW 7 hQ ksQ spQ tk LQ g1 aQ (pW 8 ksK spK 0 tk d1 8 rw))) := gr1 (a := (oX 7 hQ ksQ spQ tk LQ g1 aQ)) (b := (rX 5 (LQ 0) 8 tk f)) (r := (pW 8 ksK spK 0 tk d1 8 rw)) hst
    refine ro_aald (a := (d1 (i + 1).toNatClampNeg).1.1) hx hb hg hst rfl hn1 (hf _ hne) d_Q_takeOut_39 ?_
    refine ro_aast (C := RK) hx hb hg hst rfl cK.1 (oW_m (p_mem (inb_lt hn1))) hn2 d_Q_takeOut_40 (fun f1 H locs ef1 hst => ?_)
    refine lv_iinc (k := 2) (v := (i + 1)) (lv' := [(3, .int (i + 1)), (0, .ref hQ), (2, .ref (dO v1.toNatClampNeg).1.1)]) hx hb d_Q_takeOut_41 hl rfl (by rfl) (by decide) rfl (fun ls hl => ?_)
    refine lv_goto (tgt := 19) hx hb d_Q_takeOut_44 (by decide) ?_
    have hst : St dC dI A s.heap H locs (pW 8 ksK spK 0 tk d1 8 (rA 5 (LQ 0) 8 tk f1 (oW 7 hQ ksQ spQ tk LQ g1 aQ rw))) := gr2 (a := (rX 5 (LQ 0) 8 tk f1)) (b := (oX 7 hQ ksQ spQ tk LQ g1 aQ)) (x := (pF 8 ksK spK 0 tk d1 8)) (r := rw) hst
    have hst := swp_W (a := i.toNatClampNeg) (b := (i + 1).toNatClampNeg) hst (inb_lt hn2) (inb_lt hn1) (Ne.symm hne)
    have hst : St dC dI A s.heap H locs (oW 7 hQ ksQ spQ tk LQ g1 aQ (rA 5 (LQ 0) 8 tk f1 (pW 8 ksK spK 0 tk (swp d1 i.toNatClampNeg (i + 1).toNatClampNeg) 8 rw))) := gr2 (a := (pF 8 ksK spK 0 tk (swp d1 i.toNatClampNeg (i + 1).toNatClampNeg) 8)) (b := (rX 5 (LQ 0) 8 tk f1)) (x := (oX 7 hQ ksQ spQ tk LQ g1 aQ)) (r := rw) hst |> fun h => gr2 (a := (oX 7 hQ ksQ spQ tk LQ g1 aQ)) (b := (pF 8 ksK spK 0 tk (swp d1 i.toNatClampNeg (i + 1).toNatClampNeg) 8)) (x := (rX 5 (LQ 0) 8 tk f1)) (r := rw) h |> fun h => gr1 (a := (rX 5 (LQ 0) 8 tk f1)) (b := (oX 7 hQ ksQ spQ tk LQ g1 aQ)) (r := (pW 8 ksK spK 0 tk (swp d1 i.toNatClampNeg (i + 1).toNatClampNeg) 8 rw)) h
    refine hJ0 (i + 1, swp d1 i.toNatClampNeg (i + 1).toNatClampNeg) (Option.some.inj hr1).symm _ _ _ f1 (lv_sub hl [1, 2, 0] rfl) ?_ ?_ hst
    · rw [ef1]
      exact rot_hole (Ne.symm hne) hf
    · show (swp d1 i.toNatClampNeg (i + 1).toNatClampNeg (i + 1).toNatClampNeg).1.1 = _
      rw [swp_b]
      exact hcl
def mS_close (n : Nat) (v2 : Int32) (gS : aG) (aS : aA) (gV : aG) (aV : aA) (dP : aP) : Option (Int32 × aG × aP) := bd (mV_hasShape n 19 v2 gV aV) (fun x1 => jn (α := Int32) (if x1 = 0 then (some (.inl (-1))) else (bd (mV_item n v2 0 gV aV) (fun x10 => bd (mS_find n x10 gS aS gV aV dP) (fun x13 => some (.inl x13))))) (fun x6 => if x6 = (-1) then (some ((0, gS, dP))) else (gd (inb x6 3) (lt (va_up gS 2 ((gS 2) - 1)) (fun g1 => bd (mRot n 3 (g1 2) x6 dP) (fun d9 => gd (inb (g1 2) 3) (some ((1, g1, d9)))))))))
set_option maxHeartbeats 4000000 in
set_option maxRecDepth 100000 in
theorem cS_close (l : Launch) (dC : Nat → ClassId) (dI : Nat → Nat → Nat) (tk : Nat → ClassId) (A : Nat → Prop) (hS : Nat) (LS : Nat → Nat) (gS : aG) (aS : aA) (hV : Nat) (LV : Nat → Nat) (gV : aG) (aV : aA) (dP : aP) (rw : va_W) (n : Nat) (v2 : Int32) (r0 : Int32) (ogS : aG) (odP : aP) (hm : mS_close n v2 gS aS gV aV dP = some (r0, ogS, odP)) : CtI l dC dI tk A ⟨"EditorServer$Shelf", "close", "(LEditorServer$Values;I)Z"⟩ prog_7_method_4_code 6 (some .boolean) 5 110 [.ref hS, .ref hV, .int v2] (oW 4 hS ksS spS tk LS gS aS (rA 4 (LS 0) 3 tk (fun i => some (dP i).1.1) (oW 3 hV ksV spV tk LV gV aV (pW 5 ksD spD 1 tk dP 3 rw)))) r0 (oW 4 hS ksS spS tk LS ogS aS (rA 4 (LS 0) 3 tk (fun i => some (odP i).1.1) (oW 3 hV ksV spV tk LV gV aV (pW 5 ksD spD 1 tk odP 3 rw)))) := by
  refine ent (by decide) (Nat.le_of_ble_eq_true rfl) ?_
  intro p e s m args below meth c hx hb hr hml hown hlk hG hg hst ls hl
  unfold mS_close at hm
  have hl : lv_has ls 6 [(0, .ref hS), (1, .ref hV), (2, .int v2)] := hl
  obtain ⟨H, hH⟩ : ∃ H, H = s.heap := ⟨_, rfl⟩
  obtain ⟨locs, hlc⟩ : ∃ locs : List Loc, locs = [] := ⟨_, rfl⟩
  have hst : St dC dI A s.heap H locs (oW 4 hS ksS spS tk LS gS aS (rA 4 (LS 0) 3 tk (fun i => some (dP i).1.1) (oW 3 hV ksV spV tk LV gV aV (pW 5 ksD spD 1 tk dP 3 rw)))) := by rw [hH, hlc]; exact hst
  suffices hw : W p l e (rmo 5 110) s m args below meth c H locs 0 0 (MQ below (QI dC dI A r0 (oW 4 hS ksS spS tk LS ogS aS (rA 4 (LS 0) 3 tk (fun i => some (odP i).1.1) (oW 3 hV ksV spV tk LV gV aV (pW 5 ksD spD 1 tk odP 3 rw))))) args s 0 0 A) (F0 m 0 ls []) by rw [hH, hlc] at hw; exact hw
  refine lv_aload_n hx hb d_S_close_0 rfl (lv_at hl 1 rfl) ?_
  refine lv_iload_n hx hb d_S_close_1 rfl (lv_at hl 2 rfl) ?_
  refine va_ldcS (tx := stxt 19) hx hb hown (hg.2.2.2.1 19 (by decide)).2.2.2.2 d_S_close_2 ?_
  obtain ⟨x1, hc2, hm⟩ := bd_u hm
  have hst : St dC dI A s.heap H locs (oW 3 hV ksV spV tk LV gV aV (oW 4 hS ksS spS tk LS gS aS (rA 4 (LS 0) 3 tk (fun i => some (dP i).1.1) (pW 5 ksD spD 1 tk dP 3 rw)))) := gr2 (a := (oX 4 hS ksS spS tk LS gS aS)) (b := (rX 4 (LS 0) 3 tk (fun i => some (dP i).1.1))) (x := (oX 3 hV ksV spV tk LV gV aV)) (r := (pW 5 ksD spD 1 tk dP 3 rw)) hst
  refine cl_vi hx hb hml hown hG hg (cV_hasShape l dC dI tk A hV LV gV aV (oW 4 hS ksS spS tk LS gS aS (rA 4 (LS 0) 3 tk (fun i => some (dP i).1.1) (pW 5 ksD spD 1 tk dP 3 rw))) n 19 (by decide) v2 _ hc2) (cw_v 2 hG k_576 k_495 k_496 k_3 k_497 (by decide +kernel) ⟨by decide, by decide⟩) hst rfl oW_0 rfl hl.1 rfl (Nat.le_of_ble_eq_true rfl) ⟨Nat.le_refl 0, Nat.le_refl 0⟩ d_S_close_4 (fun H locs hst => ?_)
  have hst : St dC dI A s.heap H locs (pW 5 ksD spD 1 tk dP 3 (oW 3 hV ksV spV tk LV gV aV (oW 4 hS ksS spS tk LS gS aS (rA 4 (LS 0) 3 tk (fun i => some (dP i).1.1) rw)))) := gr3 (a := (oX 3 hV ksV spV tk LV gV aV)) (b := (oX 4 hS ksS spS tk LS gS aS)) (x := (rX 4 (LS 0) 3 tk (fun i => some (dP i).1.1))) (y := (pF 5 ksD spD 1 tk dP 3)) (r := rw) hst
  have hst : St dC dI A s.heap H locs (oW 3 hV ksV spV tk LV gV aV (pW 5 ksD spD 1 tk dP 3 (oW 4 hS ksS spS tk LS gS aS (rA 4 (LS 0) 3 tk (fun i => some (dP i).1.1) rw)))) := gr1 (a := (pF 5 ksD spD 1 tk dP 3)) (b := (oX 3 hV ksV spV tk LV gV aV)) (r := (oW 4 hS ksS spS tk LS gS aS (rA 4 (LS 0) 3 tk (fun i => some (dP i).1.1) rw))) hst
  have hst : St dC dI A s.heap H locs (rA 4 (LS 0) 3 tk (fun i => some (dP i).1.1) (oW 3 hV ksV spV tk LV gV aV (pW 5 ksD spD 1 tk dP 3 (oW 4 hS ksS spS tk LS gS aS rw)))) := gr3 (a := (oX 3 hV ksV spV tk LV gV aV)) (b := (pF 5 ksD spD 1 tk dP 3)) (x := (oX 4 hS ksS spS tk LS gS aS)) (y := (rX 4 (LS 0) 3 tk (fun i => some (dP i).1.1))) (r := rw) hst
  have hst : St dC dI A s.heap H locs (oW 4 hS ksS spS tk LS gS aS (rA 4 (LS 0) 3 tk (fun i => some (dP i).1.1) (oW 3 hV ksV spV tk LV gV aV (pW 5 ksD spD 1 tk dP 3 rw)))) := gr3 (a := (rX 4 (LS 0) 3 tk (fun i => some (dP i).1.1))) (b := (oX 3 hV ksV spV tk LV gV aV)) (x := (pF 5 ksD spD 1 tk dP 3)) (y := (oX 4 hS ksS spS tk LS gS aS)) (r := rw) hst
  obtain ⟨qJ4, hm, hLJ4, hR5⟩ := jn_u hm
  have hJ4 : ∀ (x6 : Int32), qJ4 = .inl x6 → ∀ (H : Heap) (locs : List Loc) (ls : Array Slot), lv_has ls 6 [(0, .ref hS), (1, .ref hV), (2, .int v2)] → St dC dI A s.heap H locs (oW 4 hS ksS spS tk LS gS aS (rA 4 (LS 0) 3 tk (fun i => some (dP i).1.1) (oW 3 hV ksV spV tk LV gV aV (pW 5 ksD spD 1 tk dP 3 rw)))) → W p l e (rmo 5 110) s m args below meth c H locs 0 0 (MQ below (QI dC dI A r0 (oW 4 hS ksS spS tk LS ogS aS (rA 4 (LS 0) 3 tk (fun i => some (odP i).1.1) (oW 3 hV ksV spV tk LV gV aV (pW 5 ksD spD 1 tk odP 3 rw))))) args s 0 0 A) (F0 m 25 ls [.int x6]) := by
    intro x6 hq H locs ls hl hst
    have hm := hLJ4 _ hq
    refine lv_istore_n (lv' := [(3, .int x6), (0, .ref hS), (1, .ref hV), (2, .int v2)]) hx hb d_S_close_25 rfl hl (by decide) rfl (fun ls hl => ?_)
    refine lv_iload_n hx hb d_S_close_26 rfl (lv_at hl 0 rfl) ?_
    refine lv_iconst (v := (-1)) hx hb d_S_close_27 (by decide) ?_
    refine lv_icmp_ne (tgt := 33) hx hb d_S_close_28 (by decide) (fun h8 => ?_) (fun h8 => ?_)
    · have hm := it_f hm h8
      obtain ⟨hn0, hm⟩ := gd_u hm
      refine lv_aload_n hx hb d_S_close_33 rfl (lv_at hl 1 rfl) ?_
      refine ro_geta hx hb hown hG hg cS hst 0 0 (by decide) rfl rfl k_163 d_S_close_34 ?_
      refine lv_iload_n hx hb d_S_close_37 rfl (lv_at hl 0 rfl) ?_
      have hst : St dC dI A s.heap H locs (rA 4 (LS 0) 3 tk (fun i => some (dP i).1.1) (oW 4 hS ksS spS tk LS gS aS (oW 3 hV ksV spV tk LV gV aV (pW 5 ksD spD 1 tk dP 3 rw)))) := gr1 (a := (oX 4 hS ksS spS tk LS gS aS)) (b := (rX 4 (LS 0) 3 tk (fun i => some (dP i).1.1))) (r := (oW 3 hV ksV spV tk LV gV aV (pW 5 ksD spD 1 tk dP 3 rw))) hst
      refine ro_aald (a := (dP x6.toNatClampNeg).1.1) hx hb hg hst rfl hn0 rfl d_S_close_38 ?_
      have hst : St dC dI A s.heap H locs (oW 4 hS ksS spS tk LS gS aS (rA 4 (LS 0) 3 tk (fun i => some (dP i).1.1) (oW 3 hV ksV spV tk LV gV aV (pW 5 ksD spD 1 tk dP 3 rw)))) := gr1 (a := (rX 4 (LS 0) 3 tk (fun i => some (dP i).1.1))) (b := (oX 4 hS ksS spS tk LS gS aS)) (r := (oW 3 hV ksV spV tk LV gV aV (pW 5 ksD spD 1 tk dP 3 rw))) hst
      refine lv_astore (lv' := [(4, .ref (dP x6.toNatClampNeg).1.1), (3, .int x6), (0, .ref hS), (1, .ref hV), (2, .int v2)]) hx hb d_S_close_39 hl (by decide) rfl (fun ls hl => ?_)
      have hl : lv_has ls 6 [(0, .ref hS), (3, .int x6), (4, .ref (dP x6.toNatClampNeg).1.1)] := lv_sub hl [2, 1, 0] rfl
      refine lv_aload_n hx hb d_S_close_41 rfl (lv_at hl 0 rfl) ?_
      refine lv_dup hx hb d_S_close_42 rfl ?_
      refine ro_geti hx hb hown hG hg cS hst 2 (by decide) rfl rfl k_166 d_S_close_43 ?_
      refine lv_iconst (v := 1) hx hb d_S_close_46 (by decide) ?_
      refine lv_isub hx hb d_S_close_47 ?_
      refine ro_puti hx hb hown hG hg cS hst 2 (by decide) rfl rfl rfl rfl rfl k_166 d_S_close_48 (fun g1 H locs eg1 hst => ?_)
      have hm := lt_u hm g1 eg1
      obtain ⟨d9, hrot, hm⟩ := bd_u hm
      obtain ⟨hn9, hm⟩ := gd_u hm
      refine lv_iload_n hx hb d_S_close_51 rfl (lv_at hl 1 rfl) ?_
      refine lv_istore (lv' := [(5, .int x6), (0, .ref hS), (3, .int x6), (4, .ref (dP x6.toNatClampNeg).1.1)]) hx hb d_S_close_52 hl (by decide) rfl (fun ls hl => ?_)
      unfold mRot at hrot
      refine lp_u (fun q : Int32 × aP => ∀ (H : Heap) (locs : List Loc) (ls : Array Slot) (f : Nat → Option Nat), lv_has ls 6 [(0, .ref hS), (4, .ref (dP x6.toNatClampNeg).1.1), (5, .int q.1)] → (∀ j, j ≠ q.1.toNatClampNeg → f j = some (q.2 j).1.1) → (q.2 q.1.toNatClampNeg).1.1 = (dP x6.toNatClampNeg).1.1 → St dC dI A s.heap H locs (oW 4 hS ksS spS tk LS g1 aS (rA 4 (LS 0) 3 tk f (oW 3 hV ksV spV tk LV gV aV (pW 5 ksD spD 1 tk q.2 3 rw)))) → W p l e (rmo 5 110) s m args below meth c H locs 0 0 (MQ below (QI dC dI A r0 (oW 4 hS ksS spS tk LS ogS aS (rA 4 (LS 0) 3 tk (fun i => some (odP i).1.1) (oW 3 hV ksV spV tk LV gV aV (pW 5 ksD spD 1 tk odP 3 rw))))) args s 0 0 A) (F0 m 54 ls [])) ?_ n (x6, dP) hrot _ _ _ (fun i => some (dP i).1.1) (lv_sub hl [1, 3, 0] rfl) (fun _ _ => rfl) rfl hst
      rintro ⟨i, d1⟩ r hr1 hJ0 hR H locs ls f hl hf hcl hst
      dsimp only at hr1 hl hf hcl hst ⊢
      refine lv_iload hx hb d_S_close_54 (lv_at hl 2 rfl) ?_
      refine lv_aload_n hx hb d_S_close_56 rfl (lv_at hl 0 rfl) ?_
      refine ro_geti hx hb hown hG hg cS hst 2 (by decide) rfl rfl k_166 d_S_close_57 ?_
      refine lv_icmp_ge (tgt := 85) hx hb d_S_close_60 (by decide) (fun h1 => ?_) (fun h1 => ?_)
      · have hr1 := it_t hr1 h1
        obtain ⟨hic, hr1⟩ := gd_u hr1
        have hic : i = g1 2 := of_decide_eq_true hic
        have hd1 : d1 = d9 := hR _ (Option.some.inj hr1).symm
        subst hd1
        refine lv_aload_n hx hb d_S_close_85 rfl (lv_at hl 0 rfl) ?_
        refine ro_geta hx hb hown hG hg cS hst 0 0 (by decide) rfl rfl k_163 d_S_close_86 ?_
        refine lv_aload_n hx hb d_S_close_89 rfl (lv_at hl 0 rfl) ?_
        refine ro_geti hx hb hown hG hg cS hst 2 (by decide) rfl rfl k_166 d_S_close_90 ?_
        refine lv_aload hx hb d_S_close_93 (lv_at hl 1 rfl) ?_
        have hst : St dC dI A s.heap H locs (rA 4 (LS 0) 3 tk f (oW 4 hS ksS spS tk LS g1 aS (oW 3 hV ksV spV tk LV gV aV (pW 5 ksD spD 1 tk d1 3 rw)))) := gr1 (a := (oX 4 hS ksS spS tk LS g1 aS)) (b := (rX 4 (LS 0) 3 tk f)) (r := (oW 3 hV ksV spV tk LV gV aV (pW 5 ksD spD 1 tk d1 3 rw))) hst
        rw [← hcl, hic]
        refine ro_aast (C := RD) hx hb hg hst rfl cD.1 (oW_m (oW_m (p_mem (inb_lt hn9)))) hn9 d_S_close_95 (fun f1 H locs ef1 hst => ?_)
        rw [hic] at hf
        rw [rot_full hf] at ef1
        subst ef1
        have hst9 : St dC dI A s.heap H locs (oW 4 hS ksS spS tk LS g1 aS (rA 4 (LS 0) 3 tk (fun i => some (d1 i).1.1) (oW 3 hV ksV spV tk LV gV aV (pW 5 ksD spD 1 tk d1 3 rw)))) := gr1 (a := (rX 4 (LS 0) 3 tk (fun j => some (d1 j).1.1))) (b := (oX 4 hS ksS spS tk LS g1 aS)) (r := (oW 3 hV ksV spV tk LV gV aV (pW 5 ksD spD 1 tk d1 3 rw))) hst
        refine lv_iconst (v := 1) hx hb d_S_close_96 (by decide) ?_
        have he := (Option.some.inj hm)
        cases he
        exact rt_i hx hb hr hlk (by decide) hst9 rfl d_S_close_97
      · have hr1 := it_f hr1 h1
        obtain ⟨hn1, hr1⟩ := gd_u hr1
        obtain ⟨hn2, hr1⟩ := gd_u hr1
        have hs := inb_s hn2 (by decide)
        have hne : (i + 1).toNatClampNeg ≠ i.toNatClampNeg := by omega
        refine lv_aload_n hx hb d_S_close_63 rfl (lv_at hl 0 rfl) ?_
        refine ro_geta hx hb hown hG hg cS hst 0 0 (by decide) rfl rfl k_163 d_S_close_64 ?_
        refine lv_iload hx hb d_S_close_67 (lv_at hl 2 rfl) ?_
        refine lv_aload_n hx hb d_S_close_69 rfl (lv_at hl 0 rfl) ?_
        refine ro_geta hx hb hown hG hg cS hst 0 0 (by decide) rfl rfl k_163 d_S_close_70 ?_
        refine lv_iload hx hb d_S_close_73 (lv_at hl 2 rfl) ?_
        refine lv_iconst (v := 1) hx hb d_S_close_75 (by decide) ?_
        refine lv_iadd hx hb d_S_close_76 ?_
        have hst : St dC dI A s.heap H locs (rA 4 (LS 0) 3 tk f (oW 4 hS ksS spS tk LS g1 aS (oW 3 hV ksV spV tk LV gV aV (pW 5 ksD spD 1 tk d1 3 rw)))) := gr1 (a := (oX 4 hS ksS spS tk LS g1 aS)) (b := (rX 4 (LS 0) 3 tk f)) (r := (oW 3 hV ksV spV tk LV gV aV (pW 5 ksD spD 1 tk d1 3 rw))) hst
        refine ro_aald (a := (d1 (i + 1).toNatClampNeg).1.1) hx hb hg hst rfl hn1 (hf _ hne) d_S_close_77 ?_
        refine ro_aast (C := RD) hx hb hg hst rfl cD.1 (oW_m (oW_m (p_mem (inb_lt hn1)))) hn2 d_S_close_78 (fun f1 H locs ef1 hst => ?_)
        refine lv_iinc (k := 2) (v := (i + 1)) (lv' := [(5, .int (i + 1)), (0, .ref hS), (4, .ref (dP x6.toNatClampNeg).1.1)]) hx hb d_S_close_79 hl rfl (by rfl) (by decide) rfl (fun ls hl => ?_)
        refine lv_goto (tgt := 54) hx hb d_S_close_82 (by decide) ?_
        have hst := gr3 (a := (rX 4 (LS 0) 3 tk f1)) (b := (oX 4 hS ksS spS tk LS g1 aS)) (x := (oX 3 hV ksV spV tk LV gV aV)) (y := (pF 5 ksD spD 1 tk d1 3)) (r := rw) hst
        have hst := swp_W (a := i.toNatClampNeg) (b := (i + 1).toNatClampNeg) (rw := ((rX 4 (LS 0) 3 tk f1) ++ ((oX 4 hS ksS spS tk LS g1 aS) ++ ((oX 3 hV ksV spV tk LV gV aV) ++ rw)))) hst (inb_lt hn2) (inb_lt hn1) (Ne.symm hne)
        have hst := gr3 (a := (pF 5 ksD spD 1 tk (swp d1 i.toNatClampNeg (i + 1).toNatClampNeg) 3)) (b := (rX 4 (LS 0) 3 tk f1)) (x := (oX 4 hS ksS spS tk LS g1 aS)) (y := (oX 3 hV ksV spV tk LV gV aV)) (r := rw) hst
        have hst := gr3 (a := (oX 3 hV ksV spV tk LV gV aV)) (b := (pF 5 ksD spD 1 tk (swp d1 i.toNatClampNeg (i + 1).toNatClampNeg) 3)) (x := (rX 4 (LS 0) 3 tk f1)) (y := (oX 4 hS ksS spS tk LS g1 aS)) (r := rw) hst
        have hst := gr3 (a := (oX 4 hS ksS spS tk LS g1 aS)) (b := (oX 3 hV ksV spV tk LV gV aV)) (x := (pF 5 ksD spD 1 tk (swp d1 i.toNatClampNeg (i + 1).toNatClampNeg) 3)) (y := (rX 4 (LS 0) 3 tk f1)) (r := rw) hst
        have hst : St dC dI A s.heap H locs (oW 4 hS ksS spS tk LS g1 aS (rA 4 (LS 0) 3 tk f1 (oW 3 hV ksV spV tk LV gV aV (pW 5 ksD spD 1 tk (swp d1 i.toNatClampNeg (i + 1).toNatClampNeg) 3 rw)))) := gr1 (a := (rX 4 (LS 0) 3 tk f1)) (b := (oX 4 hS ksS spS tk LS g1 aS)) (r := ((oX 3 hV ksV spV tk LV gV aV) ++ ((pF 5 ksD spD 1 tk (swp d1 i.toNatClampNeg (i + 1).toNatClampNeg) 3) ++ rw))) hst
        refine hJ0 (i + 1, (swp d1 i.toNatClampNeg (i + 1).toNatClampNeg)) (Option.some.inj hr1).symm _ _ _ f1 (lv_sub hl [1, 2, 0] rfl) ?_ ?_ hst
        · rw [ef1]
          exact rot_hole (Ne.symm hne) hf
        · show ((swp d1 i.toNatClampNeg (i + 1).toNatClampNeg) (i + 1).toNatClampNeg).1.1 = _
          rw [swp_b]
          exact hcl
    · have hm := it_t hm h8
      refine lv_iconst (v := 0) hx hb d_S_close_31 (by decide) ?_
      have hst9 := hst
      have he := (Option.some.inj hm)
      cases he
      exact rt_i hx hb hr hlk (by decide) hst9 rfl d_S_close_32
  refine lv_if_eq (tgt := 24) hx hb d_S_close_7 (by decide) (fun h9 => ?_) (fun h9 => ?_)
  · have hm := it_t hm h9
    refine lv_iconst (v := (-1)) hx hb d_S_close_24 (by decide) ?_
    exact hJ4 (-1) (Option.some.inj hm).symm _ _ _ (lv_sub hl [0, 1, 2] rfl) hst
  · have hm := it_f hm h9
    refine lv_aload_n hx hb d_S_close_10 rfl (lv_at hl 0 rfl) ?_
    refine lv_aload_n hx hb d_S_close_11 rfl (lv_at hl 1 rfl) ?_
    refine lv_aload_n hx hb d_S_close_12 rfl (lv_at hl 1 rfl) ?_
    refine lv_iload_n hx hb d_S_close_13 rfl (lv_at hl 2 rfl) ?_
    refine lv_iconst (v := 0) hx hb d_S_close_14 (by decide) ?_
    obtain ⟨x10, hc11, hm⟩ := bd_u hm
    have hst : St dC dI A s.heap H locs (oW 3 hV ksV spV tk LV gV aV (oW 4 hS ksS spS tk LS gS aS (rA 4 (LS 0) 3 tk (fun i => some (dP i).1.1) (pW 5 ksD spD 1 tk dP 3 rw)))) := gr2 (a := (oX 4 hS ksS spS tk LS gS aS)) (b := (rX 4 (LS 0) 3 tk (fun i => some (dP i).1.1))) (x := (oX 3 hV ksV spV tk LV gV aV)) (r := (pW 5 ksD spD 1 tk dP 3 rw)) hst
    refine cl_vi hx hb hml hown hG hg (cV_item l dC dI tk A hV LV gV aV (oW 4 hS ksS spS tk LS gS aS (rA 4 (LS 0) 3 tk (fun i => some (dP i).1.1) (pW 5 ksD spD 1 tk dP 3 rw))) n v2 0 _ hc11) (cw_v 2 hG k_577 k_499 k_500 k_3 k_501 (by decide +kernel) ⟨by decide, by decide⟩) hst rfl oW_0 rfl hl.1 rfl (Nat.le_of_ble_eq_true rfl) ⟨Nat.le_refl 0, Nat.le_refl 0⟩ d_S_close_15 (fun H locs hst => ?_)
    obtain ⟨x13, hc14, hm⟩ := bd_u hm
    have hst : St dC dI A s.heap H locs (pW 5 ksD spD 1 tk dP 3 (oW 3 hV ksV spV tk LV gV aV (oW 4 hS ksS spS tk LS gS aS (rA 4 (LS 0) 3 tk (fun i => some (dP i).1.1) rw)))) := gr3 (a := (oX 3 hV ksV spV tk LV gV aV)) (b := (oX 4 hS ksS spS tk LS gS aS)) (x := (rX 4 (LS 0) 3 tk (fun i => some (dP i).1.1))) (y := (pF 5 ksD spD 1 tk dP 3)) (r := rw) hst
    have hst : St dC dI A s.heap H locs (oW 3 hV ksV spV tk LV gV aV (pW 5 ksD spD 1 tk dP 3 (oW 4 hS ksS spS tk LS gS aS (rA 4 (LS 0) 3 tk (fun i => some (dP i).1.1) rw)))) := gr1 (a := (pF 5 ksD spD 1 tk dP 3)) (b := (oX 3 hV ksV spV tk LV gV aV)) (r := (oW 4 hS ksS spS tk LS gS aS (rA 4 (LS 0) 3 tk (fun i => some (dP i).1.1) rw))) hst
    have hst : St dC dI A s.heap H locs (rA 4 (LS 0) 3 tk (fun i => some (dP i).1.1) (oW 3 hV ksV spV tk LV gV aV (pW 5 ksD spD 1 tk dP 3 (oW 4 hS ksS spS tk LS gS aS rw)))) := gr3 (a := (oX 3 hV ksV spV tk LV gV aV)) (b := (pF 5 ksD spD 1 tk dP 3)) (x := (oX 4 hS ksS spS tk LS gS aS)) (y := (rX 4 (LS 0) 3 tk (fun i => some (dP i).1.1))) (r := rw) hst
    have hst : St dC dI A s.heap H locs (oW 4 hS ksS spS tk LS gS aS (rA 4 (LS 0) 3 tk (fun i => some (dP i).1.1) (oW 3 hV ksV spV tk LV gV aV (pW 5 ksD spD 1 tk dP 3 rw)))) := gr3 (a := (rX 4 (LS 0) 3 tk (fun i => some (dP i).1.1))) (b := (oX 3 hV ksV spV tk LV gV aV)) (x := (pF 5 ksD spD 1 tk dP 3)) (y := (oX 4 hS ksS spS tk LS gS aS)) (r := rw) hst
    refine cl_vi hx hb hml hown hG hg (cS_find l dC dI tk A hS LS gS aS hV LV gV aV dP rw n x10 _ hc14) (cw_v 2 hG k_578 k_512 k_513 k_4 k_514 (by decide +kernel) ⟨by decide, by decide⟩) hst rfl oW_0 rfl hl.1 rfl (Nat.le_of_ble_eq_true rfl) ⟨Nat.le_refl 0, Nat.le_refl 0⟩ d_S_close_18 (fun H locs hst => ?_)
    refine lv_goto (tgt := 25) hx hb d_S_close_21 (by decide) ?_
    exact hJ4 x13 (Option.some.inj hm).symm _ _ _ (lv_sub hl [0, 1, 2] rfl) hst
