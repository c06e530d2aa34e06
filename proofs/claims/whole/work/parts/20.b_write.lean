/-- a response's body behind the text t -/
def bdy (t : List Int32) (wi wr : Int32) (n1 n2 : List Int32) : List Int32 := ((((t ++ stT 25) ++ (if wi = 0 then stT 26 else n1)) ++ stT (if wr = 0 then 28 else 27)) ++ n2) ++ [nI 125]
theorem bdy_len (t : List Int32) (wi wr : Int32) (n1 n2 : List Int32) : (bdy t wi wr n1 n2).length = t.length + 6 + (if wi = 0 then stT 26 else n1).length + (stT (if wr = 0 then 28 else 27)).length + n2.length + 1 := by
  unfold bdy
  simp only [List.length_append]
  rfl
theorem d_N_writeBody_0 : decode prog_2_method_7_code 0 = .ok (.aload_n 0, 1) := by decide +kernel
theorem d_N_writeBody_1 : decode prog_2_method_7_code 1 = .ok (.getfield 26, 3) := by decide +kernel
theorem d_N_writeBody_4 : decode prog_2_method_7_code 4 = .ok (.ldc 60, 2) := by decide +kernel
theorem d_N_writeBody_6 : decode prog_2_method_7_code 6 = .ok (.invokevirtual 62, 3) := by decide +kernel
theorem d_N_writeBody_9 : decode prog_2_method_7_code 9 = .ok (.pop, 1) := by decide +kernel
theorem d_N_writeBody_10 : decode prog_2_method_7_code 10 = .ok (.aload_n 0, 1) := by decide +kernel
theorem d_N_writeBody_11 : decode prog_2_method_7_code 11 = .ok (.getfield 13, 3) := by decide +kernel
theorem d_N_writeBody_14 : decode prog_2_method_7_code 14 = .ok (.iload_n 1, 1) := by decide +kernel
theorem d_N_writeBody_15 : decode prog_2_method_7_code 15 = .ok (.baload, 1) := by decide +kernel
theorem d_N_writeBody_16 : decode prog_2_method_7_code 16 = .ok (.ifCond .eq 20, 3) := by decide +kernel
theorem d_N_writeBody_19 : decode prog_2_method_7_code 19 = .ok (.aload_n 0, 1) := by decide +kernel
theorem d_N_writeBody_20 : decode prog_2_method_7_code 20 = .ok (.getfield 26, 3) := by decide +kernel
theorem d_N_writeBody_23 : decode prog_2_method_7_code 23 = .ok (.aload_n 0, 1) := by decide +kernel
theorem d_N_writeBody_24 : decode prog_2_method_7_code 24 = .ok (.getfield 9, 3) := by decide +kernel
theorem d_N_writeBody_27 : decode prog_2_method_7_code 27 = .ok (.iload_n 1, 1) := by decide +kernel
theorem d_N_writeBody_28 : decode prog_2_method_7_code 28 = .ok (.iaload, 1) := by decide +kernel
theorem d_N_writeBody_29 : decode prog_2_method_7_code 29 = .ok (.invokevirtual 49, 3) := by decide +kernel
theorem d_N_writeBody_32 : decode prog_2_method_7_code 32 = .ok (.pop, 1) := by decide +kernel
theorem d_N_writeBody_33 : decode prog_2_method_7_code 33 = .ok (.goto 13, 3) := by decide +kernel
theorem d_N_writeBody_36 : decode prog_2_method_7_code 36 = .ok (.aload_n 0, 1) := by decide +kernel
theorem d_N_writeBody_37 : decode prog_2_method_7_code 37 = .ok (.getfield 26, 3) := by decide +kernel
theorem d_N_writeBody_40 : decode prog_2_method_7_code 40 = .ok (.ldc 65, 2) := by decide +kernel
theorem d_N_writeBody_42 : decode prog_2_method_7_code 42 = .ok (.invokevirtual 62, 3) := by decide +kernel
theorem d_N_writeBody_45 : decode prog_2_method_7_code 45 = .ok (.pop, 1) := by decide +kernel
theorem d_N_writeBody_46 : decode prog_2_method_7_code 46 = .ok (.aload_n 0, 1) := by decide +kernel
theorem d_N_writeBody_47 : decode prog_2_method_7_code 47 = .ok (.getfield 26, 3) := by decide +kernel
theorem d_N_writeBody_50 : decode prog_2_method_7_code 50 = .ok (.aload_n 0, 1) := by decide +kernel
theorem d_N_writeBody_51 : decode prog_2_method_7_code 51 = .ok (.getfield 17, 3) := by decide +kernel
theorem d_N_writeBody_54 : decode prog_2_method_7_code 54 = .ok (.iload_n 1, 1) := by decide +kernel
theorem d_N_writeBody_55 : decode prog_2_method_7_code 55 = .ok (.baload, 1) := by decide +kernel
theorem d_N_writeBody_56 : decode prog_2_method_7_code 56 = .ok (.ifCond .eq 8, 3) := by decide +kernel
theorem d_N_writeBody_59 : decode prog_2_method_7_code 59 = .ok (.ldc 67, 2) := by decide +kernel
theorem d_N_writeBody_61 : decode prog_2_method_7_code 61 = .ok (.goto 5, 3) := by decide +kernel
theorem d_N_writeBody_64 : decode prog_2_method_7_code 64 = .ok (.ldc 69, 2) := by decide +kernel
theorem d_N_writeBody_66 : decode prog_2_method_7_code 66 = .ok (.invokevirtual 62, 3) := by decide +kernel
theorem d_N_writeBody_69 : decode prog_2_method_7_code 69 = .ok (.pop, 1) := by decide +kernel
theorem d_N_writeBody_70 : decode prog_2_method_7_code 70 = .ok (.aload_n 0, 1) := by decide +kernel
theorem d_N_writeBody_71 : decode prog_2_method_7_code 71 = .ok (.getfield 26, 3) := by decide +kernel
theorem d_N_writeBody_74 : decode prog_2_method_7_code 74 = .ok (.aload_n 0, 1) := by decide +kernel
theorem d_N_writeBody_75 : decode prog_2_method_7_code 75 = .ok (.getfield 20, 3) := by decide +kernel
theorem d_N_writeBody_78 : decode prog_2_method_7_code 78 = .ok (.iload_n 1, 1) := by decide +kernel
theorem d_N_writeBody_79 : decode prog_2_method_7_code 79 = .ok (.iaload, 1) := by decide +kernel
theorem d_N_writeBody_80 : decode prog_2_method_7_code 80 = .ok (.invokevirtual 49, 3) := by decide +kernel
theorem d_N_writeBody_83 : decode prog_2_method_7_code 83 = .ok (.pop, 1) := by decide +kernel
theorem d_N_writeBody_84 : decode prog_2_method_7_code 84 = .ok (.aload_n 0, 1) := by decide +kernel
theorem d_N_writeBody_85 : decode prog_2_method_7_code 85 = .ok (.getfield 26, 3) := by decide +kernel
theorem d_N_writeBody_88 : decode prog_2_method_7_code 88 = .ok (.bipush 125, 2) := by decide +kernel
theorem d_N_writeBody_90 : decode prog_2_method_7_code 90 = .ok (.invokevirtual 53, 3) := by decide +kernel
theorem d_N_writeBody_93 : decode prog_2_method_7_code 93 = .ok (.pop, 1) := by decide +kernel
theorem d_N_writeBody_94 : decode prog_2_method_7_code 94 = .ok (.return_, 1) := by decide +kernel
set_option maxHeartbeats 1000000 in
theorem cN_writeBody (l : Launch) (dC : Nat → ClassId) (dI : Nat → Nat → Nat) (tk : Nat → ClassId) (A : Nat → Prop) (hN : Nat) (LN : Nat → Nat) (gN : aG) (aN : aA) (u : sbS) (rw : va_W) (t : List Int32) (ht : sbT t u) (k : Nat) (hk : k < 60) (b1 b2 : Bool) (w1 w2 : Nat) (hw1 : w1 < 10 ^ 9) (hw2 : w2 < 10 ^ 9) (hb1 : b1 = true → 1 ≤ w1) (hb2 : b2 = true → 1 ≤ w2) (e1 : aN 0 k = sg b1 w1) (e2 : aN 3 k = sg b2 w2) (hc : (bdy t (aN 1 k) (aN 2 k) (dTw b1 w1) (dTw b2 w2)).length ≤ 34) : CtM l dC dI tk A ⟨"EditorServer$Answers", "writeBody", "(I)V"⟩ prog_2_method_7_code 2 none 6 220 5 170 [.ref hN, .int (nI k)] (oW 9 hN ksN spN tk LN gN aN (sbW (LN 4) tk u t.length rw)) (QVp dC dI A (fun u2 : sbS => sbT (bdy t (aN 1 k) (aN 2 k) (dTw b1 w1) (dTw b2 w2)) u2) (fun u2 => (oW 9 hN ksN spN tk LN gN aN (sbW (LN 4) tk u2 (bdy t (aN 1 k) (aN 2 k) (dTw b1 w1) (dTw b2 w2)).length rw)))) := by
  refine entN (by decide) (Nat.le_of_ble_eq_true rfl) ?_
  intro p e s m args below meth c hx hb hr hml hown hlk hin hG hg hst ls hl
  have hl : lv_has ls 2 [(0, .ref hN), (1, .int (nI k))] := hl
  have hcl := bdy_len t (aN 1 k) (aN 2 k) (dTw b1 w1) (dTw b2 w2)
  have ek : (nI k).toNatClampNeg = k := nI_clamp (by omega)
  have hki : inb (nI k) 60 = true := inb_n hk (by decide)
  have l1 : (t ++ stT 25).length = t.length + 6 := by rw [List.length_append]; rfl
  have l2 : ((t ++ stT 25) ++ (if aN 1 k = 0 then stT 26 else dTw b1 w1)).length = t.length + 6 + (if aN 1 k = 0 then stT 26 else dTw b1 w1).length := by rw [List.length_append, l1]
  have l3 : (((t ++ stT 25) ++ (if aN 1 k = 0 then stT 26 else dTw b1 w1)) ++ stT (if aN 2 k = 0 then 28 else 27)).length = t.length + 6 + (if aN 1 k = 0 then stT 26 else dTw b1 w1).length + (stT (if aN 2 k = 0 then 28 else 27)).length := by rw [List.length_append, l2]
  have l4 : ((((t ++ stT 25) ++ (if aN 1 k = 0 then stT 26 else dTw b1 w1)) ++ stT (if aN 2 k = 0 then 28 else 27)) ++ dTw b2 w2).length = t.length + 6 + (if aN 1 k = 0 then stT 26 else dTw b1 w1).length + (stT (if aN 2 k = 0 then 28 else 27)).length + (dTw b2 w2).length := by rw [List.length_append, l3]
  have k66 : ∀ (u : sbS) (H : Heap) (locs : List Loc) (ls : Array Slot), sbT ((t ++ stT 25) ++ (if aN 1 k = 0 then stT 26 else dTw b1 w1)) u → lv_has ls 2 [(0, .ref hN), (1, .int (nI k))] → St dC dI A s.heap H locs (oW 9 hN ksN spN tk LN gN aN (sbW (LN 4) tk u ((t ++ stT 25) ++ (if aN 1 k = 0 then stT 26 else dTw b1 w1)).length rw)) → W p l e (rmn 6 220 5 170) s m args below meth c H locs 2 68 (MQ below (QVp dC dI A (fun u2 : sbS => sbT (bdy t (aN 1 k) (aN 2 k) (dTw b1 w1) (dTw b2 w2)) u2) (fun u2 => (oW 9 hN ksN spN tk LN gN aN (sbW (LN 4) tk u2 (bdy t (aN 1 k) (aN 2 k) (dTw b1 w1) (dTw b2 w2)).length rw)))) args s 5 170 A) (F0 m 66 ls [.ref (dI 1000 (if aN 2 k = 0 then 28 else 27)), .ref (LN 4)]) := by
    intro u H locs ls ht hl hst
    have hJ : (if aN 2 k = 0 then 28 else 27) < 29 := by split <;> decide
    have hst : St dC dI A s.heap H locs (sbW (LN 4) tk u ((t ++ stT 25) ++ (if aN 1 k = 0 then stT 26 else dTw b1 w1)).length ((oX 9 hN ksN spN tk LN gN aN) ++ rw)) := gr1 (a := (oX 9 hN ksN spN tk LN gN aN)) (b := (sbX (LN 4) tk u ((t ++ stT 25) ++ (if aN 1 k = 0 then stT 26 else dTw b1 w1)).length)) (r := rw) hst
    refine bk_r (cm_run (nn := 1) (As := [.ref (dI 1000 (if aN 2 k = 0 then 28 else 27))]) hx hb hml hown hG hg (c_ta l dC dI tk A (LN 4) u ((oX 9 hN ksN spN tk LN gN aN) ++ rw) ((t ++ stT 25) ++ (if aN 1 k = 0 then stT 26 else dTw b1 w1)) ht (if aN 2 k = 0 then 28 else 27) hJ (by rw [← stT_len]; omega)) (cwX 1 hG k_859 k_860 k_861 k_11 k_862 (by decide +kernel) ⟨by decide, by decide⟩) hst cB.1 (q0 := 0) rfl rfl hl.1 rfl (Nat.le_of_ble_eq_true rfl) ⟨by decide, by decide⟩ d_N_writeBody_66) hst (fun u H locs ht hst => ?_)
    refine W.cs (cells' := 3) (slots' := 102) rfl rfl ?_
    have hst : St dC dI A s.heap H locs (oW 9 hN ksN spN tk LN gN aN (sbW (LN 4) tk u (((t ++ stT 25) ++ (if aN 1 k = 0 then stT 26 else dTw b1 w1)) ++ stT (if aN 2 k = 0 then 28 else 27)).length rw)) := gr1 (a := (sbX (LN 4) tk u (((t ++ stT 25) ++ (if aN 1 k = 0 then stT 26 else dTw b1 w1)) ++ stT (if aN 2 k = 0 then 28 else 27)).length)) (b := (oX 9 hN ksN spN tk LN gN aN)) (r := rw) hst
    refine lv_pop hx hb d_N_writeBody_69 rfl ?_
    refine lv_aload_n hx hb d_N_writeBody_70 rfl (lv_at hl 0 rfl) ?_
    refine ro_geta hx hb hown hG hg cN hst 4 4 (by decide) rfl rfl k_268 d_N_writeBody_71 ?_
    refine lv_aload_n hx hb d_N_writeBody_74 rfl (lv_at hl 0 rfl) ?_
    refine ro_geta hx hb hown hG hg cN hst 3 3 (by decide) rfl rfl k_266 d_N_writeBody_75 ?_
    refine lv_iload_n hx hb d_N_writeBody_78 rfl (lv_at hl 1 rfl) ?_
    refine ro_iald hx hb hg hst 3 rfl hki d_N_writeBody_79 ?_
    refine W.eq (g2 := F0 m 80 ls [.int (sg b2 w2), .ref (LN 4)]) (by rw [ek, e2]) ?_
    have hst : St dC dI A s.heap H locs (sbW (LN 4) tk u (((t ++ stT 25) ++ (if aN 1 k = 0 then stT 26 else dTw b1 w1)) ++ stT (if aN 2 k = 0 then 28 else 27)).length ((oX 9 hN ksN spN tk LN gN aN) ++ rw)) := gr1 (a := (oX 9 hN ksN spN tk LN gN aN)) (b := (sbX (LN 4) tk u (((t ++ stT 25) ++ (if aN 1 k = 0 then stT 26 else dTw b1 w1)) ++ stT (if aN 2 k = 0 then 28 else 27)).length)) (r := rw) hst
    refine bk_r (cm_run (nn := 1) (As := [.int (sg b2 w2)]) hx hb hml hown hG hg (c_tn l dC dI tk A (LN 4) u ((oX 9 hN ksN spN tk LN gN aN) ++ rw) (((t ++ stT 25) ++ (if aN 1 k = 0 then stT 26 else dTw b1 w1)) ++ stT (if aN 2 k = 0 then 28 else 27)) ht b2 w2 hw2 hb2 (by omega)) (cwX 1 hG k_920 k_921 k_922 k_11 k_923 (by decide +kernel) ⟨by decide, by decide⟩) hst cB.1 (q0 := 0) rfl rfl hl.1 rfl (Nat.le_of_ble_eq_true rfl) ⟨by decide, by decide⟩ d_N_writeBody_80) hst (fun u H locs ht hst => ?_)
    refine W.cs (cells' := 4) (slots' := 136) rfl rfl ?_
    have hst : St dC dI A s.heap H locs (oW 9 hN ksN spN tk LN gN aN (sbW (LN 4) tk u ((((t ++ stT 25) ++ (if aN 1 k = 0 then stT 26 else dTw b1 w1)) ++ stT (if aN 2 k = 0 then 28 else 27)) ++ dTw b2 w2).length rw)) := gr1 (a := (sbX (LN 4) tk u ((((t ++ stT 25) ++ (if aN 1 k = 0 then stT 26 else dTw b1 w1)) ++ stT (if aN 2 k = 0 then 28 else 27)) ++ dTw b2 w2).length)) (b := (oX 9 hN ksN spN tk LN gN aN)) (r := rw) hst
    refine lv_pop hx hb d_N_writeBody_83 rfl ?_
    refine lv_aload_n hx hb d_N_writeBody_84 rfl (lv_at hl 0 rfl) ?_
    refine ro_geta hx hb hown hG hg cN hst 4 4 (by decide) rfl rfl k_268 d_N_writeBody_85 ?_
    refine lv_bipush (v := 125) hx hb d_N_writeBody_88 (by decide) ?_
    have hst : St dC dI A s.heap H locs (sbW (LN 4) tk u ((((t ++ stT 25) ++ (if aN 1 k = 0 then stT 26 else dTw b1 w1)) ++ stT (if aN 2 k = 0 then 28 else 27)) ++ dTw b2 w2).length ((oX 9 hN ksN spN tk LN gN aN) ++ rw)) := gr1 (a := (oX 9 hN ksN spN tk LN gN aN)) (b := (sbX (LN 4) tk u ((((t ++ stT 25) ++ (if aN 1 k = 0 then stT 26 else dTw b1 w1)) ++ stT (if aN 2 k = 0 then 28 else 27)) ++ dTw b2 w2).length)) (r := rw) hst
    refine bk_r (cm_run (nn := 1) (As := [.int (nI 125)]) hx hb hml hown hG hg (c_td l dC dI tk A (LN 4) u ((oX 9 hN ksN spN tk LN gN aN) ++ rw) ((((t ++ stT 25) ++ (if aN 1 k = 0 then stT 26 else dTw b1 w1)) ++ stT (if aN 2 k = 0 then 28 else 27)) ++ dTw b2 w2) ht 125 (by decide) (by omega)) (cwX 1 hG k_948 k_949 k_950 k_11 k_951 (by decide +kernel) ⟨by decide, by decide⟩) hst cB.1 (q0 := 0) rfl rfl hl.1 rfl (Nat.le_of_ble_eq_true rfl) ⟨by decide, by decide⟩ d_N_writeBody_90) hst (fun u H locs ht hst => ?_)
    refine W.cs (cells' := 5) (slots' := 170) rfl rfl ?_
    have hst : St dC dI A s.heap H locs (oW 9 hN ksN spN tk LN gN aN (sbW (LN 4) tk u (((((t ++ stT 25) ++ (if aN 1 k = 0 then stT 26 else dTw b1 w1)) ++ stT (if aN 2 k = 0 then 28 else 27)) ++ dTw b2 w2) ++ [nI 125]).length rw)) := gr1 (a := (sbX (LN 4) tk u (((((t ++ stT 25) ++ (if aN 1 k = 0 then stT 26 else dTw b1 w1)) ++ stT (if aN 2 k = 0 then 28 else 27)) ++ dTw b2 w2) ++ [nI 125]).length)) (b := (oX 9 hN ksN spN tk LN gN aN)) (r := rw) hst
    refine lv_pop hx hb d_N_writeBody_93 rfl ?_
    exact rp_v (u := u) (wf := fun u2 => (oW 9 hN ksN spN tk LN gN aN (sbW (LN 4) tk u2 (bdy t (aN 1 k) (aN 2 k) (dTw b1 w1) (dTw b2 w2)).length rw))) hx hb hr hlk hst ht d_N_writeBody_94
  have k46 : ∀ (u : sbS) (H : Heap) (locs : List Loc) (ls : Array Slot), sbT ((t ++ stT 25) ++ (if aN 1 k = 0 then stT 26 else dTw b1 w1)) u → lv_has ls 2 [(0, .ref hN), (1, .int (nI k))] → St dC dI A s.heap H locs (oW 9 hN ksN spN tk LN gN aN (sbW (LN 4) tk u ((t ++ stT 25) ++ (if aN 1 k = 0 then stT 26 else dTw b1 w1)).length rw)) → W p l e (rmn 6 220 5 170) s m args below meth c H locs 2 68 (MQ below (QVp dC dI A (fun u2 : sbS => sbT (bdy t (aN 1 k) (aN 2 k) (dTw b1 w1) (dTw b2 w2)) u2) (fun u2 => (oW 9 hN ksN spN tk LN gN aN (sbW (LN 4) tk u2 (bdy t (aN 1 k) (aN 2 k) (dTw b1 w1) (dTw b2 w2)).length rw)))) args s 5 170 A) (F0 m 46 ls []) := by
    intro u H locs ls ht hl hst
    refine lv_aload_n hx hb d_N_writeBody_46 rfl (lv_at hl 0 rfl) ?_
    refine ro_geta hx hb hown hG hg cN hst 4 4 (by decide) rfl rfl k_268 d_N_writeBody_47 ?_
    refine lv_aload_n hx hb d_N_writeBody_50 rfl (lv_at hl 0 rfl) ?_
    refine ro_geta hx hb hown hG hg cN hst 2 2 (by decide) rfl rfl k_264 d_N_writeBody_51 ?_
    refine lv_iload_n hx hb d_N_writeBody_54 rfl (lv_at hl 1 rfl) ?_
    refine ro_zald hx hb hg hst 2 rfl hki d_N_writeBody_55 ?_
    refine W.eq (g2 := F0 m 56 ls [.int (aN 2 k), .ref (LN 4)]) (by rw [ek]) ?_
    by_cases hz : aN 2 k = 0
    · refine lv_if_eq (tgt := 64) hx hb d_N_writeBody_56 (by decide) (fun _ => ?_) (fun h9 => absurd hz h9)
      refine va_ldcS (tx := stxt 28) hx hb hown (hg.2.2.2.1 28 (by decide)).2.2.2.2 d_N_writeBody_64 ?_
      have h9 := k66 u H locs ls ht hl hst
      rw [if_pos hz] at h9
      exact h9
    · refine lv_if_eq (tgt := 64) hx hb d_N_writeBody_56 (by decide) (fun h9 => absurd h9 hz) (fun _ => ?_)
      refine va_ldcS (tx := stxt 27) hx hb hown (hg.2.2.2.1 27 (by decide)).2.2.2.2 d_N_writeBody_59 ?_
      refine lv_goto (tgt := 66) hx hb d_N_writeBody_61 (by decide) ?_
      have h9 := k66 u H locs ls ht hl hst
      rw [if_neg hz] at h9
      exact h9
  obtain ⟨H, hH⟩ : ∃ H, H = s.heap := ⟨_, rfl⟩
  obtain ⟨locs, hlc⟩ : ∃ locs : List Loc, locs = [] := ⟨_, rfl⟩
  have hst : St dC dI A s.heap H locs (oW 9 hN ksN spN tk LN gN aN (sbW (LN 4) tk u t.length rw)) := by rw [hH, hlc]; exact hst
  suffices hw : W p l e (rmn 6 220 5 170) s m args below meth c H locs 0 0 (MQ below (QVp dC dI A (fun u2 : sbS => sbT (bdy t (aN 1 k) (aN 2 k) (dTw b1 w1) (dTw b2 w2)) u2) (fun u2 => (oW 9 hN ksN spN tk LN gN aN (sbW (LN 4) tk u2 (bdy t (aN 1 k) (aN 2 k) (dTw b1 w1) (dTw b2 w2)).length rw)))) args s 5 170 A) (F0 m 0 ls []) by rw [hH, hlc] at hw; exact hw
  refine lv_aload_n hx hb d_N_writeBody_0 rfl (lv_at hl 0 rfl) ?_
  refine ro_geta hx hb hown hG hg cN hst 4 4 (by decide) rfl rfl k_268 d_N_writeBody_1 ?_
  refine va_ldcS (tx := stxt 25) hx hb hown (hg.2.2.2.1 25 (by decide)).2.2.2.2 d_N_writeBody_4 ?_
  have hst : St dC dI A s.heap H locs (sbW (LN 4) tk u t.length ((oX 9 hN ksN spN tk LN gN aN) ++ rw)) := gr1 (a := (oX 9 hN ksN spN tk LN gN aN)) (b := (sbX (LN 4) tk u t.length)) (r := rw) hst
  refine bk_r (cm_run (nn := 1) (As := [.ref (dI 1000 25)]) hx hb hml hown hG hg (c_ta l dC dI tk A (LN 4) u ((oX 9 hN ksN spN tk LN gN aN) ++ rw) t ht 25 (by decide) (by rw [← stT_len, show (stT 25).length = 6 from rfl]; omega)) (cwX 1 hG k_859 k_860 k_861 k_11 k_862 (by decide +kernel) ⟨by decide, by decide⟩) hst cB.1 (q0 := 0) rfl rfl hl.1 rfl (Nat.le_of_ble_eq_true rfl) ⟨by decide, by decide⟩ d_N_writeBody_6) hst (fun u H locs ht hst => ?_)
  refine W.cs (cells' := 1) (slots' := 34) rfl rfl ?_
  have hst : St dC dI A s.heap H locs (oW 9 hN ksN spN tk LN gN aN (sbW (LN 4) tk u (t ++ stT 25).length rw)) := gr1 (a := (sbX (LN 4) tk u (t ++ stT 25).length)) (b := (oX 9 hN ksN spN tk LN gN aN)) (r := rw) hst
  refine lv_pop hx hb d_N_writeBody_9 rfl ?_
  refine lv_aload_n hx hb d_N_writeBody_10 rfl (lv_at hl 0 rfl) ?_
  refine ro_geta hx hb hown hG hg cN hst 1 1 (by decide) rfl rfl k_262 d_N_writeBody_11 ?_
  refine lv_iload_n hx hb d_N_writeBody_14 rfl (lv_at hl 1 rfl) ?_
  refine ro_zald hx hb hg hst 1 rfl hki d_N_writeBody_15 ?_
  refine W.eq (g2 := F0 m 16 ls [.int (aN 1 k)]) (by rw [ek]) ?_
  by_cases hz : aN 1 k = 0
  · refine lv_if_eq (tgt := 36) hx hb d_N_writeBody_16 (by decide) (fun _ => ?_) (fun h9 => absurd hz h9)
    rw [if_pos hz] at hcl l2
    refine lv_aload_n hx hb d_N_writeBody_36 rfl (lv_at hl 0 rfl) ?_
    refine ro_geta hx hb hown hG hg cN hst 4 4 (by decide) rfl rfl k_268 d_N_writeBody_37 ?_
    refine va_ldcS (tx := stxt 26) hx hb hown (hg.2.2.2.1 26 (by decide)).2.2.2.2 d_N_writeBody_40 ?_
    have hst : St dC dI A s.heap H locs (sbW (LN 4) tk u (t ++ stT 25).length ((oX 9 hN ksN spN tk LN gN aN) ++ rw)) := gr1 (a := (oX 9 hN ksN spN tk LN gN aN)) (b := (sbX (LN 4) tk u (t ++ stT 25).length)) (r := rw) hst
    refine bk_r (cm_run (nn := 1) (As := [.ref (dI 1000 26)]) hx hb hml hown hG hg (c_ta l dC dI tk A (LN 4) u ((oX 9 hN ksN spN tk LN gN aN) ++ rw) (t ++ stT 25) ht 26 (by decide) (by rw [← stT_len]; omega)) (cwX 1 hG k_859 k_860 k_861 k_11 k_862 (by decide +kernel) ⟨by decide, by decide⟩) hst cB.1 (q0 := 0) rfl rfl hl.1 rfl (Nat.le_of_ble_eq_true rfl) ⟨by decide, by decide⟩ d_N_writeBody_42) hst (fun u H locs ht hst => ?_)
    refine W.cs (cells' := 2) (slots' := 68) rfl rfl ?_
    have hst : St dC dI A s.heap H locs (oW 9 hN ksN spN tk LN gN aN (sbW (LN 4) tk u ((t ++ stT 25) ++ stT 26).length rw)) := gr1 (a := (sbX (LN 4) tk u ((t ++ stT 25) ++ stT 26).length)) (b := (oX 9 hN ksN spN tk LN gN aN)) (r := rw) hst
    refine lv_pop hx hb d_N_writeBody_45 rfl ?_
    refine k46 u H locs ls (by rw [if_pos hz]; exact ht) hl (by rw [if_pos hz]; exact hst)
  · refine lv_if_eq (tgt := 36) hx hb d_N_writeBody_16 (by decide) (fun h9 => absurd h9 hz) (fun _ => ?_)
    rw [if_neg hz] at hcl l2
    refine lv_aload_n hx hb d_N_writeBody_19 rfl (lv_at hl 0 rfl) ?_
    refine ro_geta hx hb hown hG hg cN hst 4 4 (by decide) rfl rfl k_268 d_N_writeBody_20 ?_
    refine lv_aload_n hx hb d_N_writeBody_23 rfl (lv_at hl 0 rfl) ?_
    refine ro_geta hx hb hown hG hg cN hst 0 0 (by decide) rfl rfl k_260 d_N_writeBody_24 ?_
    refine lv_iload_n hx hb d_N_writeBody_27 rfl (lv_at hl 1 rfl) ?_
    refine ro_iald hx hb hg hst 0 rfl hki d_N_writeBody_28 ?_
    refine W.eq (g2 := F0 m 29 ls [.int (sg b1 w1), .ref (LN 4)]) (by rw [ek, e1]) ?_
    have hst : St dC dI A s.heap H locs (sbW (LN 4) tk u (t ++ stT 25).length ((oX 9 hN ksN spN tk LN gN aN) ++ rw)) := gr1 (a := (oX 9 hN ksN spN tk LN gN aN)) (b := (sbX (LN 4) tk u (t ++ stT 25).length)) (r := rw) hst
    refine bk_r (cm_run (nn := 1) (As := [.int (sg b1 w1)]) hx hb hml hown hG hg (c_tn l dC dI tk A (LN 4) u ((oX 9 hN ksN spN tk LN gN aN) ++ rw) (t ++ stT 25) ht b1 w1 hw1 hb1 (by omega)) (cwX 1 hG k_920 k_921 k_922 k_11 k_923 (by decide +kernel) ⟨by decide, by decide⟩) hst cB.1 (q0 := 0) rfl rfl hl.1 rfl (Nat.le_of_ble_eq_true rfl) ⟨by decide, by decide⟩ d_N_writeBody_29) hst (fun u H locs ht hst => ?_)
    refine W.cs (cells' := 2) (slots' := 68) rfl rfl ?_
    have hst : St dC dI A s.heap H locs (oW 9 hN ksN spN tk LN gN aN (sbW (LN 4) tk u ((t ++ stT 25) ++ dTw b1 w1).length rw)) := gr1 (a := (sbX (LN 4) tk u ((t ++ stT 25) ++ dTw b1 w1).length)) (b := (oX 9 hN ksN spN tk LN gN aN)) (r := rw) hst
    refine lv_pop hx hb d_N_writeBody_32 rfl ?_
    refine lv_goto (tgt := 46) hx hb d_N_writeBody_33 (by decide) ?_
    refine k46 u H locs ls (by rw [if_neg hz]; exact ht) hl (by rw [if_neg hz]; exact hst)
theorem cN_writeBody2 (l : Launch) (dC : Nat → ClassId) (dI : Nat → Nat → Nat) (tk : Nat → ClassId) (A : Nat → Prop) (hN : Nat) (LN : Nat → Nat) (gN : aG) (aN : aA) (u : sbS) (rw : va_W) (t : List Int32) (ht : sbT t u) (k : Nat) (hk : k < 60) (b1 b2 : Bool) (w1 w2 : Nat) (hw1 : w1 < 10 ^ 9) (hw2 : w2 < 10 ^ 9) (hb1 : b1 = true → 1 ≤ w1) (hb2 : b2 = true → 1 ≤ w2) (e1 : aN 0 k = sg b1 w1) (e2 : aN 3 k = sg b2 w2) (B : List Int32) (hB : (bdy t (aN 1 k) (aN 2 k) (dTw b1 w1) (dTw b2 w2)) = B) (hc : B.length ≤ 34) : CtM l dC dI tk A ⟨"EditorServer$Answers", "writeBody", "(I)V"⟩ prog_2_method_7_code 2 none 6 220 5 170 [.ref hN, .int (nI k)] (oW 9 hN ksN spN tk LN gN aN (sbW (LN 4) tk u t.length rw)) (QVp dC dI A (fun u2 : sbS => sbT B u2) (fun u2 => (oW 9 hN ksN spN tk LN gN aN (sbW (LN 4) tk u2 B.length rw)))) := by
  subst hB
  exact cN_writeBody l dC dI tk A hN LN gN aN u rw t ht k hk b1 b2 w1 w2 hw1 hw2 hb1 hb2 e1 e2 hc
def fchr (F : List Int32) (i : Int32) : Int32 := if i < 0 then 0 else if nI F.length ≤ i then 0 else F.getD i.toNatClampNeg 0
/-- the text of a response's frame -/
def frmT (wi wr : Int32) (n1 n2 : List Int32) : List Int32 := bdy (([] ++ dTw false (bdy [] wi wr n1 n2).length) ++ [nI 58]) wi wr n1 n2
def ascT (F : List Int32) : Prop := ∀ k, k < F.length → ∃ x, x < 128 ∧ F.getD k 0 = nI x
theorem d_N_frameCharacter_0 : decode prog_2_method_6_code 0 = .ok (.aload_n 0, 1) := by decide +kernel
theorem d_N_frameCharacter_1 : decode prog_2_method_6_code 1 = .ok (.getfield 26, 3) := by decide +kernel
theorem d_N_frameCharacter_4 : decode prog_2_method_6_code 4 = .ok (.iconst 0, 1) := by decide +kernel
theorem d_N_frameCharacter_5 : decode prog_2_method_6_code 5 = .ok (.invokevirtual 38, 3) := by decide +kernel
theorem d_N_frameCharacter_8 : decode prog_2_method_6_code 8 = .ok (.aload_n 0, 1) := by decide +kernel
theorem d_N_frameCharacter_9 : decode prog_2_method_6_code 9 = .ok (.iload_n 1, 1) := by decide +kernel
theorem d_N_frameCharacter_10 : decode prog_2_method_6_code 10 = .ok (.invokevirtual 42, 3) := by decide +kernel
theorem d_N_frameCharacter_13 : decode prog_2_method_6_code 13 = .ok (.aload_n 0, 1) := by decide +kernel
theorem d_N_frameCharacter_14 : decode prog_2_method_6_code 14 = .ok (.getfield 26, 3) := by decide +kernel
theorem d_N_frameCharacter_17 : decode prog_2_method_6_code 17 = .ok (.invokevirtual 45, 3) := by decide +kernel
theorem d_N_frameCharacter_20 : decode prog_2_method_6_code 20 = .ok (.istore_n 3, 1) := by decide +kernel
theorem d_N_frameCharacter_21 : decode prog_2_method_6_code 21 = .ok (.aload_n 0, 1) := by decide +kernel
theorem d_N_frameCharacter_22 : decode prog_2_method_6_code 22 = .ok (.getfield 26, 3) := by decide +kernel
theorem d_N_frameCharacter_25 : decode prog_2_method_6_code 25 = .ok (.iconst 0, 1) := by decide +kernel
theorem d_N_frameCharacter_26 : decode prog_2_method_6_code 26 = .ok (.invokevirtual 38, 3) := by decide +kernel
theorem d_N_frameCharacter_29 : decode prog_2_method_6_code 29 = .ok (.aload_n 0, 1) := by decide +kernel
theorem d_N_frameCharacter_30 : decode prog_2_method_6_code 30 = .ok (.getfield 26, 3) := by decide +kernel
theorem d_N_frameCharacter_33 : decode prog_2_method_6_code 33 = .ok (.iload_n 3, 1) := by decide +kernel
theorem d_N_frameCharacter_34 : decode prog_2_method_6_code 34 = .ok (.invokevirtual 49, 3) := by decide +kernel
theorem d_N_frameCharacter_37 : decode prog_2_method_6_code 37 = .ok (.pop, 1) := by decide +kernel
theorem d_N_frameCharacter_38 : decode prog_2_method_6_code 38 = .ok (.aload_n 0, 1) := by decide +kernel
theorem d_N_frameCharacter_39 : decode prog_2_method_6_code 39 = .ok (.getfield 26, 3) := by decide +kernel
theorem d_N_frameCharacter_42 : decode prog_2_method_6_code 42 = .ok (.bipush 58, 2) := by decide +kernel
theorem d_N_frameCharacter_44 : decode prog_2_method_6_code 44 = .ok (.invokevirtual 53, 3) := by decide +kernel
theorem d_N_frameCharacter_47 : decode prog_2_method_6_code 47 = .ok (.pop, 1) := by decide +kernel
theorem d_N_frameCharacter_48 : decode prog_2_method_6_code 48 = .ok (.aload_n 0, 1) := by decide +kernel
theorem d_N_frameCharacter_49 : decode prog_2_method_6_code 49 = .ok (.iload_n 1, 1) := by decide +kernel
theorem d_N_frameCharacter_50 : decode prog_2_method_6_code 50 = .ok (.invokevirtual 42, 3) := by decide +kernel
theorem d_N_frameCharacter_53 : decode prog_2_method_6_code 53 = .ok (.iload_n 2, 1) := by decide +kernel
theorem d_N_frameCharacter_54 : decode prog_2_method_6_code 54 = .ok (.ifCond .lt 25, 3) := by decide +kernel
theorem d_N_frameCharacter_57 : decode prog_2_method_6_code 57 = .ok (.iload_n 2, 1) := by decide +kernel
theorem d_N_frameCharacter_58 : decode prog_2_method_6_code 58 = .ok (.aload_n 0, 1) := by decide +kernel
theorem d_N_frameCharacter_59 : decode prog_2_method_6_code 59 = .ok (.getfield 26, 3) := by decide +kernel
theorem d_N_frameCharacter_62 : decode prog_2_method_6_code 62 = .ok (.invokevirtual 45, 3) := by decide +kernel
theorem d_N_frameCharacter_65 : decode prog_2_method_6_code 65 = .ok (.if_icmp .ge 14, 3) := by decide +kernel
theorem d_N_frameCharacter_68 : decode prog_2_method_6_code 68 = .ok (.aload_n 0, 1) := by decide +kernel
theorem d_N_frameCharacter_69 : decode prog_2_method_6_code 69 = .ok (.getfield 26, 3) := by decide +kernel
theorem d_N_frameCharacter_72 : decode prog_2_method_6_code 72 = .ok (.iload_n 2, 1) := by decide +kernel
theorem d_N_frameCharacter_73 : decode prog_2_method_6_code 73 = .ok (.invokevirtual 56, 3) := by decide +kernel
theorem d_N_frameCharacter_76 : decode prog_2_method_6_code 76 = .ok (.goto 4, 3) := by decide +kernel
theorem d_N_frameCharacter_79 : decode prog_2_method_6_code 79 = .ok (.iconst 0, 1) := by decide +kernel
theorem d_N_frameCharacter_80 : decode prog_2_method_6_code 80 = .ok (.ireturn, 1) := by decide +kernel
set_option maxHeartbeats 1000000 in
theorem cN_frameCharacter (l : Launch) (dC : Nat → ClassId) (dI : Nat → Nat → Nat) (tk : Nat → ClassId) (A : Nat → Prop) (hN : Nat) (LN : Nat → Nat) (gN : aG) (aN : aA) (u : sbS) (rw : va_W) (t : List Int32) (ht : sbT t u) (v : Int32) (k : Nat) (hk : k < 60) (b1 b2 : Bool) (w1 w2 : Nat) (hw1 : w1 < 10 ^ 9) (hw2 : w2 < 10 ^ 9) (hb1 : b1 = true → 1 ≤ w1) (hb2 : b2 = true → 1 ≤ w2) (e1 : aN 0 k = sg b1 w1) (e2 : aN 3 k = sg b2 w2) (B0 F : List Int32) (hB0 : (bdy [] (aN 1 k) (aN 2 k) (dTw b1 w1) (dTw b2 w2)) = B0) (hF : (bdy (([] ++ dTw false B0.length) ++ [nI 58]) (aN 1 k) (aN 2 k) (dTw b1 w1) (dTw b2 w2)) = F) (hc : F.length ≤ 34) (hasc : ascT F) : CtM l dC dI tk A ⟨"EditorServer$Answers", "frameCharacter", "(II)C"⟩ prog_2_method_6_code 4 (some .char) 7 250 14 476 [.ref hN, .int (nI k), .int v] (oW 9 hN ksN spN tk LN gN aN (sbW (LN 4) tk u t.length rw)) (QIp dC dI A (fun u2 : sbS => sbT F u2) (fchr F v) (fun u2 => (oW 9 hN ksN spN tk LN gN aN (sbW (LN 4) tk u2 F.length rw)))) := by
  refine entN (by decide) (Nat.le_of_ble_eq_true rfl) ?_
  intro p e s m args below meth c hx hb hr hml hown hlk hin hG hg hst ls hl
  have hl : lv_has ls 4 [(0, .ref hN), (1, .int (nI k)), (2, .int v)] := hl
  have hlF : F.length = (([] ++ dTw false B0.length) ++ [nI 58]).length + 6 + (if aN 1 k = 0 then stT 26 else dTw b1 w1).length + (stT (if aN 2 k = 0 then 28 else 27)).length + (dTw b2 w2).length + 1 := by rw [← hF]; exact bdy_len _ _ _ _ _
  have hlB : B0.length = ([] : List Int32).length + 6 + (if aN 1 k = 0 then stT 26 else dTw b1 w1).length + (stT (if aN 2 k = 0 then 28 else 27)).length + (dTw b2 w2).length + 1 := by rw [← hB0]; exact bdy_len _ _ _ _ _
  have hl0 : ([] : List Int32).length = 0 := rfl
  have hc0 : B0.length ≤ 34 := by omega
  obtain ⟨H, hH⟩ : ∃ H, H = s.heap := ⟨_, rfl⟩
  obtain ⟨locs, hlc⟩ : ∃ locs : List Loc, locs = [] := ⟨_, rfl⟩
  have hst : St dC dI A s.heap H locs (oW 9 hN ksN spN tk LN gN aN (sbW (LN 4) tk u t.length rw)) := by rw [hH, hlc]; exact hst
  suffices hw : W p l e (rmn 7 250 14 476) s m args below meth c H locs 0 0 (MQ below (QIp dC dI A (fun u2 : sbS => sbT F u2) (fchr F v) (fun u2 => (oW 9 hN ksN spN tk LN gN aN (sbW (LN 4) tk u2 F.length rw)))) args s 14 476 A) (F0 m 0 ls []) by rw [hH, hlc] at hw; exact hw
  refine lv_aload_n hx hb d_N_frameCharacter_0 rfl (lv_at hl 0 rfl) ?_
  refine ro_geta hx hb hown hG hg cN hst 4 4 (by decide) rfl rfl k_268 d_N_frameCharacter_1 ?_
  refine lv_iconst (v := 0) hx hb d_N_frameCharacter_4 (by decide) ?_
  have hst : St dC dI A s.heap H locs (sbW (LN 4) tk u t.length ((oX 9 hN ksN spN tk LN gN aN) ++ rw)) := gr1 (a := (oX 9 hN ksN spN tk LN gN aN)) (b := (sbX (LN 4) tk u t.length)) (r := rw) hst
  refine bk_v (g := F0 m 0 ls []) (cm_run (nn := 1) (As := [.int 0]) hx hb hml hown hG hg (c_ts l dC dI tk A (LN 4) u ((oX 9 hN ksN spN tk LN gN aN) ++ rw) t ht) (cwX 1 hG k_800 k_801 k_802 k_11 k_803 (by decide +kernel) ⟨by decide, by decide⟩) hst cB.1 (q0 := 0) rfl rfl hl.1 rfl (Nat.le_of_ble_eq_true rfl) ⟨by decide, by decide⟩ d_N_frameCharacter_5) hst (fun u H locs ht hst => ?_)
  refine W.cs (cells' := 1) (slots' := 34) rfl rfl ?_
  have hst : St dC dI A s.heap H locs (oW 9 hN ksN spN tk LN gN aN (sbW (LN 4) tk u ([] : List Int32).length rw)) := gr1 (a := (sbX (LN 4) tk u ([] : List Int32).length)) (b := (oX 9 hN ksN spN tk LN gN aN)) (r := rw) hst
  refine lv_aload_n hx hb d_N_frameCharacter_8 rfl (lv_at hl 0 rfl) ?_
  refine lv_iload_n hx hb d_N_frameCharacter_9 rfl (lv_at hl 1 rfl) ?_
  refine bk_v (g := F0 m 0 ls []) (cm_run (nn := 1) (As := [.int (nI k)]) hx hb hml hown hG hg (cN_writeBody2 l dC dI tk A hN LN gN aN u rw [] ht k hk b1 b2 w1 w2 hw1 hw2 hb1 hb2 e1 e2 B0 hB0 hc0) (cw_v 1 hG k_854 k_856 s_25 k_9 k_857 (by decide +kernel) ⟨by decide, by decide⟩) hst cN.1 (q0 := 0) rfl rfl hl.1 rfl (Nat.le_of_ble_eq_true rfl) ⟨by decide, by decide⟩ d_N_frameCharacter_10) hst (fun u H locs ht hst => ?_)
  refine W.cs (cells' := 6) (slots' := 204) rfl rfl ?_
  refine lv_aload_n hx hb d_N_frameCharacter_13 rfl (lv_at hl 0 rfl) ?_
  refine ro_geta hx hb hown hG hg cN hst 4 4 (by decide) rfl rfl k_268 d_N_frameCharacter_14 ?_
  have hst : St dC dI A s.heap H locs (sbW (LN 4) tk u B0.length ((oX 9 hN ksN spN tk LN gN aN) ++ rw)) := gr1 (a := (oX 9 hN ksN spN tk LN gN aN)) (b := (sbX (LN 4) tk u B0.length)) (r := rw) hst
  refine bk_i (cm_run (nn := 0) (As := []) hx hb hml hown hG hg (c_tq l dC dI tk A (LN 4) u B0.length ((oX 9 hN ksN spN tk LN gN aN) ++ rw)) (cwX 0 hG k_961 k_962 k_963 k_11 k_964 (by decide +kernel) ⟨by decide, by decide⟩) hst cB.1 (q0 := 0) rfl rfl hl.1 rfl (Nat.le_of_ble_eq_true rfl) ⟨by decide, by decide⟩ d_N_frameCharacter_17) hst (fun _ H locs _ hst => ?_)
  refine W.cs (cells' := 6) (slots' := 204) rfl rfl ?_
  have hst : St dC dI A s.heap H locs (oW 9 hN ksN spN tk LN gN aN (sbW (LN 4) tk u B0.length rw)) := gr1 (a := (sbX (LN 4) tk u B0.length)) (b := (oX 9 hN ksN spN tk LN gN aN)) (r := rw) hst
  refine lv_istore_n (lv' := [(3, .int (nI B0.length)), (0, .ref hN), (1, .int (nI k)), (2, .int v)]) hx hb d_N_frameCharacter_20 rfl hl (by decide) rfl (fun ls hl => ?_)
  refine lv_aload_n hx hb d_N_frameCharacter_21 rfl (lv_at hl 1 rfl) ?_
  refine ro_geta hx hb hown hG hg cN hst 4 4 (by decide) rfl rfl k_268 d_N_frameCharacter_22 ?_
  refine lv_iconst (v := 0) hx hb d_N_frameCharacter_25 (by decide) ?_
  have hst : St dC dI A s.heap H locs (sbW (LN 4) tk u B0.length ((oX 9 hN ksN spN tk LN gN aN) ++ rw)) := gr1 (a := (oX 9 hN ksN spN tk LN gN aN)) (b := (sbX (LN 4) tk u B0.length)) (r := rw) hst
  refine bk_v (g := F0 m 0 ls []) (cm_run (nn := 1) (As := [.int 0]) hx hb hml hown hG hg (c_ts l dC dI tk A (LN 4) u ((oX 9 hN ksN spN tk LN gN aN) ++ rw) B0 ht) (cwX 1 hG k_800 k_801 k_802 k_11 k_803 (by decide +kernel) ⟨by decide, by decide⟩) hst cB.1 (q0 := 0) rfl rfl hl.1 rfl (Nat.le_of_ble_eq_true rfl) ⟨by decide, by decide⟩ d_N_frameCharacter_26) hst (fun u H locs ht hst => ?_)
  refine W.cs (cells' := 7) (slots' := 238) rfl rfl ?_
  have hst : St dC dI A s.heap H locs (oW 9 hN ksN spN tk LN gN aN (sbW (LN 4) tk u ([] : List Int32).length rw)) := gr1 (a := (sbX (LN 4) tk u ([] : List Int32).length)) (b := (oX 9 hN ksN spN tk LN gN aN)) (r := rw) hst
  refine lv_aload_n hx hb d_N_frameCharacter_29 rfl (lv_at hl 1 rfl) ?_
  refine ro_geta hx hb hown hG hg cN hst 4 4 (by decide) rfl rfl k_268 d_N_frameCharacter_30 ?_
  refine lv_iload_n hx hb d_N_frameCharacter_33 rfl (lv_at hl 0 rfl) ?_
  have hl8 : (([] ++ dTw false B0.length) ++ [nI 58]).length = ([] ++ dTw false B0.length).length + 1 := List.length_append
  have hl7 : ([] ++ dTw false B0.length).length = ([] : List Int32).length + (dTw false B0.length).length := List.length_append
  have hst : St dC dI A s.heap H locs (sbW (LN 4) tk u ([] : List Int32).length ((oX 9 hN ksN spN tk LN gN aN) ++ rw)) := gr1 (a := (oX 9 hN ksN spN tk LN gN aN)) (b := (sbX (LN 4) tk u ([] : List Int32).length)) (r := rw) hst
  refine bk_r (cm_run (nn := 1) (As := [.int (nI B0.length)]) hx hb hml hown hG hg (c_tn l dC dI tk A (LN 4) u ((oX 9 hN ksN spN tk LN gN aN) ++ rw) [] ht false B0.length (by omega) (fun h9 => by cases h9) (by omega)) (cwX 1 hG k_920 k_921 k_922 k_11 k_923 (by decide +kernel) ⟨by decide, by decide⟩) hst cB.1 (q0 := 0) rfl rfl hl.1 rfl (Nat.le_of_ble_eq_true rfl) ⟨by decide, by decide⟩ d_N_frameCharacter_34) hst (fun u H locs ht hst => ?_)
  refine W.cs (cells' := 8) (slots' := 272) rfl rfl ?_
  have hst : St dC dI A s.heap H locs (oW 9 hN ksN spN tk LN gN aN (sbW (LN 4) tk u ([] ++ dTw false B0.length).length rw)) := gr1 (a := (sbX (LN 4) tk u ([] ++ dTw false B0.length).length)) (b := (oX 9 hN ksN spN tk LN gN aN)) (r := rw) hst
  refine lv_pop hx hb d_N_frameCharacter_37 rfl ?_
  refine lv_aload_n hx hb d_N_frameCharacter_38 rfl (lv_at hl 1 rfl) ?_
  refine ro_geta hx hb hown hG hg cN hst 4 4 (by decide) rfl rfl k_268 d_N_frameCharacter_39 ?_
  refine lv_bipush (v := 58) hx hb d_N_frameCharacter_42 (by decide) ?_
  have hst : St dC dI A s.heap H locs (sbW (LN 4) tk u ([] ++ dTw false B0.length).length ((oX 9 hN ksN spN tk LN gN aN) ++ rw)) := gr1 (a := (oX 9 hN ksN spN tk LN gN aN)) (b := (sbX (LN 4) tk u ([] ++ dTw false B0.length).length)) (r := rw) hst
  refine bk_r (cm_run (nn := 1) (As := [.int (nI 58)]) hx hb hml hown hG hg (c_td l dC dI tk A (LN 4) u ((oX 9 hN ksN spN tk LN gN aN) ++ rw) ([] ++ dTw false B0.length) ht 58 (by decide) (by omega)) (cwX 1 hG k_948 k_949 k_950 k_11 k_951 (by decide +kernel) ⟨by decide, by decide⟩) hst cB.1 (q0 := 0) rfl rfl hl.1 rfl (Nat.le_of_ble_eq_true rfl) ⟨by decide, by decide⟩ d_N_frameCharacter_44) hst (fun u H locs ht hst => ?_)
  refine W.cs (cells' := 9) (slots' := 306) rfl rfl ?_
  have hst : St dC dI A s.heap H locs (oW 9 hN ksN spN tk LN gN aN (sbW (LN 4) tk u (([] ++ dTw false B0.length) ++ [nI 58]).length rw)) := gr1 (a := (sbX (LN 4) tk u (([] ++ dTw false B0.length) ++ [nI 58]).length)) (b := (oX 9 hN ksN spN tk LN gN aN)) (r := rw) hst
  refine lv_pop hx hb d_N_frameCharacter_47 rfl ?_
  refine lv_aload_n hx hb d_N_frameCharacter_48 rfl (lv_at hl 1 rfl) ?_
  refine lv_iload_n hx hb d_N_frameCharacter_49 rfl (lv_at hl 2 rfl) ?_
  refine bk_v (g := F0 m 0 ls []) (cm_run (nn := 1) (As := [.int (nI k)]) hx hb hml hown hG hg (cN_writeBody2 l dC dI tk A hN LN gN aN u rw (([] ++ dTw false B0.length) ++ [nI 58]) ht k hk b1 b2 w1 w2 hw1 hw2 hb1 hb2 e1 e2 F hF hc) (cw_v 1 hG k_854 k_856 s_25 k_9 k_857 (by decide +kernel) ⟨by decide, by decide⟩) hst cN.1 (q0 := 0) rfl rfl hl.1 rfl (Nat.le_of_ble_eq_true rfl) ⟨by decide, by decide⟩ d_N_frameCharacter_50) hst (fun u H locs ht hst => ?_)
  refine W.cs (cells' := 14) (slots' := 476) rfl rfl ?_
  have ht : sbT F u := ht
  have hst : St dC dI A s.heap H locs (oW 9 hN ksN spN tk LN gN aN (sbW (LN 4) tk u F.length rw)) := hst
  refine lv_iload_n hx hb d_N_frameCharacter_53 rfl (lv_at hl 3 rfl) ?_
  by_cases hv0 : v < 0
  · refine lv_if_lt (tgt := 79) hx hb d_N_frameCharacter_54 (by decide) (fun _ => ?_) (fun h9 => absurd hv0 h9)
    refine lv_iconst (v := 0) hx hb d_N_frameCharacter_79 (by decide) ?_
    exact rp_i (u := u) (wf := (fun u2 => (oW 9 hN ksN spN tk LN gN aN (sbW (LN 4) tk u2 F.length rw)))) hx hb hr hlk (by decide) hst ht (by unfold fchr; rw [if_pos hv0]) d_N_frameCharacter_80
  · refine lv_if_lt (tgt := 79) hx hb d_N_frameCharacter_54 (by decide) (fun h9 => absurd h9 hv0) (fun _ => ?_)
    refine lv_iload_n hx hb d_N_frameCharacter_57 rfl (lv_at hl 3 rfl) ?_
    refine lv_aload_n hx hb d_N_frameCharacter_58 rfl (lv_at hl 1 rfl) ?_
    refine ro_geta hx hb hown hG hg cN hst 4 4 (by decide) rfl rfl k_268 d_N_frameCharacter_59 ?_
    have hst : St dC dI A s.heap H locs (sbW (LN 4) tk u F.length ((oX 9 hN ksN spN tk LN gN aN) ++ rw)) := gr1 (a := (oX 9 hN ksN spN tk LN gN aN)) (b := (sbX (LN 4) tk u F.length)) (r := rw) hst
    refine bk_i (cm_run (nn := 0) (As := []) hx hb hml hown hG hg (c_tq l dC dI tk A (LN 4) u F.length ((oX 9 hN ksN spN tk LN gN aN) ++ rw)) (cwX 0 hG k_961 k_962 k_963 k_11 k_964 (by decide +kernel) ⟨by decide, by decide⟩) hst cB.1 (q0 := 0) rfl rfl hl.1 rfl (Nat.le_of_ble_eq_true rfl) ⟨by decide, by decide⟩ d_N_frameCharacter_62) hst (fun _ H locs _ hst => ?_)
    refine W.cs (cells' := 14) (slots' := 476) rfl rfl ?_
    have hst : St dC dI A s.heap H locs (oW 9 hN ksN spN tk LN gN aN (sbW (LN 4) tk u F.length rw)) := gr1 (a := (sbX (LN 4) tk u F.length)) (b := (oX 9 hN ksN spN tk LN gN aN)) (r := rw) hst
    by_cases hv1 : nI F.length ≤ v
    · refine lv_icmp_ge (tgt := 79) hx hb d_N_frameCharacter_65 (by decide) (fun _ => ?_) (fun h9 => absurd hv1 h9)
      refine lv_iconst (v := 0) hx hb d_N_frameCharacter_79 (by decide) ?_
      exact rp_i (u := u) (wf := (fun u2 => (oW 9 hN ksN spN tk LN gN aN (sbW (LN 4) tk u2 F.length rw)))) hx hb hr hlk (by decide) hst ht (by unfold fchr; rw [if_neg hv0, if_pos hv1]) d_N_frameCharacter_80
    · refine lv_icmp_ge (tgt := 79) hx hb d_N_frameCharacter_65 (by decide) (fun h9 => absurd h9 hv1) (fun _ => ?_)
      obtain ⟨j, hj, rfl⟩ := nI_of hv0
      have hjl : j < F.length := by rw [nI_leI (by omega) hj] at hv1; omega
      obtain ⟨x, hx1, hxv⟩ := hasc j hjl
      refine lv_aload_n hx hb d_N_frameCharacter_68 rfl (lv_at hl 1 rfl) ?_
      refine ro_geta hx hb hown hG hg cN hst 4 4 (by decide) rfl rfl k_268 d_N_frameCharacter_69 ?_
      refine lv_iload_n hx hb d_N_frameCharacter_72 rfl (lv_at hl 3 rfl) ?_
      have hst : St dC dI A s.heap H locs (sbW (LN 4) tk u F.length ((oX 9 hN ksN spN tk LN gN aN) ++ rw)) := gr1 (a := (oX 9 hN ksN spN tk LN gN aN)) (b := (sbX (LN 4) tk u F.length)) (r := rw) hst
      refine bk_i (cm_run (nn := 1) (As := [.int (nI j)]) hx hb hml hown hG hg (c_tz l dC dI tk A (LN 4) u ((oX 9 hN ksN spN tk LN gN aN) ++ rw) F ht j x hjl hx1 hxv) (cwX 1 hG k_968 k_969 k_970 k_11 k_971 (by decide +kernel) ⟨by decide, by decide⟩) hst cB.1 (q0 := 0) rfl rfl hl.1 rfl (Nat.le_of_ble_eq_true rfl) ⟨by decide, by decide⟩ d_N_frameCharacter_73) hst (fun _ H locs _ hst => ?_)
      refine W.cs (cells' := 14) (slots' := 476) rfl rfl ?_
      have hst : St dC dI A s.heap H locs (oW 9 hN ksN spN tk LN gN aN (sbW (LN 4) tk u F.length rw)) := gr1 (a := (sbX (LN 4) tk u F.length)) (b := (oX 9 hN ksN spN tk LN gN aN)) (r := rw) hst
      refine lv_goto (tgt := 80) hx hb d_N_frameCharacter_76 (by decide) ?_
      exact rp_i (u := u) (wf := (fun u2 => (oW 9 hN ksN spN tk LN gN aN (sbW (LN 4) tk u2 F.length rw)))) hx hb hr hlk (okc_n (asc_b x hx1).2.2.2.2).1 hst ht (by unfold fchr; rw [if_neg hv0, if_neg hv1, nI_clamp hj, hxv]) d_N_frameCharacter_80
theorem d_E_writtenR_0 : decode prog_1_method_10_code 0 = .ok (.iload_n 1, 1) := by decide +kernel
theorem d_E_writtenR_1 : decode prog_1_method_10_code 1 = .ok (.ifCond .lt 14, 3) := by decide +kernel
theorem d_E_writtenR_4 : decode prog_1_method_10_code 4 = .ok (.iload_n 1, 1) := by decide +kernel
theorem d_E_writtenR_5 : decode prog_1_method_10_code 5 = .ok (.aload_n 0, 1) := by decide +kernel
theorem d_E_writtenR_6 : decode prog_1_method_10_code 6 = .ok (.getfield 46, 3) := by decide +kernel
theorem d_E_writtenR_9 : decode prog_1_method_10_code 9 = .ok (.getfield 108, 3) := by decide +kernel
theorem d_E_writtenR_12 : decode prog_1_method_10_code 12 = .ok (.if_icmp .lt 11, 3) := by decide +kernel
theorem d_E_writtenR_15 : decode prog_1_method_10_code 15 = .ok (.new 81, 3) := by decide +kernel
theorem d_E_writtenR_18 : decode prog_1_method_10_code 18 = .ok (.dup, 1) := by decide +kernel
theorem d_E_writtenR_19 : decode prog_1_method_10_code 19 = .ok (.invokespecial 83, 3) := by decide +kernel
theorem d_E_writtenR_22 : decode prog_1_method_10_code 22 = .ok (.athrow, 1) := by decide +kernel
theorem d_E_writtenR_23 : decode prog_1_method_10_code 23 = .ok (.aload_n 0, 1) := by decide +kernel
theorem d_E_writtenR_24 : decode prog_1_method_10_code 24 = .ok (.getfield 46, 3) := by decide +kernel
theorem d_E_writtenR_27 : decode prog_1_method_10_code 27 = .ok (.iload_n 1, 1) := by decide +kernel
theorem d_E_writtenR_28 : decode prog_1_method_10_code 28 = .ok (.iload_n 2, 1) := by decide +kernel
theorem d_E_writtenR_29 : decode prog_1_method_10_code 29 = .ok (.invokevirtual 126, 3) := by decide +kernel
theorem d_E_writtenR_32 : decode prog_1_method_10_code 32 = .ok (.ireturn, 1) := by decide +kernel
set_option maxHeartbeats 1000000 in
theorem cE_written (l : Launch) (dC : Nat → ClassId) (dI : Nat → Nat → Nat) (tk : Nat → ClassId) (A : Nat → Prop) (hE : Nat) (LE : Nat → Nat) (gE : aG) (aE : aA) (LN : Nat → Nat) (gN : aG) (aN : aA) (u : sbS) (rw : va_W) (t : List Int32) (ht : sbT t u) (v : Int32) (k : Nat) (hk : k < 60) (b1 b2 : Bool) (w1 w2 : Nat) (hw1 : w1 < 10 ^ 9) (hw2 : w2 < 10 ^ 9) (hb1 : b1 = true → 1 ≤ w1) (hb2 : b2 = true → 1 ≤ w2) (e1 : aN 0 k = sg b1 w1) (e2 : aN 3 k = sg b2 w2) (B0 F : List Int32) (hB0 : (bdy [] (aN 1 k) (aN 2 k) (dTw b1 w1) (dTw b2 w2)) = B0) (hF : (bdy (([] ++ dTw false B0.length) ++ [nI 58]) (aN 1 k) (aN 2 k) (dTw b1 w1) (dTw b2 w2)) = F) (hc : F.length ≤ 34) (hasc : ascT F) (kn : Nat) (hgn : gN 5 = nI kn) (hkn : k < kn) (hkn2 : kn ≤ 60) : CtM l dC dI tk A ⟨"EditorServer", "written", "(II)C"⟩ prog_1_method_10_code 3 (some .char) 8 280 14 476 [.ref hE, .int (nI k), .int v] (oW 1 hE ksE spE tk LE gE aE (oW 9 (LE 4) ksN spN tk LN gN aN (sbW (LN 4) tk u t.length rw))) (QIp dC dI A (fun u2 : sbS => sbT F u2) (fchr F v) (fun u2 => (oW 1 hE ksE spE tk LE gE aE (oW 9 (LE 4) ksN spN tk LN gN aN (sbW (LN 4) tk u2 F.length rw))))) := by
  refine entN (by decide) (Nat.le_of_ble_eq_true rfl) ?_
  intro p e s m args below meth c hx hb hr hml hown hlk hin hG hg hst ls hl
  have hl : lv_has ls 3 [(0, .ref hE), (1, .int (nI k)), (2, .int v)] := hl
  refine lv_iload_n hx hb d_E_writtenR_0 rfl (lv_at hl 1 rfl) ?_
  refine lv_if_lt (tgt := 15) hx hb d_E_writtenR_1 (by decide) (fun h9 => absurd h9 (nI_pos (by omega))) (fun _ => ?_)
  refine lv_iload_n hx hb d_E_writtenR_4 rfl (lv_at hl 1 rfl) ?_
  refine lv_aload_n hx hb d_E_writtenR_5 rfl (lv_at hl 0 rfl) ?_
  refine ro_geta hx hb hown hG hg cE hst 4 4 (by decide) rfl rfl k_288 d_E_writtenR_6 ?_
  have hst : St dC dI A s.heap s.heap [] (oW 9 (LE 4) ksN spN tk LN gN aN (oW 1 hE ksE spE tk LE gE aE (sbW (LN 4) tk u t.length rw))) := fr1 hst
  refine rn_geti hx hb hown hG hg cN hst 5 (by decide) rfl rfl t_270 d_E_writtenR_9 ?_
  refine W.eq (g2 := F0 m 12 ls [.int (nI kn), .int (nI k)]) (by rw [hgn]) ?_
  have hst : St dC dI A s.heap s.heap [] (oW 1 hE ksE spE tk LE gE aE (oW 9 (LE 4) ksN spN tk LN gN aN (sbW (LN 4) tk u t.length rw))) := fr1 hst
  refine lv_icmp_lt (tgt := 23) hx hb d_E_writtenR_12 (by decide) (fun _ => ?_) (fun h9 => absurd (nI_lt hkn (by omega)) h9)
  refine lv_aload_n hx hb d_E_writtenR_23 rfl (lv_at hl 0 rfl) ?_
  refine ro_geta hx hb hown hG hg cE hst 4 4 (by decide) rfl rfl k_288 d_E_writtenR_24 ?_
  refine lv_iload_n hx hb d_E_writtenR_27 rfl (lv_at hl 1 rfl) ?_
  refine lv_iload_n hx hb d_E_writtenR_28 rfl (lv_at hl 2 rfl) ?_
  have hst : St dC dI A s.heap s.heap [] (oW 9 (LE 4) ksN spN tk LN gN aN (sbW (LN 4) tk u t.length ((oX 1 hE ksE spE tk LE gE aE) ++ rw))) := gr2 (a := (sbX (LN 4) tk u t.length)) (b := (oX 1 hE ksE spE tk LE gE aE)) (x := (oX 9 (LE 4) ksN spN tk LN gN aN)) (r := rw) (gr2 (a := (oX 1 hE ksE spE tk LE gE aE)) (b := (oX 9 (LE 4) ksN spN tk LN gN aN)) (x := (sbX (LN 4) tk u t.length)) (r := rw) hst)
  refine bk_i (cm_run (nn := 2) (As := [.int (nI k), .int v]) hx hb hml hown hG hg (cN_frameCharacter l dC dI tk A (LE 4) LN gN aN u ((oX 1 hE ksE spE tk LE gE aE) ++ rw) t ht v k hk b1 b2 w1 w2 hw1 hw2 hb1 hb2 e1 e2 B0 F hB0 hF hc hasc) (cwX 2 hG k_796 k_797 k_798 k_9 k_799 (by decide +kernel) ⟨by decide, by decide⟩) hst cN.1 (q0 := 0) rfl rfl hl.1 rfl (Nat.le_of_ble_eq_true rfl) ⟨by decide, by decide⟩ d_E_writtenR_29) hst (fun u H locs ht hst => ?_)
  refine W.cs (cells' := 14) (slots' := 476) rfl rfl ?_
  have hst : St dC dI A s.heap H locs (oW 1 hE ksE spE tk LE gE aE (oW 9 (LE 4) ksN spN tk LN gN aN (sbW (LN 4) tk u F.length rw))) := gr2 (a := (oX 9 (LE 4) ksN spN tk LN gN aN)) (b := (sbX (LN 4) tk u F.length)) (x := (oX 1 hE ksE spE tk LE gE aE)) (r := rw) hst
  have hok : okc (fchr F v) = true := by
    unfold fchr
    split
    · decide
    · split
      · decide
      · rename_i q1 q2
        obtain ⟨j, hj, rfl⟩ := nI_of q1
        have hjl : j < F.length := by rw [nI_leI (by omega) hj] at q2; omega
        obtain ⟨x, hx1, hxv⟩ := hasc j hjl
        rw [nI_clamp hj, hxv]
        exact (asc_b x hx1).2.2.2.2
  exact rp_i (u := u) (wf := fun u2 => (oW 1 hE ksE spE tk LE gE aE (oW 9 (LE 4) ksN spN tk LN gN aN (sbW (LN 4) tk u2 F.length rw)))) hx hb hr hlk (okc_n hok).1 hst ht rfl d_E_writtenR_32
