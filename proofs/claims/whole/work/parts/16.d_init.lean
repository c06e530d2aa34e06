theorem d_T_init_0 : decode prog_8_method_1_code 0 = .ok (.aload_n 0, 1) := by decide +kernel
theorem d_T_init_1 : decode prog_8_method_1_code 1 = .ok (.invokespecial 3, 3) := by decide +kernel
theorem d_T_init_4 : decode prog_8_method_1_code 4 = .ok (.aload_n 0, 1) := by decide +kernel
theorem d_T_init_5 : decode prog_8_method_1_code 5 = .ok (.bipush 60, 2) := by decide +kernel
theorem d_T_init_7 : decode prog_8_method_1_code 7 = .ok (.newarray .char, 2) := by decide +kernel
theorem d_T_init_9 : decode prog_8_method_1_code 9 = .ok (.putfield 11, 3) := by decide +kernel
theorem d_T_init_12 : decode prog_8_method_1_code 12 = .ok (.return_, 1) := by decide +kernel
set_option maxHeartbeats 4000000 in
set_option maxRecDepth 100000 in
theorem cT_init (l : Launch) (dC : Nat → ClassId) (dI : Nat → Nat → Nat) (tk : Nat → ClassId) (A : Nat → Prop) (h : Nat) (L0 : Nat → Nat) (rw : va_W) : Met l ⟨"EditorServer$Text", "<init>", "()V"⟩ (Cond.code ⟨"EditorServer$Text", "<init>", "()V"⟩ prog_8_method_1_code 1 none :: gW) (rmn 1 20 1 60) (va_Pc [.ref h] (Pr dC dI tk A (oN 6 h ksT spT tk L0 rw 0))) (va_Qv (fun (_ : Nat → Nat) => True) (fun L t => Po dC dI A (oW 6 h ksT spT tk L (fun _ => 0) (fun _ _ => 0) rw) t) A) 1 60 A := by
  refine entN (by decide) (Nat.le_of_ble_eq_true rfl) ?_
  intro p e s m args below meth c hx hb hr hml hown hlk hin hG hg hst ls hl
  have hl : lv_has ls 1 [(0, .ref h)] := hl
  refine lv_aload_n hx hb d_T_init_0 rfl (lv_at hl 0 rfl) ?_
  refine W.objInit hx hb hown (hG _ k_124) (hG _ k_33) (hG _ k_34) rfl (by rw [hml]; exact hl.1) rfl d_T_init_1 (Nat.le_of_ble_eq_true rfl) (Nat.le_of_ble_eq_true rfl) ?_
  refine W.eq (g2 := F0 m 4 ls []) rfl ?_
  refine lv_aload_n hx hb d_T_init_4 rfl (lv_at hl 0 rfl) ?_
  refine lv_bipush (v := 60) hx hb d_T_init_5 (by decide) ?_
  refine ro_arr (at_ := .char) (ty := .char) 1 60 0 0 hx hb hown hin hG hg cT hst rfl rfl (uq (by decide)) rfl k_63 rfl (fun _ _ h9 => h9) (fun _ => rfl) (by decide) (by decide) (by decide) (by decide) (by decide) d_T_init_7 (by decide) rfl rfl rfl (fun _ => rfl) (fun _ => rfl) k_125 d_T_init_9 (fun L1 H locs hst => ?_)
  refine W.cs (cells' := 1) (slots' := 60) rfl rfl ?_
  rw [oN_full (fl (by decide)) (by decide)] at hst
  exact rt_vn (u := L1) (wf := fun L => oW 6 h ksT spT tk L (fun _ => 0) (fun _ _ => 0) rw) hx hb hr hlk hst d_T_init_12
theorem d_F_init_0 : decode prog_5_method_1_code 0 = .ok (.aload_n 0, 1) := by decide +kernel
theorem d_F_init_1 : decode prog_5_method_1_code 1 = .ok (.invokespecial 1, 3) := by decide +kernel
theorem d_F_init_4 : decode prog_5_method_1_code 4 = .ok (.aload_n 0, 1) := by decide +kernel
theorem d_F_init_5 : decode prog_5_method_1_code 5 = .ok (.sipush 200, 3) := by decide +kernel
theorem d_F_init_8 : decode prog_5_method_1_code 8 = .ok (.newarray .char, 2) := by decide +kernel
theorem d_F_init_10 : decode prog_5_method_1_code 10 = .ok (.putfield 9, 3) := by decide +kernel
theorem d_F_init_13 : decode prog_5_method_1_code 13 = .ok (.return_, 1) := by decide +kernel
set_option maxHeartbeats 4000000 in
set_option maxRecDepth 100000 in
theorem cF_init (l : Launch) (dC : Nat → ClassId) (dI : Nat → Nat → Nat) (tk : Nat → ClassId) (A : Nat → Prop) (h : Nat) (L0 : Nat → Nat) (rw : va_W) : Met l ⟨"EditorServer$Frame", "<init>", "()V"⟩ (Cond.code ⟨"EditorServer$Frame", "<init>", "()V"⟩ prog_5_method_1_code 1 none :: gW) (rmn 1 20 1 200) (va_Pc [.ref h] (Pr dC dI tk A (oN 2 h ksF spF tk L0 rw 0))) (va_Qv (fun (_ : Nat → Nat) => True) (fun L t => Po dC dI A (oW 2 h ksF spF tk L (fun _ => 0) (fun _ _ => 0) rw) t) A) 1 200 A := by
  refine entN (by decide) (Nat.le_of_ble_eq_true rfl) ?_
  intro p e s m args below meth c hx hb hr hml hown hlk hin hG hg hst ls hl
  have hl : lv_has ls 1 [(0, .ref h)] := hl
  refine lv_aload_n hx hb d_F_init_0 rfl (lv_at hl 0 rfl) ?_
  refine W.objInit hx hb hown (hG _ k_40) (hG _ k_33) (hG _ k_34) rfl (by rw [hml]; exact hl.1) rfl d_F_init_1 (Nat.le_of_ble_eq_true rfl) (Nat.le_of_ble_eq_true rfl) ?_
  refine W.eq (g2 := F0 m 4 ls []) rfl ?_
  refine lv_aload_n hx hb d_F_init_4 rfl (lv_at hl 0 rfl) ?_
  refine lv_sipush (v := 200) hx hb d_F_init_5 (by decide) ?_
  refine ro_arr (at_ := .char) (ty := .char) 1 200 0 0 hx hb hown hin hG hg cF hst rfl rfl (uq (by decide)) rfl k_63 rfl (fun _ _ h9 => h9) (fun _ => rfl) (by decide) (by decide) (by decide) (by decide) (by decide) d_F_init_8 (by decide) rfl rfl rfl (fun _ => rfl) (fun _ => rfl) k_41 d_F_init_10 (fun L1 H locs hst => ?_)
  refine W.cs (cells' := 1) (slots' := 200) rfl rfl ?_
  rw [oN_full (fl (by decide)) (by decide)] at hst
  exact rt_vn (u := L1) (wf := fun L => oW 2 h ksF spF tk L (fun _ => 0) (fun _ _ => 0) rw) hx hb hr hlk hst d_F_init_13
theorem d_V_init_0 : decode prog_9_method_1_code 0 = .ok (.aload_n 0, 1) := by decide +kernel
theorem d_V_init_1 : decode prog_9_method_1_code 1 = .ok (.invokespecial 3, 3) := by decide +kernel
theorem d_V_init_4 : decode prog_9_method_1_code 4 = .ok (.aload_n 0, 1) := by decide +kernel
theorem d_V_init_5 : decode prog_9_method_1_code 5 = .ok (.bipush 40, 2) := by decide +kernel
theorem d_V_init_7 : decode prog_9_method_1_code 7 = .ok (.newarray .int, 2) := by decide +kernel
theorem d_V_init_9 : decode prog_9_method_1_code 9 = .ok (.putfield 11, 3) := by decide +kernel
theorem d_V_init_12 : decode prog_9_method_1_code 12 = .ok (.aload_n 0, 1) := by decide +kernel
theorem d_V_init_13 : decode prog_9_method_1_code 13 = .ok (.bipush 40, 2) := by decide +kernel
theorem d_V_init_15 : decode prog_9_method_1_code 15 = .ok (.newarray .int, 2) := by decide +kernel
theorem d_V_init_17 : decode prog_9_method_1_code 17 = .ok (.putfield 15, 3) := by decide +kernel
theorem d_V_init_20 : decode prog_9_method_1_code 20 = .ok (.aload_n 0, 1) := by decide +kernel
theorem d_V_init_21 : decode prog_9_method_1_code 21 = .ok (.bipush 40, 2) := by decide +kernel
theorem d_V_init_23 : decode prog_9_method_1_code 23 = .ok (.newarray .int, 2) := by decide +kernel
theorem d_V_init_25 : decode prog_9_method_1_code 25 = .ok (.putfield 18, 3) := by decide +kernel
theorem d_V_init_28 : decode prog_9_method_1_code 28 = .ok (.aload_n 0, 1) := by decide +kernel
theorem d_V_init_29 : decode prog_9_method_1_code 29 = .ok (.bipush 40, 2) := by decide +kernel
theorem d_V_init_31 : decode prog_9_method_1_code 31 = .ok (.newarray .int, 2) := by decide +kernel
theorem d_V_init_33 : decode prog_9_method_1_code 33 = .ok (.putfield 21, 3) := by decide +kernel
theorem d_V_init_36 : decode prog_9_method_1_code 36 = .ok (.aload_n 0, 1) := by decide +kernel
theorem d_V_init_37 : decode prog_9_method_1_code 37 = .ok (.bipush 40, 2) := by decide +kernel
theorem d_V_init_39 : decode prog_9_method_1_code 39 = .ok (.newarray .int, 2) := by decide +kernel
theorem d_V_init_41 : decode prog_9_method_1_code 41 = .ok (.putfield 24, 3) := by decide +kernel
theorem d_V_init_44 : decode prog_9_method_1_code 44 = .ok (.aload_n 0, 1) := by decide +kernel
theorem d_V_init_45 : decode prog_9_method_1_code 45 = .ok (.bipush 40, 2) := by decide +kernel
theorem d_V_init_47 : decode prog_9_method_1_code 47 = .ok (.newarray .int, 2) := by decide +kernel
theorem d_V_init_49 : decode prog_9_method_1_code 49 = .ok (.putfield 27, 3) := by decide +kernel
theorem d_V_init_52 : decode prog_9_method_1_code 52 = .ok (.aload_n 0, 1) := by decide +kernel
theorem d_V_init_53 : decode prog_9_method_1_code 53 = .ok (.bipush 40, 2) := by decide +kernel
theorem d_V_init_55 : decode prog_9_method_1_code 55 = .ok (.newarray .int, 2) := by decide +kernel
theorem d_V_init_57 : decode prog_9_method_1_code 57 = .ok (.putfield 30, 3) := by decide +kernel
theorem d_V_init_60 : decode prog_9_method_1_code 60 = .ok (.aload_n 0, 1) := by decide +kernel
theorem d_V_init_61 : decode prog_9_method_1_code 61 = .ok (.sipush 200, 3) := by decide +kernel
theorem d_V_init_64 : decode prog_9_method_1_code 64 = .ok (.newarray .char, 2) := by decide +kernel
theorem d_V_init_66 : decode prog_9_method_1_code 66 = .ok (.putfield 35, 3) := by decide +kernel
theorem d_V_init_69 : decode prog_9_method_1_code 69 = .ok (.aload_n 0, 1) := by decide +kernel
theorem d_V_init_70 : decode prog_9_method_1_code 70 = .ok (.aload_n 1, 1) := by decide +kernel
theorem d_V_init_71 : decode prog_9_method_1_code 71 = .ok (.putfield 39, 3) := by decide +kernel
theorem d_V_init_74 : decode prog_9_method_1_code 74 = .ok (.return_, 1) := by decide +kernel
set_option maxHeartbeats 4000000 in
set_option maxRecDepth 100000 in
theorem cV_init (l : Launch) (dC : Nat → ClassId) (dI : Nat → Nat → Nat) (tk : Nat → ClassId) (A : Nat → Prop) (h : Nat) (q : Nat) (L0 : Nat → Nat) (rw : va_W) : Met l ⟨"EditorServer$Values", "<init>", "([C)V"⟩ (Cond.code ⟨"EditorServer$Values", "<init>", "([C)V"⟩ prog_9_method_1_code 2 none :: gW) (rmn 1 20 8 480) (va_Pc [.ref h, .ref q] (Pr dC dI tk A (oN 3 h ksV spV8 tk L0 rw 0))) (va_Qv (fun (L : Nat → Nat) => True) (fun L t => Po dC dI A (oW 3 h ksV spV8 tk (va_up L 8 q) (fun _ => 0) (fun _ _ => 0) rw) t) A) 8 480 A := by
  refine entN (by decide) (Nat.le_of_ble_eq_true rfl) ?_
  intro p e s m args below meth c hx hb hr hml hown hlk hin hG hg hst ls hl
  have hl : lv_has ls 2 [(0, .ref h), (1, .ref q)] := hl
  refine lv_aload_n hx hb d_V_init_0 rfl (lv_at hl 0 rfl) ?_
  refine W.objInit hx hb hown (hG _ k_69) (hG _ k_33) (hG _ k_34) rfl (by rw [hml]; exact hl.1) rfl d_V_init_1 (Nat.le_of_ble_eq_true rfl) (Nat.le_of_ble_eq_true rfl) ?_
  refine W.eq (g2 := F0 m 4 ls []) rfl ?_
  refine lv_aload_n hx hb d_V_init_4 rfl (lv_at hl 0 rfl) ?_
  refine lv_bipush (v := 40) hx hb d_V_init_5 (by decide) ?_
  refine ro_arr (at_ := .int) (ty := .int) 0 40 0 0 hx hb hown hin hG hg cV hst rfl rfl (uq (by decide)) rfl k_110 rfl (fun _ _ h9 => h9) (fun _ => rfl) (by decide) (by decide) (by decide) (by decide) (by decide) d_V_init_7 (by decide) rfl rfl rfl (fun _ => rfl) (fun _ => rfl) k_70 d_V_init_9 (fun L1 H locs hst => ?_)
  refine W.cs (cells' := 1) (slots' := 40) rfl rfl ?_
  refine lv_aload_n hx hb d_V_init_12 rfl (lv_at hl 0 rfl) ?_
  refine lv_bipush (v := 40) hx hb d_V_init_13 (by decide) ?_
  refine ro_arr (at_ := .int) (ty := .int) 0 40 1 1 hx hb hown hin hG hg cV hst rfl rfl (uq (by decide)) rfl k_110 rfl (fun _ _ h9 => h9) (fun _ => rfl) (by decide) (by decide) (by decide) (by decide) (by decide) d_V_init_15 (by decide) rfl rfl rfl (fun _ => rfl) (fun _ => rfl) k_71 d_V_init_17 (fun L2 H locs hst => ?_)
  refine W.cs (cells' := 2) (slots' := 80) rfl rfl ?_
  refine lv_aload_n hx hb d_V_init_20 rfl (lv_at hl 0 rfl) ?_
  refine lv_bipush (v := 40) hx hb d_V_init_21 (by decide) ?_
  refine ro_arr (at_ := .int) (ty := .int) 0 40 2 2 hx hb hown hin hG hg cV hst rfl rfl (uq (by decide)) rfl k_110 rfl (fun _ _ h9 => h9) (fun _ => rfl) (by decide) (by decide) (by decide) (by decide) (by decide) d_V_init_23 (by decide) rfl rfl rfl (fun _ => rfl) (fun _ => rfl) k_72 d_V_init_25 (fun L3 H locs hst => ?_)
  refine W.cs (cells' := 3) (slots' := 120) rfl rfl ?_
  refine lv_aload_n hx hb d_V_init_28 rfl (lv_at hl 0 rfl) ?_
  refine lv_bipush (v := 40) hx hb d_V_init_29 (by decide) ?_
  refine ro_arr (at_ := .int) (ty := .int) 0 40 3 3 hx hb hown hin hG hg cV hst rfl rfl (uq (by decide)) rfl k_110 rfl (fun _ _ h9 => h9) (fun _ => rfl) (by decide) (by decide) (by decide) (by decide) (by decide) d_V_init_31 (by decide) rfl rfl rfl (fun _ => rfl) (fun _ => rfl) k_73 d_V_init_33 (fun L4 H locs hst => ?_)
  refine W.cs (cells' := 4) (slots' := 160) rfl rfl ?_
  refine lv_aload_n hx hb d_V_init_36 rfl (lv_at hl 0 rfl) ?_
  refine lv_bipush (v := 40) hx hb d_V_init_37 (by decide) ?_
  refine ro_arr (at_ := .int) (ty := .int) 0 40 4 4 hx hb hown hin hG hg cV hst rfl rfl (uq (by decide)) rfl k_110 rfl (fun _ _ h9 => h9) (fun _ => rfl) (by decide) (by decide) (by decide) (by decide) (by decide) d_V_init_39 (by decide) rfl rfl rfl (fun _ => rfl) (fun _ => rfl) k_74 d_V_init_41 (fun L5 H locs hst => ?_)
  refine W.cs (cells' := 5) (slots' := 200) rfl rfl ?_
  refine lv_aload_n hx hb d_V_init_44 rfl (lv_at hl 0 rfl) ?_
  refine lv_bipush (v := 40) hx hb d_V_init_45 (by decide) ?_
  refine ro_arr (at_ := .int) (ty := .int) 0 40 5 5 hx hb hown hin hG hg cV hst rfl rfl (uq (by decide)) rfl k_110 rfl (fun _ _ h9 => h9) (fun _ => rfl) (by decide) (by decide) (by decide) (by decide) (by decide) d_V_init_47 (by decide) rfl rfl rfl (fun _ => rfl) (fun _ => rfl) k_75 d_V_init_49 (fun L6 H locs hst => ?_)
  refine W.cs (cells' := 6) (slots' := 240) rfl rfl ?_
  refine lv_aload_n hx hb d_V_init_52 rfl (lv_at hl 0 rfl) ?_
  refine lv_bipush (v := 40) hx hb d_V_init_53 (by decide) ?_
  refine ro_arr (at_ := .int) (ty := .int) 0 40 6 6 hx hb hown hin hG hg cV hst rfl rfl (uq (by decide)) rfl k_110 rfl (fun _ _ h9 => h9) (fun _ => rfl) (by decide) (by decide) (by decide) (by decide) (by decide) d_V_init_55 (by decide) rfl rfl rfl (fun _ => rfl) (fun _ => rfl) k_76 d_V_init_57 (fun L7 H locs hst => ?_)
  refine W.cs (cells' := 7) (slots' := 280) rfl rfl ?_
  refine lv_aload_n hx hb d_V_init_60 rfl (lv_at hl 0 rfl) ?_
  refine lv_sipush (v := 200) hx hb d_V_init_61 (by decide) ?_
  refine ro_arr (at_ := .char) (ty := .char) 1 200 7 7 hx hb hown hin hG hg cV hst rfl rfl (uq (by decide)) rfl k_63 rfl (fun _ _ h9 => h9) (fun _ => rfl) (by decide) (by decide) (by decide) (by decide) (by decide) d_V_init_64 (by decide) rfl rfl rfl (fun _ => rfl) (fun _ => rfl) k_77 d_V_init_66 (fun L8 H locs hst => ?_)
  refine W.cs (cells' := 8) (slots' := 480) rfl rfl ?_
  refine lv_aload_n hx hb d_V_init_69 rfl (lv_at hl 0 rfl) ?_
  refine lv_aload_n hx hb d_V_init_70 rfl (lv_at hl 1 rfl) ?_
  refine ro_putF hx hb hown hin hG hg cV hst 8 (by decide) rfl rfl rfl rfl rfl (Nat.le_of_ble_eq_true rfl) k_78 d_V_init_71 (fun H locs hst => ?_)
  have hst : St dC dI A s.heap H locs ((h, .inr (3, oFn ksV (va_up L8 8 q) 9)) :: (oA (spV8.take 8) tk L8 (fun _ _ => 0) ++ rw)) := by rw [← oFn_set (fi := 8) rfl (uq (by decide))]; exact hst
  have hst : St dC dI A s.heap H locs (oW 3 h ksV spV8 tk (va_up L8 8 q) (fun _ => 0) (fun _ _ => 0) rw) := by rw [oFn_full (fl (by decide))] at hst; exact hst
  exact rt_vn (u := L8) (wf := fun L => oW 3 h ksV spV8 tk (va_up L 8 q) (fun _ => 0) (fun _ _ => 0) rw) hx hb hr hlk hst d_V_init_74
