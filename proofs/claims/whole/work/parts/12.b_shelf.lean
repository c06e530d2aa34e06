def mE_state (n : Nat) (gE : aG) (aE : aA) : Option (Int32) := some ((gE 5))
theorem d_E_state_0 : decode prog_1_method_3_code 0 = .ok (.aload_n 0, 1) := by decide +kernel
theorem d_E_state_1 : decode prog_1_method_3_code 1 = .ok (.getfield 50, 3) := by decide +kernel
theorem d_E_state_4 : decode prog_1_method_3_code 4 = .ok (.ireturn, 1) := by decide +kernel
set_option maxHeartbeats 4000000 in
set_option maxRecDepth 100000 in
theorem cE_state (l : Launch) (dC : Nat → ClassId) (dI : Nat → Nat → Nat) (tk : Nat → ClassId) (A : Nat → Prop) (hE : Nat) (LE : Nat → Nat) (gE : aG) (aE : aA) (rw : va_W) (n : Nat) (r0 : Int32) (hm : mE_state n gE aE = some r0) : CtI l dC dI tk A ⟨"EditorServer", "state", "()I"⟩ prog_1_method_3_code 1 (some .int) 0 0 [.ref hE] (oW 1 hE ksE spE tk LE gE aE rw) r0 (oW 1 hE ksE spE tk LE gE aE rw) := by
  refine ent (by decide) (Nat.le_of_ble_eq_true rfl) ?_
  intro p e s m args below meth c hx hb hr hml hown hlk hG hg hst ls hl
  unfold mE_state at hm
  have hl : lv_has ls 1 [(0, .ref hE)] := hl
  obtain ⟨H, hH⟩ : ∃ H, H = s.heap := ⟨_, rfl⟩
  obtain ⟨locs, hlc⟩ : ∃ locs : List Loc, locs = [] := ⟨_, rfl⟩
  have hst : St dC dI A s.heap H locs (oW 1 hE ksE spE tk LE gE aE rw) := by rw [hH, hlc]; exact hst
  suffices hw : W p l e (rmo 0 0) s m args below meth c H locs 0 0 (MQ below (QI dC dI A r0 (oW 1 hE ksE spE tk LE gE aE rw)) args s 0 0 A) (F0 m 0 ls []) by rw [hH, hlc] at hw; exact hw
  refine lv_aload_n hx hb d_E_state_0 rfl (lv_at hl 0 rfl) ?_
  refine ro_geti hx hb hown hG hg cE hst 5 (by decide) rfl rfl k_289 d_E_state_1 ?_
  have hst9 := hst
  have he := (Option.some.inj hm)
  cases he
  exact rt_i hx hb hr hlk rfl hst9 rfl d_E_state_4
def mE_code (n : Nat) (gE : aG) (aE : aA) : Option (Int32) := some ((gE 6))
theorem d_E_code_0 : decode prog_1_method_4_code 0 = .ok (.aload_n 0, 1) := by decide +kernel
theorem d_E_code_1 : decode prog_1_method_4_code 1 = .ok (.getfield 54, 3) := by decide +kernel
theorem d_E_code_4 : decode prog_1_method_4_code 4 = .ok (.ireturn, 1) := by decide +kernel
set_option maxHeartbeats 4000000 in
set_option maxRecDepth 100000 in
theorem cE_code (l : Launch) (dC : Nat → ClassId) (dI : Nat → Nat → Nat) (tk : Nat → ClassId) (A : Nat → Prop) (hE : Nat) (LE : Nat → Nat) (gE : aG) (aE : aA) (rw : va_W) (n : Nat) (r0 : Int32) (hm : mE_code n gE aE = some r0) : CtI l dC dI tk A ⟨"EditorServer", "code", "()I"⟩ prog_1_method_4_code 1 (some .int) 0 0 [.ref hE] (oW 1 hE ksE spE tk LE gE aE rw) r0 (oW 1 hE ksE spE tk LE gE aE rw) := by
  refine ent (by decide) (Nat.le_of_ble_eq_true rfl) ?_
  intro p e s m args below meth c hx hb hr hml hown hlk hG hg hst ls hl
  unfold mE_code at hm
  have hl : lv_has ls 1 [(0, .ref hE)] := hl
  obtain ⟨H, hH⟩ : ∃ H, H = s.heap := ⟨_, rfl⟩
  obtain ⟨locs, hlc⟩ : ∃ locs : List Loc, locs = [] := ⟨_, rfl⟩
  have hst : St dC dI A s.heap H locs (oW 1 hE ksE spE tk LE gE aE rw) := by rw [hH, hlc]; exact hst
  suffices hw : W p l e (rmo 0 0) s m args below meth c H locs 0 0 (MQ below (QI dC dI A r0 (oW 1 hE ksE spE tk LE gE aE rw)) args s 0 0 A) (F0 m 0 ls []) by rw [hH, hlc] at hw; exact hw
  refine lv_aload_n hx hb d_E_code_0 rfl (lv_at hl 0 rfl) ?_
  refine ro_geti hx hb hown hG hg cE hst 6 (by decide) rfl rfl k_290 d_E_code_1 ?_
  have hst9 := hst
  have he := (Option.some.inj hm)
  cases he
  exact rt_i hx hb hr hlk rfl hst9 rfl d_E_code_4
def mE_waiting (n : Nat) (gE : aG) (aE : aA) (gQ : aG) (aQ : aA) : Option (Int32) := some ((gQ 1))
theorem d_E_waiting_0 : decode prog_1_method_5_code 0 = .ok (.aload_n 0, 1) := by decide +kernel
theorem d_E_waiting_1 : decode prog_1_method_5_code 1 = .ok (.getfield 39, 3) := by decide +kernel
theorem d_E_waiting_4 : decode prog_1_method_5_code 4 = .ok (.getfield 78, 3) := by decide +kernel
theorem d_E_waiting_7 : decode prog_1_method_5_code 7 = .ok (.ireturn, 1) := by decide +kernel
set_option maxHeartbeats 4000000 in
set_option maxRecDepth 100000 in
theorem cE_waiting (l : Launch) (dC : Nat → ClassId) (dI : Nat → Nat → Nat) (tk : Nat → ClassId) (A : Nat → Prop) (hE : Nat) (LE : Nat → Nat) (gE : aG) (aE : aA) (LQ : Nat → Nat) (gQ : aG) (aQ : aA) (rw : va_W) (n : Nat) (r0 : Int32) (hm : mE_waiting n gE aE gQ aQ = some r0) : CtI l dC dI tk A ⟨"EditorServer", "waiting", "()I"⟩ prog_1_method_5_code 1 (some .int) 0 0 [.ref hE] (oW 1 hE ksE spE tk LE gE aE (oW 7 (LE 3) ksQ spQ tk LQ gQ aQ rw)) r0 (oW 1 hE ksE spE tk LE gE aE (oW 7 (LE 3) ksQ spQ tk LQ gQ aQ rw)) := by
  refine ent (by decide) (Nat.le_of_ble_eq_true rfl) ?_
  intro p e s m args below meth c hx hb hr hml hown hlk hG hg hst ls hl
  unfold mE_waiting at hm
  have hl : lv_has ls 1 [(0, .ref hE)] := hl
  obtain ⟨H, hH⟩ : ∃ H, H = s.heap := ⟨_, rfl⟩
  obtain ⟨locs, hlc⟩ : ∃ locs : List Loc, locs = [] := ⟨_, rfl⟩
  have hst : St dC dI A s.heap H locs (oW 1 hE ksE spE tk LE gE aE (oW 7 (LE 3) ksQ spQ tk LQ gQ aQ rw)) := by rw [hH, hlc]; exact hst
  suffices hw : W p l e (rmo 0 0) s m args below meth c H locs 0 0 (MQ below (QI dC dI A r0 (oW 1 hE ksE spE tk LE gE aE (oW 7 (LE 3) ksQ spQ tk LQ gQ aQ rw))) args s 0 0 A) (F0 m 0 ls []) by rw [hH, hlc] at hw; exact hw
  refine lv_aload_n hx hb d_E_waiting_0 rfl (lv_at hl 0 rfl) ?_
  refine ro_geta hx hb hown hG hg cE hst 3 3 (by decide) rfl rfl k_287 d_E_waiting_1 ?_
  have hst : St dC dI A s.heap H locs (oW 7 (LE 3) ksQ spQ tk LQ gQ aQ (oW 1 hE ksE spE tk LE gE aE rw)) := gr1 (a := (oX 1 hE ksE spE tk LE gE aE)) (b := (oX 7 (LE 3) ksQ spQ tk LQ gQ aQ)) (r := rw) hst
  refine rn_geti hx hb hown hG hg cQ hst 1 (by decide) rfl rfl t_215 d_E_waiting_4 ?_
  have hst : St dC dI A s.heap H locs (oW 1 hE ksE spE tk LE gE aE (oW 7 (LE 3) ksQ spQ tk LQ gQ aQ rw)) := gr1 (a := (oX 7 (LE 3) ksQ spQ tk LQ gQ aQ)) (b := (oX 1 hE ksE spE tk LE gE aE)) (r := rw) hst
  have hst9 := hst
  have he := (Option.some.inj hm)
  cases he
  exact rt_i hx hb hr hlk rfl hst9 rfl d_E_waiting_7
def mE_responses (n : Nat) (gE : aG) (aE : aA) (gN : aG) (aN : aA) : Option (Int32) := some ((gN 5))
theorem d_E_responses_0 : decode prog_1_method_8_code 0 = .ok (.aload_n 0, 1) := by decide +kernel
theorem d_E_responses_1 : decode prog_1_method_8_code 1 = .ok (.getfield 46, 3) := by decide +kernel
theorem d_E_responses_4 : decode prog_1_method_8_code 4 = .ok (.getfield 108, 3) := by decide +kernel
theorem d_E_responses_7 : decode prog_1_method_8_code 7 = .ok (.ireturn, 1) := by decide +kernel
set_option maxHeartbeats 4000000 in
set_option maxRecDepth 100000 in
theorem cE_responses (l : Launch) (dC : Nat → ClassId) (dI : Nat → Nat → Nat) (tk : Nat → ClassId) (A : Nat → Prop) (hE : Nat) (LE : Nat → Nat) (gE : aG) (aE : aA) (LN : Nat → Nat) (gN : aG) (aN : aA) (rw : va_W) (n : Nat) (r0 : Int32) (hm : mE_responses n gE aE gN aN = some r0) : CtI l dC dI tk A ⟨"EditorServer", "responses", "()I"⟩ prog_1_method_8_code 1 (some .int) 0 0 [.ref hE] (oW 1 hE ksE spE tk LE gE aE (oW 9 (LE 4) ksN spN tk LN gN aN rw)) r0 (oW 1 hE ksE spE tk LE gE aE (oW 9 (LE 4) ksN spN tk LN gN aN rw)) := by
  refine ent (by decide) (Nat.le_of_ble_eq_true rfl) ?_
  intro p e s m args below meth c hx hb hr hml hown hlk hG hg hst ls hl
  unfold mE_responses at hm
  have hl : lv_has ls 1 [(0, .ref hE)] := hl
  obtain ⟨H, hH⟩ : ∃ H, H = s.heap := ⟨_, rfl⟩
  obtain ⟨locs, hlc⟩ : ∃ locs : List Loc, locs = [] := ⟨_, rfl⟩
  have hst : St dC dI A s.heap H locs (oW 1 hE ksE spE tk LE gE aE (oW 9 (LE 4) ksN spN tk LN gN aN rw)) := by rw [hH, hlc]; exact hst
  suffices hw : W p l e (rmo 0 0) s m args below meth c H locs 0 0 (MQ below (QI dC dI A r0 (oW 1 hE ksE spE tk LE gE aE (oW 9 (LE 4) ksN spN tk LN gN aN rw))) args s 0 0 A) (F0 m 0 ls []) by rw [hH, hlc] at hw; exact hw
  refine lv_aload_n hx hb d_E_responses_0 rfl (lv_at hl 0 rfl) ?_
  refine ro_geta hx hb hown hG hg cE hst 4 4 (by decide) rfl rfl k_288 d_E_responses_1 ?_
  have hst : St dC dI A s.heap H locs (oW 9 (LE 4) ksN spN tk LN gN aN (oW 1 hE ksE spE tk LE gE aE rw)) := gr1 (a := (oX 1 hE ksE spE tk LE gE aE)) (b := (oX 9 (LE 4) ksN spN tk LN gN aN)) (r := rw) hst
  refine rn_geti hx hb hown hG hg cN hst 5 (by decide) rfl rfl t_270 d_E_responses_4 ?_
  have hst : St dC dI A s.heap H locs (oW 1 hE ksE spE tk LE gE aE (oW 9 (LE 4) ksN spN tk LN gN aN rw)) := gr1 (a := (oX 9 (LE 4) ksN spN tk LN gN aN)) (b := (oX 1 hE ksE spE tk LE gE aE)) (r := rw) hst
  have hst9 := hst
  have he := (Option.some.inj hm)
  cases he
  exact rt_i hx hb hr hlk rfl hst9 rfl d_E_responses_7
def mE_ignored (n : Nat) (gE : aG) (aE : aA) : Option (Int32) := some ((gE 8))
theorem d_E_ignored_0 : decode prog_1_method_11_code 0 = .ok (.aload_n 0, 1) := by decide +kernel
theorem d_E_ignored_1 : decode prog_1_method_11_code 1 = .ok (.getfield 130, 3) := by decide +kernel
theorem d_E_ignored_4 : decode prog_1_method_11_code 4 = .ok (.ireturn, 1) := by decide +kernel
set_option maxHeartbeats 4000000 in
set_option maxRecDepth 100000 in
theorem cE_ignored (l : Launch) (dC : Nat → ClassId) (dI : Nat → Nat → Nat) (tk : Nat → ClassId) (A : Nat → Prop) (hE : Nat) (LE : Nat → Nat) (gE : aG) (aE : aA) (rw : va_W) (n : Nat) (r0 : Int32) (hm : mE_ignored n gE aE = some r0) : CtI l dC dI tk A ⟨"EditorServer", "ignored", "()I"⟩ prog_1_method_11_code 1 (some .int) 0 0 [.ref hE] (oW 1 hE ksE spE tk LE gE aE rw) r0 (oW 1 hE ksE spE tk LE gE aE rw) := by
  refine ent (by decide) (Nat.le_of_ble_eq_true rfl) ?_
  intro p e s m args below meth c hx hb hr hml hown hlk hG hg hst ls hl
  unfold mE_ignored at hm
  have hl : lv_has ls 1 [(0, .ref hE)] := hl
  obtain ⟨H, hH⟩ : ∃ H, H = s.heap := ⟨_, rfl⟩
  obtain ⟨locs, hlc⟩ : ∃ locs : List Loc, locs = [] := ⟨_, rfl⟩
  have hst : St dC dI A s.heap H locs (oW 1 hE ksE spE tk LE gE aE rw) := by rw [hH, hlc]; exact hst
  suffices hw : W p l e (rmo 0 0) s m args below meth c H locs 0 0 (MQ below (QI dC dI A r0 (oW 1 hE ksE spE tk LE gE aE rw)) args s 0 0 A) (F0 m 0 ls []) by rw [hH, hlc] at hw; exact hw
  refine lv_aload_n hx hb d_E_ignored_0 rfl (lv_at hl 0 rfl) ?_
  refine ro_geti hx hb hown hG hg cE hst 8 (by decide) rfl rfl k_292 d_E_ignored_1 ?_
  have hst9 := hst
  have he := (Option.some.inj hm)
  cases he
  exact rt_i hx hb hr hlk rfl hst9 rfl d_E_ignored_4
def mE_documents (n : Nat) (gE : aG) (aE : aA) (gS : aG) (aS : aA) : Option (Int32) := some ((gS 2))
theorem d_E_documents_0 : decode prog_1_method_12_code 0 = .ok (.aload_n 0, 1) := by decide +kernel
theorem d_E_documents_1 : decode prog_1_method_12_code 1 = .ok (.getfield 32, 3) := by decide +kernel
theorem d_E_documents_4 : decode prog_1_method_12_code 4 = .ok (.getfield 133, 3) := by decide +kernel
theorem d_E_documents_7 : decode prog_1_method_12_code 7 = .ok (.ireturn, 1) := by decide +kernel
set_option maxHeartbeats 4000000 in
set_option maxRecDepth 100000 in
theorem cE_documents (l : Launch) (dC : Nat → ClassId) (dI : Nat → Nat → Nat) (tk : Nat → ClassId) (A : Nat → Prop) (hE : Nat) (LE : Nat → Nat) (gE : aG) (aE : aA) (LS : Nat → Nat) (gS : aG) (aS : aA) (rw : va_W) (n : Nat) (r0 : Int32) (hm : mE_documents n gE aE gS aS = some r0) : CtI l dC dI tk A ⟨"EditorServer", "documents", "()I"⟩ prog_1_method_12_code 1 (some .int) 0 0 [.ref hE] (oW 1 hE ksE spE tk LE gE aE (oW 4 (LE 2) ksS spS tk LS gS aS rw)) r0 (oW 1 hE ksE spE tk LE gE aE (oW 4 (LE 2) ksS spS tk LS gS aS rw)) := by
  refine ent (by decide) (Nat.le_of_ble_eq_true rfl) ?_
  intro p e s m args below meth c hx hb hr hml hown hlk hG hg hst ls hl
  unfold mE_documents at hm
  have hl : lv_has ls 1 [(0, .ref hE)] := hl
  obtain ⟨H, hH⟩ : ∃ H, H = s.heap := ⟨_, rfl⟩
  obtain ⟨locs, hlc⟩ : ∃ locs : List Loc, locs = [] := ⟨_, rfl⟩
  have hst : St dC dI A s.heap H locs (oW 1 hE ksE spE tk LE gE aE (oW 4 (LE 2) ksS spS tk LS gS aS rw)) := by rw [hH, hlc]; exact hst
  suffices hw : W p l e (rmo 0 0) s m args below meth c H locs 0 0 (MQ below (QI dC dI A r0 (oW 1 hE ksE spE tk LE gE aE (oW 4 (LE 2) ksS spS tk LS gS aS rw))) args s 0 0 A) (F0 m 0 ls []) by rw [hH, hlc] at hw; exact hw
  refine lv_aload_n hx hb d_E_documents_0 rfl (lv_at hl 0 rfl) ?_
  refine ro_geta hx hb hown hG hg cE hst 2 2 (by decide) rfl rfl k_286 d_E_documents_1 ?_
  have hst : St dC dI A s.heap H locs (oW 4 (LE 2) ksS spS tk LS gS aS (oW 1 hE ksE spE tk LE gE aE rw)) := gr1 (a := (oX 1 hE ksE spE tk LE gE aE)) (b := (oX 4 (LE 2) ksS spS tk LS gS aS)) (r := rw) hst
  refine rn_geti hx hb hown hG hg cS hst 2 (by decide) rfl rfl t_167 d_E_documents_4 ?_
  have hst : St dC dI A s.heap H locs (oW 1 hE ksE spE tk LE gE aE (oW 4 (LE 2) ksS spS tk LS gS aS rw)) := gr1 (a := (oX 4 (LE 2) ksS spS tk LS gS aS)) (b := (oX 1 hE ksE spE tk LE gE aE)) (r := rw) hst
  have hst9 := hst
  have he := (Option.some.inj hm)
  cases he
  exact rt_i hx hb hr hlk rfl hst9 rfl d_E_documents_7
def mE_kindOf (n : Nat) (v1 : Int32) (gE : aG) (aE : aA) (gV : aG) (aV : aA) : Option (Int32) := bd (mV_spells n 5 v1 gV aV) (fun x1 => if x1 = 0 then (bd (mV_spells n 6 v1 gV aV) (fun x5 => if x5 = 0 then (bd (mV_spells n 7 v1 gV aV) (fun x9 => if x9 = 0 then (bd (mV_spells n 8 v1 gV aV) (fun x13 => if x13 = 0 then (some ((-1))) else (some (3)))) else (some (2)))) else (some (1)))) else (some (0)))
theorem d_E_kindOf_0 : decode prog_1_method_20_code 0 = .ok (.aload_n 0, 1) := by decide +kernel
theorem d_E_kindOf_1 : decode prog_1_method_20_code 1 = .ok (.getfield 25, 3) := by decide +kernel
theorem d_E_kindOf_4 : decode prog_1_method_20_code 4 = .ok (.iload_n 1, 1) := by decide +kernel
theorem d_E_kindOf_5 : decode prog_1_method_20_code 5 = .ok (.ldc 218, 2) := by decide +kernel
theorem d_E_kindOf_7 : decode prog_1_method_20_code 7 = .ok (.invokevirtual 206, 3) := by decide +kernel
theorem d_E_kindOf_10 : decode prog_1_method_20_code 10 = .ok (.ifCond .eq 5, 3) := by decide +kernel
theorem d_E_kindOf_13 : decode prog_1_method_20_code 13 = .ok (.iconst 0, 1) := by decide +kernel
theorem d_E_kindOf_14 : decode prog_1_method_20_code 14 = .ok (.ireturn, 1) := by decide +kernel
theorem d_E_kindOf_15 : decode prog_1_method_20_code 15 = .ok (.aload_n 0, 1) := by decide +kernel
theorem d_E_kindOf_16 : decode prog_1_method_20_code 16 = .ok (.getfield 25, 3) := by decide +kernel
theorem d_E_kindOf_19 : decode prog_1_method_20_code 19 = .ok (.iload_n 1, 1) := by decide +kernel
theorem d_E_kindOf_20 : decode prog_1_method_20_code 20 = .ok (.ldc 220, 2) := by decide +kernel
theorem d_E_kindOf_22 : decode prog_1_method_20_code 22 = .ok (.invokevirtual 206, 3) := by decide +kernel
theorem d_E_kindOf_25 : decode prog_1_method_20_code 25 = .ok (.ifCond .eq 5, 3) := by decide +kernel
theorem d_E_kindOf_28 : decode prog_1_method_20_code 28 = .ok (.iconst 1, 1) := by decide +kernel
theorem d_E_kindOf_29 : decode prog_1_method_20_code 29 = .ok (.ireturn, 1) := by decide +kernel
theorem d_E_kindOf_30 : decode prog_1_method_20_code 30 = .ok (.aload_n 0, 1) := by decide +kernel
theorem d_E_kindOf_31 : decode prog_1_method_20_code 31 = .ok (.getfield 25, 3) := by decide +kernel
theorem d_E_kindOf_34 : decode prog_1_method_20_code 34 = .ok (.iload_n 1, 1) := by decide +kernel
theorem d_E_kindOf_35 : decode prog_1_method_20_code 35 = .ok (.ldc 222, 2) := by decide +kernel
theorem d_E_kindOf_37 : decode prog_1_method_20_code 37 = .ok (.invokevirtual 206, 3) := by decide +kernel
theorem d_E_kindOf_40 : decode prog_1_method_20_code 40 = .ok (.ifCond .eq 5, 3) := by decide +kernel
theorem d_E_kindOf_43 : decode prog_1_method_20_code 43 = .ok (.iconst 2, 1) := by decide +kernel
theorem d_E_kindOf_44 : decode prog_1_method_20_code 44 = .ok (.ireturn, 1) := by decide +kernel
theorem d_E_kindOf_45 : decode prog_1_method_20_code 45 = .ok (.aload_n 0, 1) := by decide +kernel
theorem d_E_kindOf_46 : decode prog_1_method_20_code 46 = .ok (.getfield 25, 3) := by decide +kernel
theorem d_E_kindOf_49 : decode prog_1_method_20_code 49 = .ok (.iload_n 1, 1) := by decide +kernel
theorem d_E_kindOf_50 : decode prog_1_method_20_code 50 = .ok (.ldc 224, 2) := by decide +kernel
theorem d_E_kindOf_52 : decode prog_1_method_20_code 52 = .ok (.invokevirtual 206, 3) := by decide +kernel
theorem d_E_kindOf_55 : decode prog_1_method_20_code 55 = .ok (.ifCond .eq 7, 3) := by decide +kernel
theorem d_E_kindOf_58 : decode prog_1_method_20_code 58 = .ok (.iconst 3, 1) := by decide +kernel
theorem d_E_kindOf_59 : decode prog_1_method_20_code 59 = .ok (.goto 4, 3) := by decide +kernel
theorem d_E_kindOf_62 : decode prog_1_method_20_code 62 = .ok (.iconst (-1), 1) := by decide +kernel
theorem d_E_kindOf_63 : decode prog_1_method_20_code 63 = .ok (.ireturn, 1) := by decide +kernel
set_option maxHeartbeats 4000000 in
set_option maxRecDepth 100000 in
theorem cE_kindOf (l : Launch) (dC : Nat → ClassId) (dI : Nat → Nat → Nat) (tk : Nat → ClassId) (A : Nat → Prop) (hE : Nat) (LE : Nat → Nat) (gE : aG) (aE : aA) (LV : Nat → Nat) (gV : aG) (aV : aA) (rw : va_W) (n : Nat) (v1 : Int32) (r0 : Int32) (hm : mE_kindOf n v1 gE aE gV aV = some r0) : CtI l dC dI tk A ⟨"EditorServer", "kindOf", "(I)I"⟩ prog_1_method_20_code 2 (some .int) 6 131 [.ref hE, .int v1] (oW 1 hE ksE spE tk LE gE aE (oW 3 (LE 1) ksV spV tk LV gV aV rw)) r0 (oW 1 hE ksE spE tk LE gE aE (oW 3 (LE 1) ksV spV tk LV gV aV rw)) := by
  refine ent (by decide) (Nat.le_of_ble_eq_true rfl) ?_
  intro p e s m args below meth c hx hb hr hml hown hlk hG hg hst ls hl
  unfold mE_kindOf at hm
  have hl : lv_has ls 2 [(0, .ref hE), (1, .int v1)] := hl
  obtain ⟨H, hH⟩ : ∃ H, H = s.heap := ⟨_, rfl⟩
  obtain ⟨locs, hlc⟩ : ∃ locs : List Loc, locs = [] := ⟨_, rfl⟩
  have hst : St dC dI A s.heap H locs (oW 1 hE ksE spE tk LE gE aE (oW 3 (LE 1) ksV spV tk LV gV aV rw)) := by rw [hH, hlc]; exact hst
  suffices hw : W p l e (rmo 6 131) s m args below meth c H locs 0 0 (MQ below (QI dC dI A r0 (oW 1 hE ksE spE tk LE gE aE (oW 3 (LE 1) ksV spV tk LV gV aV rw))) args s 0 0 A) (F0 m 0 ls []) by rw [hH, hlc] at hw; exact hw
  refine lv_aload_n hx hb d_E_kindOf_0 rfl (lv_at hl 0 rfl) ?_
  refine ro_geta hx hb hown hG hg cE hst 1 1 (by decide) rfl rfl k_285 d_E_kindOf_1 ?_
  refine lv_iload_n hx hb d_E_kindOf_4 rfl (lv_at hl 1 rfl) ?_
  refine va_ldcS (tx := stxt 5) hx hb hown (hg.2.2.2.1 5 (by decide)).2.2.2.2 d_E_kindOf_5 ?_
  obtain ⟨x1, hc2, hm⟩ := bd_u hm
  have hst : St dC dI A s.heap H locs (oW 3 (LE 1) ksV spV tk LV gV aV (oW 1 hE ksE spE tk LE gE aE rw)) := gr1 (a := (oX 1 hE ksE spE tk LE gE aE)) (b := (oX 3 (LE 1) ksV spV tk LV gV aV)) (r := rw) hst
  refine cl_vi hx hb hml hown hG hg (cV_spells l dC dI tk A (LE 1) LV gV aV (oW 1 hE ksE spE tk LE gE aE rw) n 5 (by decide) v1 _ hc2) (cw_v 2 hG k_476 k_477 k_478 k_3 k_479 (by decide +kernel) ⟨by decide, by decide⟩) hst rfl oW_0 rfl hl.1 rfl (Nat.le_of_ble_eq_true rfl) ⟨Nat.le_refl 0, Nat.le_refl 0⟩ d_E_kindOf_7 (fun H locs hst => ?_)
  refine lv_if_eq (tgt := 15) hx hb d_E_kindOf_10 (by decide) (fun h4 => ?_) (fun h4 => ?_)
  · have hm := it_t hm h4
    refine lv_aload_n hx hb d_E_kindOf_15 rfl (lv_at hl 0 rfl) ?_
    have hst : St dC dI A s.heap H locs (oW 1 hE ksE spE tk LE gE aE (oW 3 (LE 1) ksV spV tk LV gV aV rw)) := gr1 (a := (oX 3 (LE 1) ksV spV tk LV gV aV)) (b := (oX 1 hE ksE spE tk LE gE aE)) (r := rw) hst
    refine ro_geta hx hb hown hG hg cE hst 1 1 (by decide) rfl rfl k_285 d_E_kindOf_16 ?_
    refine lv_iload_n hx hb d_E_kindOf_19 rfl (lv_at hl 1 rfl) ?_
    refine va_ldcS (tx := stxt 6) hx hb hown (hg.2.2.2.1 6 (by decide)).2.2.2.2 d_E_kindOf_20 ?_
    obtain ⟨x5, hc6, hm⟩ := bd_u hm
    have hst : St dC dI A s.heap H locs (oW 3 (LE 1) ksV spV tk LV gV aV (oW 1 hE ksE spE tk LE gE aE rw)) := gr1 (a := (oX 1 hE ksE spE tk LE gE aE)) (b := (oX 3 (LE 1) ksV spV tk LV gV aV)) (r := rw) hst
    refine cl_vi hx hb hml hown hG hg (cV_spells l dC dI tk A (LE 1) LV gV aV (oW 1 hE ksE spE tk LE gE aE rw) n 6 (by decide) v1 _ hc6) (cw_v 2 hG k_476 k_477 k_478 k_3 k_479 (by decide +kernel) ⟨by decide, by decide⟩) hst rfl oW_0 rfl hl.1 rfl (Nat.le_of_ble_eq_true rfl) ⟨Nat.le_refl 0, Nat.le_refl 0⟩ d_E_kindOf_22 (fun H locs hst => ?_)
    refine lv_if_eq (tgt := 30) hx hb d_E_kindOf_25 (by decide) (fun h8 => ?_) (fun h8 => ?_)
    · have hm := it_t hm h8
      refine lv_aload_n hx hb d_E_kindOf_30 rfl (lv_at hl 0 rfl) ?_
      have hst : St dC dI A s.heap H locs (oW 1 hE ksE spE tk LE gE aE (oW 3 (LE 1) ksV spV tk LV gV aV rw)) := gr1 (a := (oX 3 (LE 1) ksV spV tk LV gV aV)) (b := (oX 1 hE ksE spE tk LE gE aE)) (r := rw) hst
      refine ro_geta hx hb hown hG hg cE hst 1 1 (by decide) rfl rfl k_285 d_E_kindOf_31 ?_
      refine lv_iload_n hx hb d_E_kindOf_34 rfl (lv_at hl 1 rfl) ?_
      refine va_ldcS (tx := stxt 7) hx hb hown (hg.2.2.2.1 7 (by decide)).2.2.2.2 d_E_kindOf_35 ?_
      obtain ⟨x9, hc10, hm⟩ := bd_u hm
      have hst : St dC dI A s.heap H locs (oW 3 (LE 1) ksV spV tk LV gV aV (oW 1 hE ksE spE tk LE gE aE rw)) := gr1 (a := (oX 1 hE ksE spE tk LE gE aE)) (b := (oX 3 (LE 1) ksV spV tk LV gV aV)) (r := rw) hst
      refine cl_vi hx hb hml hown hG hg (cV_spells l dC dI tk A (LE 1) LV gV aV (oW 1 hE ksE spE tk LE gE aE rw) n 7 (by decide) v1 _ hc10) (cw_v 2 hG k_476 k_477 k_478 k_3 k_479 (by decide +kernel) ⟨by decide, by decide⟩) hst rfl oW_0 rfl hl.1 rfl (Nat.le_of_ble_eq_true rfl) ⟨Nat.le_refl 0, Nat.le_refl 0⟩ d_E_kindOf_37 (fun H locs hst => ?_)
      refine lv_if_eq (tgt := 45) hx hb d_E_kindOf_40 (by decide) (fun h12 => ?_) (fun h12 => ?_)
      · have hm := it_t hm h12
        refine lv_aload_n hx hb d_E_kindOf_45 rfl (lv_at hl 0 rfl) ?_
        have hst : St dC dI A s.heap H locs (oW 1 hE ksE spE tk LE gE aE (oW 3 (LE 1) ksV spV tk LV gV aV rw)) := gr1 (a := (oX 3 (LE 1) ksV spV tk LV gV aV)) (b := (oX 1 hE ksE spE tk LE gE aE)) (r := rw) hst
        refine ro_geta hx hb hown hG hg cE hst 1 1 (by decide) rfl rfl k_285 d_E_kindOf_46 ?_
        refine lv_iload_n hx hb d_E_kindOf_49 rfl (lv_at hl 1 rfl) ?_
        refine va_ldcS (tx := stxt 8) hx hb hown (hg.2.2.2.1 8 (by decide)).2.2.2.2 d_E_kindOf_50 ?_
        obtain ⟨x13, hc14, hm⟩ := bd_u hm
        have hst : St dC dI A s.heap H locs (oW 3 (LE 1) ksV spV tk LV gV aV (oW 1 hE ksE spE tk LE gE aE rw)) := gr1 (a := (oX 1 hE ksE spE tk LE gE aE)) (b := (oX 3 (LE 1) ksV spV tk LV gV aV)) (r := rw) hst
        refine cl_vi hx hb hml hown hG hg (cV_spells l dC dI tk A (LE 1) LV gV aV (oW 1 hE ksE spE tk LE gE aE rw) n 8 (by decide) v1 _ hc14) (cw_v 2 hG k_476 k_477 k_478 k_3 k_479 (by decide +kernel) ⟨by decide, by decide⟩) hst rfl oW_0 rfl hl.1 rfl (Nat.le_of_ble_eq_true rfl) ⟨Nat.le_refl 0, Nat.le_refl 0⟩ d_E_kindOf_52 (fun H locs hst => ?_)
        refine lv_if_eq (tgt := 62) hx hb d_E_kindOf_55 (by decide) (fun h16 => ?_) (fun h16 => ?_)
        · have hm := it_t hm h16
          refine lv_iconst (v := (-1)) hx hb d_E_kindOf_62 (by decide) ?_
          have hst : St dC dI A s.heap H locs (oW 1 hE ksE spE tk LE gE aE (oW 3 (LE 1) ksV spV tk LV gV aV rw)) := gr1 (a := (oX 3 (LE 1) ksV spV tk LV gV aV)) (b := (oX 1 hE ksE spE tk LE gE aE)) (r := rw) hst
          have hst9 := hst
          have he := (Option.some.inj hm)
          cases he
          exact rt_i hx hb hr hlk rfl hst9 rfl d_E_kindOf_63
        · have hm := it_f hm h16
          refine lv_iconst (v := 3) hx hb d_E_kindOf_58 (by decide) ?_
          refine lv_goto (tgt := 63) hx hb d_E_kindOf_59 (by decide) ?_
          have hst : St dC dI A s.heap H locs (oW 1 hE ksE spE tk LE gE aE (oW 3 (LE 1) ksV spV tk LV gV aV rw)) := gr1 (a := (oX 3 (LE 1) ksV spV tk LV gV aV)) (b := (oX 1 hE ksE spE tk LE gE aE)) (r := rw) hst
          have hst9 := hst
          have he := (Option.some.inj hm)
          cases he
          exact rt_i hx hb hr hlk rfl hst9 rfl d_E_kindOf_63
      · have hm := it_f hm h12
        refine lv_iconst (v := 2) hx hb d_E_kindOf_43 (by decide) ?_
        have hst : St dC dI A s.heap H locs (oW 1 hE ksE spE tk LE gE aE (oW 3 (LE 1) ksV spV tk LV gV aV rw)) := gr1 (a := (oX 3 (LE 1) ksV spV tk LV gV aV)) (b := (oX 1 hE ksE spE tk LE gE aE)) (r := rw) hst
        have hst9 := hst
        have he := (Option.some.inj hm)
        cases he
        exact rt_i hx hb hr hlk rfl hst9 rfl d_E_kindOf_44
    · have hm := it_f hm h8
      refine lv_iconst (v := 1) hx hb d_E_kindOf_28 (by decide) ?_
      have hst : St dC dI A s.heap H locs (oW 1 hE ksE spE tk LE gE aE (oW 3 (LE 1) ksV spV tk LV gV aV rw)) := gr1 (a := (oX 3 (LE 1) ksV spV tk LV gV aV)) (b := (oX 1 hE ksE spE tk LE gE aE)) (r := rw) hst
      have hst9 := hst
      have he := (Option.some.inj hm)
      cases he
      exact rt_i hx hb hr hlk rfl hst9 rfl d_E_kindOf_29
  · have hm := it_f hm h4
    refine lv_iconst (v := 0) hx hb d_E_kindOf_13 (by decide) ?_
    have hst : St dC dI A s.heap H locs (oW 1 hE ksE spE tk LE gE aE (oW 3 (LE 1) ksV spV tk LV gV aV rw)) := gr1 (a := (oX 3 (LE 1) ksV spV tk LV gV aV)) (b := (oX 1 hE ksE spE tk LE gE aE)) (r := rw) hst
    have hst9 := hst
    have he := (Option.some.inj hm)
    cases he
    exact rt_i hx hb hr hlk rfl hst9 rfl d_E_kindOf_14
def mS_find (n : Nat) (v2 : Int32) (gS : aG) (aS : aA) (gV : aG) (aV : aA) (dP : aP) : Option (Int32) := lp (ε := Int32) (fun x1 => if (gS 2) ≤ x1 then (some (.inr ((-1)))) else (gd (inb x1 3) (bd (mD_isNamed n v2 ((dP x1.toNatClampNeg).2.1) ((dP x1.toNatClampNeg).2.2.1) gV aV) (fun x8 => if x8 = 0 then (some (.inl (x1 + 1))) else (some (.inr (x1))))))) n 0
theorem d_S_find_0 : decode prog_7_method_2_code 0 = .ok (.iconst 0, 1) := by decide +kernel
theorem d_S_find_1 : decode prog_7_method_2_code 1 = .ok (.istore_n 3, 1) := by decide +kernel
theorem d_S_find_2 : decode prog_7_method_2_code 2 = .ok (.iload_n 3, 1) := by decide +kernel
theorem d_S_find_3 : decode prog_7_method_2_code 3 = .ok (.aload_n 0, 1) := by decide +kernel
theorem d_S_find_4 : decode prog_7_method_2_code 4 = .ok (.getfield 25, 3) := by decide +kernel
theorem d_S_find_7 : decode prog_7_method_2_code 7 = .ok (.if_icmp .ge 25, 3) := by decide +kernel
theorem d_S_find_10 : decode prog_7_method_2_code 10 = .ok (.aload_n 0, 1) := by decide +kernel
theorem d_S_find_11 : decode prog_7_method_2_code 11 = .ok (.getfield 13, 3) := by decide +kernel
theorem d_S_find_14 : decode prog_7_method_2_code 14 = .ok (.iload_n 3, 1) := by decide +kernel
theorem d_S_find_15 : decode prog_7_method_2_code 15 = .ok (.aaload, 1) := by decide +kernel
theorem d_S_find_16 : decode prog_7_method_2_code 16 = .ok (.aload_n 1, 1) := by decide +kernel
theorem d_S_find_17 : decode prog_7_method_2_code 17 = .ok (.iload_n 2, 1) := by decide +kernel
theorem d_S_find_18 : decode prog_7_method_2_code 18 = .ok (.invokevirtual 29, 3) := by decide +kernel
theorem d_S_find_21 : decode prog_7_method_2_code 21 = .ok (.ifCond .eq 5, 3) := by decide +kernel
theorem d_S_find_24 : decode prog_7_method_2_code 24 = .ok (.iload_n 3, 1) := by decide +kernel
theorem d_S_find_25 : decode prog_7_method_2_code 25 = .ok (.ireturn, 1) := by decide +kernel
theorem d_S_find_26 : decode prog_7_method_2_code 26 = .ok (.iinc 3 1, 3) := by decide +kernel
theorem d_S_find_29 : decode prog_7_method_2_code 29 = .ok (.goto (-27), 3) := by decide +kernel
theorem d_S_find_32 : decode prog_7_method_2_code 32 = .ok (.iconst (-1), 1) := by decide +kernel
theorem d_S_find_33 : decode prog_7_method_2_code 33 = .ok (.ireturn, 1) := by decide +kernel
set_option maxHeartbeats 4000000 in
set_option maxRecDepth 100000 in
theorem cS_find (l : Launch) (dC : Nat → ClassId) (dI : Nat → Nat → Nat) (tk : Nat → ClassId) (A : Nat → Prop) (hS : Nat) (LS : Nat → Nat) (gS : aG) (aS : aA) (hV : Nat) (LV : Nat → Nat) (gV : aG) (aV : aA) (dP : aP) (rw : va_W) (n : Nat) (v2 : Int32) (r0 : Int32) (hm : mS_find n v2 gS aS gV aV dP = some r0) : CtI l dC dI tk A ⟨"EditorServer$Shelf", "find", "(LEditorServer$Values;I)I"⟩ prog_7_method_2_code 4 (some .int) 2 46 [.ref hS, .ref hV, .int v2] (oW 4 hS ksS spS tk LS gS aS (rA 4 (LS 0) 3 tk (fun i => some (dP i).1.1) (oW 3 hV ksV spV tk LV gV aV (pW 5 ksD spD 1 tk dP 3 rw)))) r0 (oW 4 hS ksS spS tk LS gS aS (rA 4 (LS 0) 3 tk (fun i => some (dP i).1.1) (oW 3 hV ksV spV tk LV gV aV (pW 5 ksD spD 1 tk dP 3 rw)))) := by
  refine ent (by decide) (Nat.le_of_ble_eq_true rfl) ?_
  intro p e s m args below meth c hx hb hr hml hown hlk hG hg hst ls hl
  unfold mS_find at hm
  have hl : lv_has ls 4 [(0, .ref hS), (1, .ref hV), (2, .int v2)] := hl
  obtain ⟨H, hH⟩ : ∃ H, H = s.heap := ⟨_, rfl⟩
  obtain ⟨locs, hlc⟩ : ∃ locs : List Loc, locs = [] := ⟨_, rfl⟩
  have hst : St dC dI A s.heap H locs (oW 4 hS ksS spS tk LS gS aS (rA 4 (LS 0) 3 tk (fun i => some (dP i).1.1) (oW 3 hV ksV spV tk LV gV aV (pW 5 ksD spD 1 tk dP 3 rw)))) := by rw [hH, hlc]; exact hst
  suffices hw : W p l e (rmo 2 46) s m args below meth c H locs 0 0 (MQ below (QI dC dI A r0 (oW 4 hS ksS spS tk LS gS aS (rA 4 (LS 0) 3 tk (fun i => some (dP i).1.1) (oW 3 hV ksV spV tk LV gV aV (pW 5 ksD spD 1 tk dP 3 rw))))) args s 0 0 A) (F0 m 0 ls []) by rw [hH, hlc] at hw; exact hw
  refine lv_iconst (v := 0) hx hb d_S_find_0 (by decide) ?_
  refine lv_istore_n (lv' := [(3, .int 0), (0, .ref hS), (1, .ref hV), (2, .int v2)]) hx hb d_S_find_1 rfl hl (by decide) rfl (fun ls hl => ?_)
  refine lp_u (fun x1 : Int32 => ∀ (H : Heap) (locs : List Loc) (ls : Array Slot), lv_has ls 4 [(0, .ref hS), (1, .ref hV), (2, .int v2), (3, .int x1)] → St dC dI A s.heap H locs (oW 4 hS ksS spS tk LS gS aS (rA 4 (LS 0) 3 tk (fun i => some (dP i).1.1) (oW 3 hV ksV spV tk LV gV aV (pW 5 ksD spD 1 tk dP 3 rw)))) → W p l e (rmo 2 46) s m args below meth c H locs 0 0 (MQ below (QI dC dI A r0 (oW 4 hS ksS spS tk LS gS aS (rA 4 (LS 0) 3 tk (fun i => some (dP i).1.1) (oW 3 hV ksV spV tk LV gV aV (pW 5 ksD spD 1 tk dP 3 rw))))) args s 0 0 A) (F0 m 2 ls [])) ?_ n 0 hm _ _ _ (lv_sub hl [1, 2, 3, 0] rfl) hst
  rintro x1 r5 hm hJ30 hR4 H locs ls hl hst
  have hJ3 := fun y0 (e : r5 = .inl y0) => hJ30 y0 e
  refine lv_iload_n hx hb d_S_find_2 rfl (lv_at hl 3 rfl) ?_
  refine lv_aload_n hx hb d_S_find_3 rfl (lv_at hl 0 rfl) ?_
  refine ro_geti hx hb hown hG hg cS hst 2 (by decide) rfl rfl k_166 d_S_find_4 ?_
  refine lv_icmp_ge (tgt := 32) hx hb d_S_find_7 (by decide) (fun h6 => ?_) (fun h6 => ?_)
  · have hm := it_t hm h6
    refine lv_iconst (v := (-1)) hx hb d_S_find_32 (by decide) ?_
    have hst9 := hst
    have he := (hR4 _ (Option.some.inj hm).symm)
    cases he
    exact rt_i hx hb hr hlk rfl hst9 rfl d_S_find_33
  · have hm := it_f hm h6
    refine lv_aload_n hx hb d_S_find_10 rfl (lv_at hl 0 rfl) ?_
    refine ro_geta hx hb hown hG hg cS hst 0 0 (by decide) rfl rfl k_163 d_S_find_11 ?_
    refine lv_iload_n hx hb d_S_find_14 rfl (lv_at hl 3 rfl) ?_
    obtain ⟨hn7, hm⟩ := gd_u hm
    have hst : St dC dI A s.heap H locs (rA 4 (LS 0) 3 tk (fun i => some (dP i).1.1) (oW 4 hS ksS spS tk LS gS aS (oW 3 hV ksV spV tk LV gV aV (pW 5 ksD spD 1 tk dP 3 rw)))) := gr1 (a := (oX 4 hS ksS spS tk LS gS aS)) (b := (rX 4 (LS 0) 3 tk (fun i => some (dP i).1.1))) (r := (oW 3 hV ksV spV tk LV gV aV (pW 5 ksD spD 1 tk dP 3 rw))) hst
    refine ro_aald (a := (dP x1.toNatClampNeg).1.1) hx hb hg hst rfl hn7 rfl d_S_find_15 ?_
    refine lv_aload_n hx hb d_S_find_16 rfl (lv_at hl 1 rfl) ?_
    refine lv_iload_n hx hb d_S_find_17 rfl (lv_at hl 2 rfl) ?_
    have hst : St dC dI A s.heap H locs (pW 5 ksD spD 1 tk dP 3 (rA 4 (LS 0) 3 tk (fun i => some (dP i).1.1) (oW 4 hS ksS spS tk LS gS aS (oW 3 hV ksV spV tk LV gV aV rw)))) := gr3 (a := (rX 4 (LS 0) 3 tk (fun i => some (dP i).1.1))) (b := (oX 4 hS ksS spS tk LS gS aS)) (x := (oX 3 hV ksV spV tk LV gV aV)) (y := (pF 5 ksD spD 1 tk dP 3)) (r := rw) hst
    have hst := foc (d := x1.toNatClampNeg) hst (inb_lt hn7)
    obtain ⟨x8, hc9, hm⟩ := bd_u hm
    have hst : St dC dI A s.heap H locs (oW 3 hV ksV spV tk LV gV aV (oW 5 (dP x1.toNatClampNeg).1.1 ksD spD tk (dP x1.toNatClampNeg).1.2.1 (dP x1.toNatClampNeg).2.1 (dP x1.toNatClampNeg).2.2.1 (oW 6 ((dP x1.toNatClampNeg).1.2.1 1) ksT spT tk (dP x1.toNatClampNeg).1.2.2 (dP x1.toNatClampNeg).2.2.2.1 (dP x1.toNatClampNeg).2.2.2.2 (pO 5 ksD spD 1 tk dP 3 x1.toNatClampNeg (rA 4 (LS 0) 3 tk (fun i => some (dP i).1.1) (oW 4 hS ksS spS tk LS gS aS rw)))))) := gr5 (a := (oX 5 (dP x1.toNatClampNeg).1.1 ksD spD tk (dP x1.toNatClampNeg).1.2.1 (dP x1.toNatClampNeg).2.1 (dP x1.toNatClampNeg).2.2.1)) (b := (oX 6 ((dP x1.toNatClampNeg).1.2.1 1) ksT spT tk (dP x1.toNatClampNeg).1.2.2 (dP x1.toNatClampNeg).2.2.2.1 (dP x1.toNatClampNeg).2.2.2.2)) (x := (pG 5 ksD spD 1 tk dP 3 x1.toNatClampNeg)) (y := (rX 4 (LS 0) 3 tk (fun i => some (dP i).1.1))) (z := (oX 4 hS ksS spS tk LS gS aS)) (u := (oX 3 hV ksV spV tk LV gV aV)) (r := rw) hst
    have hst : St dC dI A s.heap H locs (oW 5 (dP x1.toNatClampNeg).1.1 ksD spD tk (dP x1.toNatClampNeg).1.2.1 (dP x1.toNatClampNeg).2.1 (dP x1.toNatClampNeg).2.2.1 (oW 3 hV ksV spV tk LV gV aV (oW 6 ((dP x1.toNatClampNeg).1.2.1 1) ksT spT tk (dP x1.toNatClampNeg).1.2.2 (dP x1.toNatClampNeg).2.2.2.1 (dP x1.toNatClampNeg).2.2.2.2 (pO 5 ksD spD 1 tk dP 3 x1.toNatClampNeg (rA 4 (LS 0) 3 tk (fun i => some (dP i).1.1) (oW 4 hS ksS spS tk LS gS aS rw)))))) := gr1 (a := (oX 3 hV ksV spV tk LV gV aV)) (b := (oX 5 (dP x1.toNatClampNeg).1.1 ksD spD tk (dP x1.toNatClampNeg).1.2.1 (dP x1.toNatClampNeg).2.1 (dP x1.toNatClampNeg).2.2.1)) (r := (oW 6 ((dP x1.toNatClampNeg).1.2.1 1) ksT spT tk (dP x1.toNatClampNeg).1.2.2 (dP x1.toNatClampNeg).2.2.2.1 (dP x1.toNatClampNeg).2.2.2.2 (pO 5 ksD spD 1 tk dP 3 x1.toNatClampNeg (rA 4 (LS 0) 3 tk (fun i => some (dP i).1.1) (oW 4 hS ksS spS tk LS gS aS rw))))) hst
    refine cl_vi hx hb hml hown hG hg (cD_isNamed l dC dI tk A (dP x1.toNatClampNeg).1.1 (dP x1.toNatClampNeg).1.2.1 ((dP x1.toNatClampNeg).2.1) ((dP x1.toNatClampNeg).2.2.1) hV LV gV aV (oW 6 ((dP x1.toNatClampNeg).1.2.1 1) ksT spT tk (dP x1.toNatClampNeg).1.2.2 (dP x1.toNatClampNeg).2.2.2.1 (dP x1.toNatClampNeg).2.2.2.2 (pO 5 ksD spD 1 tk dP 3 x1.toNatClampNeg (rA 4 (LS 0) 3 tk (fun i => some (dP i).1.1) (oW 4 hS ksS spS tk LS gS aS rw)))) n v2 _ hc9) (cw_v 2 hG k_515 k_516 k_517 k_6 k_518 (by decide +kernel) ⟨by decide, by decide⟩) hst rfl oW_0 rfl hl.1 rfl (Nat.le_of_ble_eq_true rfl) ⟨Nat.le_refl 0, Nat.le_refl 0⟩ d_S_find_18 (fun H locs hst => ?_)
    refine lv_if_eq (tgt := 26) hx hb d_S_find_21 (by decide) (fun h11 => ?_) (fun h11 => ?_)
    · have hm := it_t hm h11
      refine lv_iinc (k := 3) (v := (x1 + 1)) (lv' := [(3, .int (x1 + 1)), (0, .ref hS), (1, .ref hV), (2, .int v2)]) hx hb d_S_find_26 hl rfl (by rfl) (by decide) rfl (fun ls hl => ?_)
      refine lv_goto (tgt := 2) hx hb d_S_find_29 (by decide) ?_
      have hst : St dC dI A s.heap H locs (pO 5 ksD spD 1 tk dP 3 x1.toNatClampNeg (oW 5 (dP x1.toNatClampNeg).1.1 ksD spD tk (dP x1.toNatClampNeg).1.2.1 (dP x1.toNatClampNeg).2.1 (dP x1.toNatClampNeg).2.2.1 (oW 3 hV ksV spV tk LV gV aV (oW 6 ((dP x1.toNatClampNeg).1.2.1 1) ksT spT tk (dP x1.toNatClampNeg).1.2.2 (dP x1.toNatClampNeg).2.2.2.1 (dP x1.toNatClampNeg).2.2.2.2 (rA 4 (LS 0) 3 tk (fun i => some (dP i).1.1) (oW 4 hS ksS spS tk LS gS aS rw)))))) := gr3 (a := (oX 5 (dP x1.toNatClampNeg).1.1 ksD spD tk (dP x1.toNatClampNeg).1.2.1 (dP x1.toNatClampNeg).2.1 (dP x1.toNatClampNeg).2.2.1)) (b := (oX 3 hV ksV spV tk LV gV aV)) (x := (oX 6 ((dP x1.toNatClampNeg).1.2.1 1) ksT spT tk (dP x1.toNatClampNeg).1.2.2 (dP x1.toNatClampNeg).2.2.2.1 (dP x1.toNatClampNeg).2.2.2.2)) (y := (pG 5 ksD spD 1 tk dP 3 x1.toNatClampNeg)) (r := (rA 4 (LS 0) 3 tk (fun i => some (dP i).1.1) (oW 4 hS ksS spS tk LS gS aS rw))) hst
      have hst : St dC dI A s.heap H locs (oW 6 ((dP x1.toNatClampNeg).1.2.1 1) ksT spT tk (dP x1.toNatClampNeg).1.2.2 (dP x1.toNatClampNeg).2.2.2.1 (dP x1.toNatClampNeg).2.2.2.2 (pO 5 ksD spD 1 tk dP 3 x1.toNatClampNeg (oW 5 (dP x1.toNatClampNeg).1.1 ksD spD tk (dP x1.toNatClampNeg).1.2.1 (dP x1.toNatClampNeg).2.1 (dP x1.toNatClampNeg).2.2.1 (oW 3 hV ksV spV tk LV gV aV (rA 4 (LS 0) 3 tk (fun i => some (dP i).1.1) (oW 4 hS ksS spS tk LS gS aS rw)))))) := gr3 (a := (pG 5 ksD spD 1 tk dP 3 x1.toNatClampNeg)) (b := (oX 5 (dP x1.toNatClampNeg).1.1 ksD spD tk (dP x1.toNatClampNeg).1.2.1 (dP x1.toNatClampNeg).2.1 (dP x1.toNatClampNeg).2.2.1)) (x := (oX 3 hV ksV spV tk LV gV aV)) (y := (oX 6 ((dP x1.toNatClampNeg).1.2.1 1) ksT spT tk (dP x1.toNatClampNeg).1.2.2 (dP x1.toNatClampNeg).2.2.2.1 (dP x1.toNatClampNeg).2.2.2.2)) (r := (rA 4 (LS 0) 3 tk (fun i => some (dP i).1.1) (oW 4 hS ksS spS tk LS gS aS rw))) hst
      have hst : St dC dI A s.heap H locs (oW 5 (dP x1.toNatClampNeg).1.1 ksD spD tk (dP x1.toNatClampNeg).1.2.1 (dP x1.toNatClampNeg).2.1 (dP x1.toNatClampNeg).2.2.1 (oW 6 ((dP x1.toNatClampNeg).1.2.1 1) ksT spT tk (dP x1.toNatClampNeg).1.2.2 (dP x1.toNatClampNeg).2.2.2.1 (dP x1.toNatClampNeg).2.2.2.2 (pO 5 ksD spD 1 tk dP 3 x1.toNatClampNeg (oW 3 hV ksV spV tk LV gV aV (rA 4 (LS 0) 3 tk (fun i => some (dP i).1.1) (oW 4 hS ksS spS tk LS gS aS rw)))))) := gr2 (a := (oX 6 ((dP x1.toNatClampNeg).1.2.1 1) ksT spT tk (dP x1.toNatClampNeg).1.2.2 (dP x1.toNatClampNeg).2.2.2.1 (dP x1.toNatClampNeg).2.2.2.2)) (b := (pG 5 ksD spD 1 tk dP 3 x1.toNatClampNeg)) (x := (oX 5 (dP x1.toNatClampNeg).1.1 ksD spD tk (dP x1.toNatClampNeg).1.2.1 (dP x1.toNatClampNeg).2.1 (dP x1.toNatClampNeg).2.2.1)) (r := (oW 3 hV ksV spV tk LV gV aV (rA 4 (LS 0) 3 tk (fun i => some (dP i).1.1) (oW 4 hS ksS spS tk LS gS aS rw)))) hst
      have hst := unf0 (d := x1.toNatClampNeg) hst (inb_lt hn7)
      have hst : St dC dI A s.heap H locs (oW 3 hV ksV spV tk LV gV aV (pW 5 ksD spD 1 tk dP 3 (rA 4 (LS 0) 3 tk (fun i => some (dP i).1.1) (oW 4 hS ksS spS tk LS gS aS rw)))) := gr1 (a := (pF 5 ksD spD 1 tk dP 3)) (b := (oX 3 hV ksV spV tk LV gV aV)) (r := (rA 4 (LS 0) 3 tk (fun i => some (dP i).1.1) (oW 4 hS ksS spS tk LS gS aS rw))) hst
      have hst : St dC dI A s.heap H locs (rA 4 (LS 0) 3 tk (fun i => some (dP i).1.1) (oW 3 hV ksV spV tk LV gV aV (pW 5 ksD spD 1 tk dP 3 (oW 4 hS ksS spS tk LS gS aS rw)))) := gr2 (a := (oX 3 hV ksV spV tk LV gV aV)) (b := (pF 5 ksD spD 1 tk dP 3)) (x := (rX 4 (LS 0) 3 tk (fun i => some (dP i).1.1))) (r := (oW 4 hS ksS spS tk LS gS aS rw)) hst
      have hst : St dC dI A s.heap H locs (oW 4 hS ksS spS tk LS gS aS (rA 4 (LS 0) 3 tk (fun i => some (dP i).1.1) (oW 3 hV ksV spV tk LV gV aV (pW 5 ksD spD 1 tk dP 3 rw)))) := gr3 (a := (rX 4 (LS 0) 3 tk (fun i => some (dP i).1.1))) (b := (oX 3 hV ksV spV tk LV gV aV)) (x := (pF 5 ksD spD 1 tk dP 3)) (y := (oX 4 hS ksS spS tk LS gS aS)) (r := rw) hst
      exact hJ3 (x1 + 1) (Option.some.inj hm).symm _ _ _ (lv_sub hl [1, 2, 3, 0] rfl) hst
    · have hm := it_f hm h11
      refine lv_iload_n hx hb d_S_find_24 rfl (lv_at hl 3 rfl) ?_
      have hst : St dC dI A s.heap H locs (pO 5 ksD spD 1 tk dP 3 x1.toNatClampNeg (oW 5 (dP x1.toNatClampNeg).1.1 ksD spD tk (dP x1.toNatClampNeg).1.2.1 (dP x1.toNatClampNeg).2.1 (dP x1.toNatClampNeg).2.2.1 (oW 3 hV ksV spV tk LV gV aV (oW 6 ((dP x1.toNatClampNeg).1.2.1 1) ksT spT tk (dP x1.toNatClampNeg).1.2.2 (dP x1.toNatClampNeg).2.2.2.1 (dP x1.toNatClampNeg).2.2.2.2 (rA 4 (LS 0) 3 tk (fun i => some (dP i).1.1) (oW 4 hS ksS spS tk LS gS aS rw)))))) := gr3 (a := (oX 5 (dP x1.toNatClampNeg).1.1 ksD spD tk (dP x1.toNatClampNeg).1.2.1 (dP x1.toNatClampNeg).2.1 (dP x1.toNatClampNeg).2.2.1)) (b := (oX 3 hV ksV spV tk LV gV aV)) (x := (oX 6 ((dP x1.toNatClampNeg).1.2.1 1) ksT spT tk (dP x1.toNatClampNeg).1.2.2 (dP x1.toNatClampNeg).2.2.2.1 (dP x1.toNatClampNeg).2.2.2.2)) (y := (pG 5 ksD spD 1 tk dP 3 x1.toNatClampNeg)) (r := (rA 4 (LS 0) 3 tk (fun i => some (dP i).1.1) (oW 4 hS ksS spS tk LS gS aS rw))) hst
      have hst : St dC dI A s.heap H locs (oW 6 ((dP x1.toNatClampNeg).1.2.1 1) ksT spT tk (dP x1.toNatClampNeg).1.2.2 (dP x1.toNatClampNeg).2.2.2.1 (dP x1.toNatClampNeg).2.2.2.2 (pO 5 ksD spD 1 tk dP 3 x1.toNatClampNeg (oW 5 (dP x1.toNatClampNeg).1.1 ksD spD tk (dP x1.toNatClampNeg).1.2.1 (dP x1.toNatClampNeg).2.1 (dP x1.toNatClampNeg).2.2.1 (oW 3 hV ksV spV tk LV gV aV (rA 4 (LS 0) 3 tk (fun i => some (dP i).1.1) (oW 4 hS ksS spS tk LS gS aS rw)))))) := gr3 (a := (pG 5 ksD spD 1 tk dP 3 x1.toNatClampNeg)) (b := (oX 5 (dP x1.toNatClampNeg).1.1 ksD spD tk (dP x1.toNatClampNeg).1.2.1 (dP x1.toNatClampNeg).2.1 (dP x1.toNatClampNeg).2.2.1)) (x := (oX 3 hV ksV spV tk LV gV aV)) (y := (oX 6 ((dP x1.toNatClampNeg).1.2.1 1) ksT spT tk (dP x1.toNatClampNeg).1.2.2 (dP x1.toNatClampNeg).2.2.2.1 (dP x1.toNatClampNeg).2.2.2.2)) (r := (rA 4 (LS 0) 3 tk (fun i => some (dP i).1.1) (oW 4 hS ksS spS tk LS gS aS rw))) hst
      have hst : St dC dI A s.heap H locs (oW 5 (dP x1.toNatClampNeg).1.1 ksD spD tk (dP x1.toNatClampNeg).1.2.1 (dP x1.toNatClampNeg).2.1 (dP x1.toNatClampNeg).2.2.1 (oW 6 ((dP x1.toNatClampNeg).1.2.1 1) ksT spT tk (dP x1.toNatClampNeg).1.2.2 (dP x1.toNatClampNeg).2.2.2.1 (dP x1.toNatClampNeg).2.2.2.2 (pO 5 ksD spD 1 tk dP 3 x1.toNatClampNeg (oW 3 hV ksV spV tk LV gV aV (rA 4 (LS 0) 3 tk (fun i => some (dP i).1.1) (oW 4 hS ksS spS tk LS gS aS rw)))))) := gr2 (a := (oX 6 ((dP x1.toNatClampNeg).1.2.1 1) ksT spT tk (dP x1.toNatClampNeg).1.2.2 (dP x1.toNatClampNeg).2.2.2.1 (dP x1.toNatClampNeg).2.2.2.2)) (b := (pG 5 ksD spD 1 tk dP 3 x1.toNatClampNeg)) (x := (oX 5 (dP x1.toNatClampNeg).1.1 ksD spD tk (dP x1.toNatClampNeg).1.2.1 (dP x1.toNatClampNeg).2.1 (dP x1.toNatClampNeg).2.2.1)) (r := (oW 3 hV ksV spV tk LV gV aV (rA 4 (LS 0) 3 tk (fun i => some (dP i).1.1) (oW 4 hS ksS spS tk LS gS aS rw)))) hst
      have hst := unf0 (d := x1.toNatClampNeg) hst (inb_lt hn7)
      have hst : St dC dI A s.heap H locs (oW 3 hV ksV spV tk LV gV aV (pW 5 ksD spD 1 tk dP 3 (rA 4 (LS 0) 3 tk (fun i => some (dP i).1.1) (oW 4 hS ksS spS tk LS gS aS rw)))) := gr1 (a := (pF 5 ksD spD 1 tk dP 3)) (b := (oX 3 hV ksV spV tk LV gV aV)) (r := (rA 4 (LS 0) 3 tk (fun i => some (dP i).1.1) (oW 4 hS ksS spS tk LS gS aS rw))) hst
      have hst : St dC dI A s.heap H locs (rA 4 (LS 0) 3 tk (fun i => some (dP i).1.1) (oW 3 hV ksV spV tk LV gV aV (pW 5 ksD spD 1 tk dP 3 (oW 4 hS ksS spS tk LS gS aS rw)))) := gr2 (a := (oX 3 hV ksV spV tk LV gV aV)) (b := (pF 5 ksD spD 1 tk dP 3)) (x := (rX 4 (LS 0) 3 tk (fun i => some (dP i).1.1))) (r := (oW 4 hS ksS spS tk LS gS aS rw)) hst
      have hst : St dC dI A s.heap H locs (oW 4 hS ksS spS tk LS gS aS (rA 4 (LS 0) 3 tk (fun i => some (dP i).1.1) (oW 3 hV ksV spV tk LV gV aV (pW 5 ksD spD 1 tk dP 3 rw)))) := gr3 (a := (rX 4 (LS 0) 3 tk (fun i => some (dP i).1.1))) (b := (oX 3 hV ksV spV tk LV gV aV)) (x := (pF 5 ksD spD 1 tk dP 3)) (y := (oX 4 hS ksS spS tk LS gS aS)) (r := rw) hst
      have hst9 := hst
      have he := (hR4 _ (Option.some.inj hm).symm)
      cases he
      exact rt_i hx hb hr hlk rfl hst9 rfl d_S_find_25
def mS_open (n : Nat) (v2 : Int32) (gS : aG) (aS : aA) (gV : aG) (aV : aA) (dP : aP) : Option (Int32 × aG × aP) := bd (mV_hasShape n 17 v2 gV aV) (fun x1 => if x1 = 0 then (some ((0, gS, dP))) else (if (gS 2) < 3 then (bd (mV_item n v2 0 gV aV) (fun x6 => bd (mS_find n x6 gS aS gV aV dP) (fun x9 => if x9 = (-1) then (gd (inb (gS 2) 3) (bd (mD_begin n v2 ((dP (gS 2).toNatClampNeg).2.1) ((dP (gS 2).toNatClampNeg).2.2.1) ((dP (gS 2).toNatClampNeg).2.2.2.1) ((dP (gS 2).toNatClampNeg).2.2.2.2) gV aV) (fun q20 => if q20.1 = 0 then (lt (va_up dP (gS 2).toNatClampNeg ((dP (gS 2).toNatClampNeg).1, q20.2.1, q20.2.2.1, q20.2.2.2.1, q20.2.2.2.2)) (fun d24 => some ((0, gS, d24)))) else (lt (va_up gS 2 ((gS 2) + 1)) (fun g22 => lt (va_up dP (gS 2).toNatClampNeg ((dP (gS 2).toNatClampNeg).1, q20.2.1, q20.2.2.1, q20.2.2.2.1, q20.2.2.2.2)) (fun d23 => some ((1, g22, d23)))))))) else (some ((0, gS, dP)))))) else (some ((0, gS, dP)))))
theorem d_S_open_0 : decode prog_7_method_3_code 0 = .ok (.aload_n 1, 1) := by decide +kernel
theorem d_S_open_1 : decode prog_7_method_3_code 1 = .ok (.iload_n 2, 1) := by decide +kernel
theorem d_S_open_2 : decode prog_7_method_3_code 2 = .ok (.ldc 33, 2) := by decide +kernel
theorem d_S_open_4 : decode prog_7_method_3_code 4 = .ok (.invokevirtual 35, 3) := by decide +kernel
theorem d_S_open_7 : decode prog_7_method_3_code 7 = .ok (.ifCond .eq 11, 3) := by decide +kernel
theorem d_S_open_10 : decode prog_7_method_3_code 10 = .ok (.aload_n 0, 1) := by decide +kernel
theorem d_S_open_11 : decode prog_7_method_3_code 11 = .ok (.getfield 25, 3) := by decide +kernel
theorem d_S_open_14 : decode prog_7_method_3_code 14 = .ok (.iconst 3, 1) := by decide +kernel
theorem d_S_open_15 : decode prog_7_method_3_code 15 = .ok (.if_icmp .lt 5, 3) := by decide +kernel
theorem d_S_open_18 : decode prog_7_method_3_code 18 = .ok (.iconst 0, 1) := by decide +kernel
theorem d_S_open_19 : decode prog_7_method_3_code 19 = .ok (.ireturn, 1) := by decide +kernel
theorem d_S_open_20 : decode prog_7_method_3_code 20 = .ok (.aload_n 0, 1) := by decide +kernel
theorem d_S_open_21 : decode prog_7_method_3_code 21 = .ok (.aload_n 1, 1) := by decide +kernel
theorem d_S_open_22 : decode prog_7_method_3_code 22 = .ok (.aload_n 1, 1) := by decide +kernel
theorem d_S_open_23 : decode prog_7_method_3_code 23 = .ok (.iload_n 2, 1) := by decide +kernel
theorem d_S_open_24 : decode prog_7_method_3_code 24 = .ok (.iconst 0, 1) := by decide +kernel
theorem d_S_open_25 : decode prog_7_method_3_code 25 = .ok (.invokevirtual 41, 3) := by decide +kernel
theorem d_S_open_28 : decode prog_7_method_3_code 28 = .ok (.invokevirtual 45, 3) := by decide +kernel
theorem d_S_open_31 : decode prog_7_method_3_code 31 = .ok (.iconst (-1), 1) := by decide +kernel
theorem d_S_open_32 : decode prog_7_method_3_code 32 = .ok (.if_icmp .ne 20, 3) := by decide +kernel
theorem d_S_open_35 : decode prog_7_method_3_code 35 = .ok (.aload_n 0, 1) := by decide +kernel
theorem d_S_open_36 : decode prog_7_method_3_code 36 = .ok (.getfield 13, 3) := by decide +kernel
theorem d_S_open_39 : decode prog_7_method_3_code 39 = .ok (.aload_n 0, 1) := by decide +kernel
theorem d_S_open_40 : decode prog_7_method_3_code 40 = .ok (.getfield 25, 3) := by decide +kernel
theorem d_S_open_43 : decode prog_7_method_3_code 43 = .ok (.aaload, 1) := by decide +kernel
theorem d_S_open_44 : decode prog_7_method_3_code 44 = .ok (.aload_n 1, 1) := by decide +kernel
theorem d_S_open_45 : decode prog_7_method_3_code 45 = .ok (.iload_n 2, 1) := by decide +kernel
theorem d_S_open_46 : decode prog_7_method_3_code 46 = .ok (.invokevirtual 49, 3) := by decide +kernel
theorem d_S_open_49 : decode prog_7_method_3_code 49 = .ok (.ifCond .ne 5, 3) := by decide +kernel
theorem d_S_open_52 : decode prog_7_method_3_code 52 = .ok (.iconst 0, 1) := by decide +kernel
theorem d_S_open_53 : decode prog_7_method_3_code 53 = .ok (.ireturn, 1) := by decide +kernel
theorem d_S_open_54 : decode prog_7_method_3_code 54 = .ok (.aload_n 0, 1) := by decide +kernel
theorem d_S_open_55 : decode prog_7_method_3_code 55 = .ok (.dup, 1) := by decide +kernel
theorem d_S_open_56 : decode prog_7_method_3_code 56 = .ok (.getfield 25, 3) := by decide +kernel
theorem d_S_open_59 : decode prog_7_method_3_code 59 = .ok (.iconst 1, 1) := by decide +kernel
theorem d_S_open_60 : decode prog_7_method_3_code 60 = .ok (.iadd, 1) := by decide +kernel
theorem d_S_open_61 : decode prog_7_method_3_code 61 = .ok (.putfield 25, 3) := by decide +kernel
theorem d_S_open_64 : decode prog_7_method_3_code 64 = .ok (.iconst 1, 1) := by decide +kernel
theorem d_S_open_65 : decode prog_7_method_3_code 65 = .ok (.ireturn, 1) := by decide +kernel
set_option maxHeartbeats 4000000 in
set_option maxRecDepth 100000 in
theorem cS_open (l : Launch) (dC : Nat → ClassId) (dI : Nat → Nat → Nat) (tk : Nat → ClassId) (A : Nat → Prop) (hS : Nat) (LS : Nat → Nat) (gS : aG) (aS : aA) (hV : Nat) (LV : Nat → Nat) (gV : aG) (aV : aA) (dP : aP) (rw : va_W) (n : Nat) (v2 : Int32) (r0 : Int32) (ogS : aG) (odP : aP) (hm : mS_open n v2 gS aS gV aV dP = some (r0, ogS, odP)) : CtI l dC dI tk A ⟨"EditorServer$Shelf", "open", "(LEditorServer$Values;I)Z"⟩ prog_7_method_3_code 3 (some .boolean) 5 112 [.ref hS, .ref hV, .int v2] (oW 4 hS ksS spS tk LS gS aS (rA 4 (LS 0) 3 tk (fun i => some (dP i).1.1) (oW 3 hV ksV spV tk LV gV aV (pW 5 ksD spD 1 tk dP 3 rw)))) r0 (oW 4 hS ksS spS tk LS ogS aS (rA 4 (LS 0) 3 tk (fun i => some (odP i).1.1) (oW 3 hV ksV spV tk LV gV aV (pW 5 ksD spD 1 tk odP 3 rw)))) := by
  refine ent (by decide) (Nat.le_of_ble_eq_true rfl) ?_
  intro p e s m args below meth c hx hb hr hml hown hlk hG hg hst ls hl
  unfold mS_open at hm
  have hl : lv_has ls 3 [(0, .ref hS), (1, .ref hV), (2, .int v2)] := hl
  obtain ⟨H, hH⟩ : ∃ H, H = s.heap := ⟨_, rfl⟩
  obtain ⟨locs, hlc⟩ : ∃ locs : List Loc, locs = [] := ⟨_, rfl⟩
  have hst : St dC dI A s.heap H locs (oW 4 hS ksS spS tk LS gS aS (rA 4 (LS 0) 3 tk (fun i => some (dP i).1.1) (oW 3 hV ksV spV tk LV gV aV (pW 5 ksD spD 1 tk dP 3 rw)))) := by rw [hH, hlc]; exact hst
  suffices hw : W p l e (rmo 5 112) s m args below meth c H locs 0 0 (MQ below (QI dC dI A r0 (oW 4 hS ksS spS tk LS ogS aS (rA 4 (LS 0) 3 tk (fun i => some (odP i).1.1) (oW 3 hV ksV spV tk LV gV aV (pW 5 ksD spD 1 tk odP 3 rw))))) args s 0 0 A) (F0 m 0 ls []) by rw [hH, hlc] at hw; exact hw
  refine lv_aload_n hx hb d_S_open_0 rfl (lv_at hl 1 rfl) ?_
  refine lv_iload_n hx hb d_S_open_1 rfl (lv_at hl 2 rfl) ?_
  refine va_ldcS (tx := stxt 17) hx hb hown (hg.2.2.2.1 17 (by decide)).2.2.2.2 d_S_open_2 ?_
  obtain ⟨x1, hc2, hm⟩ := bd_u hm
  have hst : St dC dI A s.heap H locs (oW 3 hV ksV spV tk LV gV aV (oW 4 hS ksS spS tk LS gS aS (rA 4 (LS 0) 3 tk (fun i => some (dP i).1.1) (pW 5 ksD spD 1 tk dP 3 rw)))) := gr2 (a := (oX 4 hS ksS spS tk LS gS aS)) (b := (rX 4 (LS 0) 3 tk (fun i => some (dP i).1.1))) (x := (oX 3 hV ksV spV tk LV gV aV)) (r := (pW 5 ksD spD 1 tk dP 3 rw)) hst
  refine cl_vi hx hb hml hown hG hg (cV_hasShape l dC dI tk A hV LV gV aV (oW 4 hS ksS spS tk LS gS aS (rA 4 (LS 0) 3 tk (fun i => some (dP i).1.1) (pW 5 ksD spD 1 tk dP 3 rw))) n 17 (by decide) v2 _ hc2) (cw_v 2 hG k_576 k_495 k_496 k_3 k_497 (by decide +kernel) ⟨by decide, by decide⟩) hst rfl oW_0 rfl hl.1 rfl (Nat.le_of_ble_eq_true rfl) ⟨Nat.le_refl 0, Nat.le_refl 0⟩ d_S_open_4 (fun H locs hst => ?_)
  refine lv_if_eq (tgt := 18) hx hb d_S_open_7 (by decide) (fun h4 => ?_) (fun h4 => ?_)
  · have hm := it_t hm h4
    refine lv_iconst (v := 0) hx hb d_S_open_18 (by decide) ?_
    have hst : St dC dI A s.heap H locs (pW 5 ksD spD 1 tk dP 3 (oW 3 hV ksV spV tk LV gV aV (oW 4 hS ksS spS tk LS gS aS (rA 4 (LS 0) 3 tk (fun i => some (dP i).1.1) rw)))) := gr3 (a := (oX 3 hV ksV spV tk LV gV aV)) (b := (oX 4 hS ksS spS tk LS gS aS)) (x := (rX 4 (LS 0) 3 tk (fun i => some (dP i).1.1))) (y := (pF 5 ksD spD 1 tk dP 3)) (r := rw) hst
    have hst : St dC dI A s.heap H locs (oW 3 hV ksV spV tk LV gV aV (pW 5 ksD spD 1 tk dP 3 (oW 4 hS ksS spS tk LS gS aS (rA 4 (LS 0) 3 tk (fun i => some (dP i).1.1) rw)))) := gr1 (a := (pF 5 ksD spD 1 tk dP 3)) (b := (oX 3 hV ksV spV tk LV gV aV)) (r := (oW 4 hS ksS spS tk LS gS aS (rA 4 (LS 0) 3 tk (fun i => some (dP i).1.1) rw))) hst
    have hst : St dC dI A s.heap H locs (rA 4 (LS 0) 3 tk (fun i => some (dP i).1.1) (oW 3 hV ksV spV tk LV gV aV (pW 5 ksD spD 1 tk dP 3 (oW 4 hS ksS spS tk LS gS aS rw)))) := gr3 (a := (oX 3 hV ksV spV tk LV gV aV)) (b := (pF 5 ksD spD 1 tk dP 3)) (x := (oX 4 hS ksS spS tk LS gS aS)) (y := (rX 4 (LS 0) 3 tk (fun i => some (dP i).1.1))) (r := rw) hst
    have hst : St dC dI A s.heap H locs (oW 4 hS ksS spS tk LS gS aS (rA 4 (LS 0) 3 tk (fun i => some (dP i).1.1) (oW 3 hV ksV spV tk LV gV aV (pW 5 ksD spD 1 tk dP 3 rw)))) := gr3 (a := (rX 4 (LS 0) 3 tk (fun i => some (dP i).1.1))) (b := (oX 3 hV ksV spV tk LV gV aV)) (x := (pF 5 ksD spD 1 tk dP 3)) (y := (oX 4 hS ksS spS tk LS gS aS)) (r := rw) hst
    have hst9 := hst
    have he := (Option.some.inj hm)
    cases he
    exact rt_i hx hb hr hlk (by decide) hst9 rfl d_S_open_19
  · have hm := it_f hm h4
    refine lv_aload_n hx hb d_S_open_10 rfl (lv_at hl 0 rfl) ?_
    have hst : St dC dI A s.heap H locs (oW 4 hS ksS spS tk LS gS aS (oW 3 hV ksV spV tk LV gV aV (rA 4 (LS 0) 3 tk (fun i => some (dP i).1.1) (pW 5 ksD spD 1 tk dP 3 rw)))) := gr1 (a := (oX 3 hV ksV spV tk LV gV aV)) (b := (oX 4 hS ksS spS tk LS gS aS)) (r := (rA 4 (LS 0) 3 tk (fun i => some (dP i).1.1) (pW 5 ksD spD 1 tk dP 3 rw))) hst
    refine ro_geti hx hb hown hG hg cS hst 2 (by decide) rfl rfl k_166 d_S_open_11 ?_
    refine lv_iconst (v := 3) hx hb d_S_open_14 (by decide) ?_
    refine lv_icmp_lt (tgt := 20) hx hb d_S_open_15 (by decide) (fun h5 => ?_) (fun h5 => ?_)
    · have hm := it_t hm h5
      refine lv_aload_n hx hb d_S_open_20 rfl (lv_at hl 0 rfl) ?_
      refine lv_aload_n hx hb d_S_open_21 rfl (lv_at hl 1 rfl) ?_
      refine lv_aload_n hx hb d_S_open_22 rfl (lv_at hl 1 rfl) ?_
      refine lv_iload_n hx hb d_S_open_23 rfl (lv_at hl 2 rfl) ?_
      refine lv_iconst (v := 0) hx hb d_S_open_24 (by decide) ?_
      obtain ⟨x6, hc7, hm⟩ := bd_u hm
      have hst : St dC dI A s.heap H locs (oW 3 hV ksV spV tk LV gV aV (oW 4 hS ksS spS tk LS gS aS (rA 4 (LS 0) 3 tk (fun i => some (dP i).1.1) (pW 5 ksD spD 1 tk dP 3 rw)))) := gr1 (a := (oX 4 hS ksS spS tk LS gS aS)) (b := (oX 3 hV ksV spV tk LV gV aV)) (r := (rA 4 (LS 0) 3 tk (fun i => some (dP i).1.1) (pW 5 ksD spD 1 tk dP 3 rw))) hst
      refine cl_vi hx hb hml hown hG hg (cV_item l dC dI tk A hV LV gV aV (oW 4 hS ksS spS tk LS gS aS (rA 4 (LS 0) 3 tk (fun i => some (dP i).1.1) (pW 5 ksD spD 1 tk dP 3 rw))) n v2 0 _ hc7) (cw_v 2 hG k_577 k_499 k_500 k_3 k_501 (by decide +kernel) ⟨by decide, by decide⟩) hst rfl oW_0 rfl hl.1 rfl (Nat.le_of_ble_eq_true rfl) ⟨Nat.le_refl 0, Nat.le_refl 0⟩ d_S_open_25 (fun H locs hst => ?_)
      obtain ⟨x9, hc10, hm⟩ := bd_u hm
      have hst : St dC dI A s.heap H locs (pW 5 ksD spD 1 tk dP 3 (oW 3 hV ksV spV tk LV gV aV (oW 4 hS ksS spS tk LS gS aS (rA 4 (LS 0) 3 tk (fun i => some (dP i).1.1) rw)))) := gr3 (a := (oX 3 hV ksV spV tk LV gV aV)) (b := (oX 4 hS ksS spS tk LS gS aS)) (x := (rX 4 (LS 0) 3 tk (fun i => some (dP i).1.1))) (y := (pF 5 ksD spD 1 tk dP 3)) (r := rw) hst
      have hst : St dC dI A s.heap H locs (oW 3 hV ksV spV tk LV gV aV (pW 5 ksD spD 1 tk dP 3 (oW 4 hS ksS spS tk LS gS aS (rA 4 (LS 0) 3 tk (fun i => some (dP i).1.1) rw)))) := gr1 (a := (pF 5 ksD spD 1 tk dP 3)) (b := (oX 3 hV ksV spV tk LV gV aV)) (r := (oW 4 hS ksS spS tk LS gS aS (rA 4 (LS 0) 3 tk (fun i => some (dP i).1.1) rw))) hst
      have hst : St dC dI A s.heap H locs (rA 4 (LS 0) 3 tk (fun i => some (dP i).1.1) (oW 3 hV ksV spV tk LV gV aV (pW 5 ksD spD 1 tk dP 3 (oW 4 hS ksS spS tk LS gS aS rw)))) := gr3 (a := (oX 3 hV ksV spV tk LV gV aV)) (b := (pF 5 ksD spD 1 tk dP 3)) (x := (oX 4 hS ksS spS tk LS gS aS)) (y := (rX 4 (LS 0) 3 tk (fun i => some (dP i).1.1))) (r := rw) hst
      have hst : St dC dI A s.heap H locs (oW 4 hS ksS spS tk LS gS aS (rA 4 (LS 0) 3 tk (fun i => some (dP i).1.1) (oW 3 hV ksV spV tk LV gV aV (pW 5 ksD spD 1 tk dP 3 rw)))) := gr3 (a := (rX 4 (LS 0) 3 tk (fun i => some (dP i).1.1))) (b := (oX 3 hV ksV spV tk LV gV aV)) (x := (pF 5 ksD spD 1 tk dP 3)) (y := (oX 4 hS ksS spS tk LS gS aS)) (r := rw) hst
      refine cl_vi hx hb hml hown hG hg (cS_find l dC dI tk A hS LS gS aS hV LV gV aV dP rw n x6 _ hc10) (cw_v 2 hG k_578 k_512 k_513 k_4 k_514 (by decide +kernel) ⟨by decide, by decide⟩) hst rfl oW_0 rfl hl.1 rfl (Nat.le_of_ble_eq_true rfl) ⟨Nat.le_refl 0, Nat.le_refl 0⟩ d_S_open_28 (fun H locs hst => ?_)
      refine lv_iconst (v := (-1)) hx hb d_S_open_31 (by decide) ?_
      refine lv_icmp_ne (tgt := 52) hx hb d_S_open_32 (by decide) (fun h12 => ?_) (fun h12 => ?_)
      · have hm := it_f hm h12
        refine lv_iconst (v := 0) hx hb d_S_open_52 (by decide) ?_
        have hst9 := hst
        have he := (Option.some.inj hm)
        cases he
        exact rt_i hx hb hr hlk (by decide) hst9 rfl d_S_open_53
      · have hm := it_t hm h12
        refine lv_aload_n hx hb d_S_open_35 rfl (lv_at hl 0 rfl) ?_
        refine ro_geta hx hb hown hG hg cS hst 0 0 (by decide) rfl rfl k_163 d_S_open_36 ?_
        refine lv_aload_n hx hb d_S_open_39 rfl (lv_at hl 0 rfl) ?_
        refine ro_geti hx hb hown hG hg cS hst 2 (by decide) rfl rfl k_166 d_S_open_40 ?_
        obtain ⟨hn13, hm⟩ := gd_u hm
        have hst : St dC dI A s.heap H locs (rA 4 (LS 0) 3 tk (fun i => some (dP i).1.1) (oW 4 hS ksS spS tk LS gS aS (oW 3 hV ksV spV tk LV gV aV (pW 5 ksD spD 1 tk dP 3 rw)))) := gr1 (a := (oX 4 hS ksS spS tk LS gS aS)) (b := (rX 4 (LS 0) 3 tk (fun i => some (dP i).1.1))) (r := (oW 3 hV ksV spV tk LV gV aV (pW 5 ksD spD 1 tk dP 3 rw))) hst
        refine ro_aald (a := (dP (gS 2).toNatClampNeg).1.1) hx hb hg hst rfl hn13 rfl d_S_open_43 ?_
        refine lv_aload_n hx hb d_S_open_44 rfl (lv_at hl 1 rfl) ?_
        refine lv_iload_n hx hb d_S_open_45 rfl (lv_at hl 2 rfl) ?_
        have hst : St dC dI A s.heap H locs (pW 5 ksD spD 1 tk dP 3 (rA 4 (LS 0) 3 tk (fun i => some (dP i).1.1) (oW 4 hS ksS spS tk LS gS aS (oW 3 hV ksV spV tk LV gV aV rw)))) := gr3 (a := (rX 4 (LS 0) 3 tk (fun i => some (dP i).1.1))) (b := (oX 4 hS ksS spS tk LS gS aS)) (x := (oX 3 hV ksV spV tk LV gV aV)) (y := (pF 5 ksD spD 1 tk dP 3)) (r := rw) hst
        have hst := foc (d := (gS 2).toNatClampNeg) hst (inb_lt hn13)
        obtain ⟨⟨x14, g15, a16, g17, a18⟩, hc19, hm⟩ := bd_u hm
        dsimp only at hm
        have hst : St dC dI A s.heap H locs (oW 3 hV ksV spV tk LV gV aV (oW 5 (dP (gS 2).toNatClampNeg).1.1 ksD spD tk (dP (gS 2).toNatClampNeg).1.2.1 (dP (gS 2).toNatClampNeg).2.1 (dP (gS 2).toNatClampNeg).2.2.1 (oW 6 ((dP (gS 2).toNatClampNeg).1.2.1 1) ksT spT tk (dP (gS 2).toNatClampNeg).1.2.2 (dP (gS 2).toNatClampNeg).2.2.2.1 (dP (gS 2).toNatClampNeg).2.2.2.2 (pO 5 ksD spD 1 tk dP 3 (gS 2).toNatClampNeg (rA 4 (LS 0) 3 tk (fun i => some (dP i).1.1) (oW 4 hS ksS spS tk LS gS aS rw)))))) := gr5 (a := (oX 5 (dP (gS 2).toNatClampNeg).1.1 ksD spD tk (dP (gS 2).toNatClampNeg).1.2.1 (dP (gS 2).toNatClampNeg).2.1 (dP (gS 2).toNatClampNeg).2.2.1)) (b := (oX 6 ((dP (gS 2).toNatClampNeg).1.2.1 1) ksT spT tk (dP (gS 2).toNatClampNeg).1.2.2 (dP (gS 2).toNatClampNeg).2.2.2.1 (dP (gS 2).toNatClampNeg).2.2.2.2)) (x := (pG 5 ksD spD 1 tk dP 3 (gS 2).toNatClampNeg)) (y := (rX 4 (LS 0) 3 tk (fun i => some (dP i).1.1))) (z := (oX 4 hS ksS spS tk LS gS aS)) (u := (oX 3 hV ksV spV tk LV gV aV)) (r := rw) hst
        have hst : St dC dI A s.heap H locs (oW 6 ((dP (gS 2).toNatClampNeg).1.2.1 1) ksT spT tk (dP (gS 2).toNatClampNeg).1.2.2 (dP (gS 2).toNatClampNeg).2.2.2.1 (dP (gS 2).toNatClampNeg).2.2.2.2 (oW 3 hV ksV spV tk LV gV aV (oW 5 (dP (gS 2).toNatClampNeg).1.1 ksD spD tk (dP (gS 2).toNatClampNeg).1.2.1 (dP (gS 2).toNatClampNeg).2.1 (dP (gS 2).toNatClampNeg).2.2.1 (pO 5 ksD spD 1 tk dP 3 (gS 2).toNatClampNeg (rA 4 (LS 0) 3 tk (fun i => some (dP i).1.1) (oW 4 hS ksS spS tk LS gS aS rw)))))) := gr2 (a := (oX 3 hV ksV spV tk LV gV aV)) (b := (oX 5 (dP (gS 2).toNatClampNeg).1.1 ksD spD tk (dP (gS 2).toNatClampNeg).1.2.1 (dP (gS 2).toNatClampNeg).2.1 (dP (gS 2).toNatClampNeg).2.2.1)) (x := (oX 6 ((dP (gS 2).toNatClampNeg).1.2.1 1) ksT spT tk (dP (gS 2).toNatClampNeg).1.2.2 (dP (gS 2).toNatClampNeg).2.2.2.1 (dP (gS 2).toNatClampNeg).2.2.2.2)) (r := (pO 5 ksD spD 1 tk dP 3 (gS 2).toNatClampNeg (rA 4 (LS 0) 3 tk (fun i => some (dP i).1.1) (oW 4 hS ksS spS tk LS gS aS rw)))) hst
        have hst : St dC dI A s.heap H locs (oW 5 (dP (gS 2).toNatClampNeg).1.1 ksD spD tk (dP (gS 2).toNatClampNeg).1.2.1 (dP (gS 2).toNatClampNeg).2.1 (dP (gS 2).toNatClampNeg).2.2.1 (oW 6 ((dP (gS 2).toNatClampNeg).1.2.1 1) ksT spT tk (dP (gS 2).toNatClampNeg).1.2.2 (dP (gS 2).toNatClampNeg).2.2.2.1 (dP (gS 2).toNatClampNeg).2.2.2.2 (oW 3 hV ksV spV tk LV gV aV (pO 5 ksD spD 1 tk dP 3 (gS 2).toNatClampNeg (rA 4 (LS 0) 3 tk (fun i => some (dP i).1.1) (oW 4 hS ksS spS tk LS gS aS rw)))))) := gr2 (a := (oX 6 ((dP (gS 2).toNatClampNeg).1.2.1 1) ksT spT tk (dP (gS 2).toNatClampNeg).1.2.2 (dP (gS 2).toNatClampNeg).2.2.2.1 (dP (gS 2).toNatClampNeg).2.2.2.2)) (b := (oX 3 hV ksV spV tk LV gV aV)) (x := (oX 5 (dP (gS 2).toNatClampNeg).1.1 ksD spD tk (dP (gS 2).toNatClampNeg).1.2.1 (dP (gS 2).toNatClampNeg).2.1 (dP (gS 2).toNatClampNeg).2.2.1)) (r := (pO 5 ksD spD 1 tk dP 3 (gS 2).toNatClampNeg (rA 4 (LS 0) 3 tk (fun i => some (dP i).1.1) (oW 4 hS ksS spS tk LS gS aS rw)))) hst
        refine cl_vi hx hb hml hown hG hg (cD_begin l dC dI tk A (dP (gS 2).toNatClampNeg).1.1 (dP (gS 2).toNatClampNeg).1.2.1 ((dP (gS 2).toNatClampNeg).2.1) ((dP (gS 2).toNatClampNeg).2.2.1) (dP (gS 2).toNatClampNeg).1.2.2 ((dP (gS 2).toNatClampNeg).2.2.2.1) ((dP (gS 2).toNatClampNeg).2.2.2.2) hV LV gV aV (pO 5 ksD spD 1 tk dP 3 (gS 2).toNatClampNeg (rA 4 (LS 0) 3 tk (fun i => some (dP i).1.1) (oW 4 hS ksS spS tk LS gS aS rw))) n v2 _ _ _ _ _ hc19) (cw_v 2 hG k_579 k_580 k_581 k_6 k_582 (by decide +kernel) ⟨by decide, by decide⟩) hst rfl oW_0 rfl hl.1 rfl (Nat.le_of_ble_eq_true rfl) ⟨Nat.le_refl 0, Nat.le_refl 0⟩ d_S_open_46 (fun H locs hst => ?_)
        refine lv_if_ne (tgt := 54) hx hb d_S_open_49 (by decide) (fun h21 => ?_) (fun h21 => ?_)
        · have hm := it_f hm h21
          refine lv_aload_n hx hb d_S_open_54 rfl (lv_at hl 0 rfl) ?_
          refine lv_dup hx hb d_S_open_55 rfl ?_
          have hst : St dC dI A s.heap H locs (oW 4 hS ksS spS tk LS gS aS (oW 5 (dP (gS 2).toNatClampNeg).1.1 ksD spD tk (dP (gS 2).toNatClampNeg).1.2.1 g15 a16 (oW 6 ((dP (gS 2).toNatClampNeg).1.2.1 1) ksT spT tk (dP (gS 2).toNatClampNeg).1.2.2 g17 a18 (oW 3 hV ksV spV tk LV gV aV (pO 5 ksD spD 1 tk dP 3 (gS 2).toNatClampNeg (rA 4 (LS 0) 3 tk (fun i => some (dP i).1.1) rw)))))) := gr5 (a := (oX 5 (dP (gS 2).toNatClampNeg).1.1 ksD spD tk (dP (gS 2).toNatClampNeg).1.2.1 g15 a16)) (b := (oX 6 ((dP (gS 2).toNatClampNeg).1.2.1 1) ksT spT tk (dP (gS 2).toNatClampNeg).1.2.2 g17 a18)) (x := (oX 3 hV ksV spV tk LV gV aV)) (y := (pG 5 ksD spD 1 tk dP 3 (gS 2).toNatClampNeg)) (z := (rX 4 (LS 0) 3 tk (fun i => some (dP i).1.1))) (u := (oX 4 hS ksS spS tk LS gS aS)) (r := rw) hst
          refine ro_geti hx hb hown hG hg cS hst 2 (by decide) rfl rfl k_166 d_S_open_56 ?_
          refine lv_iconst (v := 1) hx hb d_S_open_59 (by decide) ?_
          refine lv_iadd hx hb d_S_open_60 ?_
          refine ro_puti hx hb hown hG hg cS hst 2 (by decide) rfl rfl rfl rfl rfl k_166 d_S_open_61 (fun g22 H locs eg22 hst => ?_)
          have hm := lt_u hm g22 eg22
          refine lv_iconst (v := 1) hx hb d_S_open_64 (by decide) ?_
          have hst : St dC dI A s.heap H locs (pO 5 ksD spD 1 tk dP 3 (gS 2).toNatClampNeg (oW 4 hS ksS spS tk LS g22 aS (oW 5 (dP (gS 2).toNatClampNeg).1.1 ksD spD tk (dP (gS 2).toNatClampNeg).1.2.1 g15 a16 (oW 6 ((dP (gS 2).toNatClampNeg).1.2.1 1) ksT spT tk (dP (gS 2).toNatClampNeg).1.2.2 g17 a18 (oW 3 hV ksV spV tk LV gV aV (rA 4 (LS 0) 3 tk (fun i => some (dP i).1.1) rw)))))) := gr4 (a := (oX 4 hS ksS spS tk LS g22 aS)) (b := (oX 5 (dP (gS 2).toNatClampNeg).1.1 ksD spD tk (dP (gS 2).toNatClampNeg).1.2.1 g15 a16)) (x := (oX 6 ((dP (gS 2).toNatClampNeg).1.2.1 1) ksT spT tk (dP (gS 2).toNatClampNeg).1.2.2 g17 a18)) (y := (oX 3 hV ksV spV tk LV gV aV)) (z := (pG 5 ksD spD 1 tk dP 3 (gS 2).toNatClampNeg)) (r := (rA 4 (LS 0) 3 tk (fun i => some (dP i).1.1) rw)) hst
          have hst : St dC dI A s.heap H locs (oW 6 ((dP (gS 2).toNatClampNeg).1.2.1 1) ksT spT tk (dP (gS 2).toNatClampNeg).1.2.2 g17 a18 (pO 5 ksD spD 1 tk dP 3 (gS 2).toNatClampNeg (oW 4 hS ksS spS tk LS g22 aS (oW 5 (dP (gS 2).toNatClampNeg).1.1 ksD spD tk (dP (gS 2).toNatClampNeg).1.2.1 g15 a16 (oW 3 hV ksV spV tk LV gV aV (rA 4 (LS 0) 3 tk (fun i => some (dP i).1.1) rw)))))) := gr3 (a := (pG 5 ksD spD 1 tk dP 3 (gS 2).toNatClampNeg)) (b := (oX 4 hS ksS spS tk LS g22 aS)) (x := (oX 5 (dP (gS 2).toNatClampNeg).1.1 ksD spD tk (dP (gS 2).toNatClampNeg).1.2.1 g15 a16)) (y := (oX 6 ((dP (gS 2).toNatClampNeg).1.2.1 1) ksT spT tk (dP (gS 2).toNatClampNeg).1.2.2 g17 a18)) (r := (oW 3 hV ksV spV tk LV gV aV (rA 4 (LS 0) 3 tk (fun i => some (dP i).1.1) rw))) hst
          have hst : St dC dI A s.heap H locs (oW 5 (dP (gS 2).toNatClampNeg).1.1 ksD spD tk (dP (gS 2).toNatClampNeg).1.2.1 g15 a16 (oW 6 ((dP (gS 2).toNatClampNeg).1.2.1 1) ksT spT tk (dP (gS 2).toNatClampNeg).1.2.2 g17 a18 (pO 5 ksD spD 1 tk dP 3 (gS 2).toNatClampNeg (oW 4 hS ksS spS tk LS g22 aS (oW 3 hV ksV spV tk LV gV aV (rA 4 (LS 0) 3 tk (fun i => some (dP i).1.1) rw)))))) := gr3 (a := (oX 6 ((dP (gS 2).toNatClampNeg).1.2.1 1) ksT spT tk (dP (gS 2).toNatClampNeg).1.2.2 g17 a18)) (b := (pG 5 ksD spD 1 tk dP 3 (gS 2).toNatClampNeg)) (x := (oX 4 hS ksS spS tk LS g22 aS)) (y := (oX 5 (dP (gS 2).toNatClampNeg).1.1 ksD spD tk (dP (gS 2).toNatClampNeg).1.2.1 g15 a16)) (r := (oW 3 hV ksV spV tk LV gV aV (rA 4 (LS 0) 3 tk (fun i => some (dP i).1.1) rw))) hst
          have hst := unf1 (d := (gS 2).toNatClampNeg) hst (inb_lt hn13)
          obtain ⟨d23, ed23⟩ : ∃ z : aP, z = va_up dP (gS 2).toNatClampNeg ((dP (gS 2).toNatClampNeg).1, g15, a16, g17, a18) := ⟨_, rfl⟩
          rw [← ed23] at hst
          have hm := lt_u hm d23 ed23
          have ed23a : (fun i => some (dP i).1.1) = (fun i => some (d23 i).1.1) := by rw [ed23]; exact up_ad
          rw [ed23a] at hst
          have hst : St dC dI A s.heap H locs (oW 3 hV ksV spV tk LV gV aV (pW 5 ksD spD 1 tk d23 3 (oW 4 hS ksS spS tk LS g22 aS (rA 4 (LS 0) 3 tk (fun i => some (d23 i).1.1) rw)))) := gr2 (a := (pF 5 ksD spD 1 tk d23 3)) (b := (oX 4 hS ksS spS tk LS g22 aS)) (x := (oX 3 hV ksV spV tk LV gV aV)) (r := (rA 4 (LS 0) 3 tk (fun i => some (d23 i).1.1) rw)) hst
          have hst : St dC dI A s.heap H locs (rA 4 (LS 0) 3 tk (fun i => some (d23 i).1.1) (oW 3 hV ksV spV tk LV gV aV (pW 5 ksD spD 1 tk d23 3 (oW 4 hS ksS spS tk LS g22 aS rw)))) := gr3 (a := (oX 3 hV ksV spV tk LV gV aV)) (b := (pF 5 ksD spD 1 tk d23 3)) (x := (oX 4 hS ksS spS tk LS g22 aS)) (y := (rX 4 (LS 0) 3 tk (fun i => some (d23 i).1.1))) (r := rw) hst
          have hst : St dC dI A s.heap H locs (oW 4 hS ksS spS tk LS g22 aS (rA 4 (LS 0) 3 tk (fun i => some (d23 i).1.1) (oW 3 hV ksV spV tk LV gV aV (pW 5 ksD spD 1 tk d23 3 rw)))) := gr3 (a := (rX 4 (LS 0) 3 tk (fun i => some (d23 i).1.1))) (b := (oX 3 hV ksV spV tk LV gV aV)) (x := (pF 5 ksD spD 1 tk d23 3)) (y := (oX 4 hS ksS spS tk LS g22 aS)) (r := rw) hst
          have hst9 := hst
          have he := (Option.some.inj hm)
          cases he
          exact rt_i hx hb hr hlk (by decide) hst9 rfl d_S_open_65
        · have hm := it_t hm h21
          refine lv_iconst (v := 0) hx hb d_S_open_52 (by decide) ?_
          have hst : St dC dI A s.heap H locs (pO 5 ksD spD 1 tk dP 3 (gS 2).toNatClampNeg (oW 5 (dP (gS 2).toNatClampNeg).1.1 ksD spD tk (dP (gS 2).toNatClampNeg).1.2.1 g15 a16 (oW 6 ((dP (gS 2).toNatClampNeg).1.2.1 1) ksT spT tk (dP (gS 2).toNatClampNeg).1.2.2 g17 a18 (oW 3 hV ksV spV tk LV gV aV (rA 4 (LS 0) 3 tk (fun i => some (dP i).1.1) (oW 4 hS ksS spS tk LS gS aS rw)))))) := gr3 (a := (oX 5 (dP (gS 2).toNatClampNeg).1.1 ksD spD tk (dP (gS 2).toNatClampNeg).1.2.1 g15 a16)) (b := (oX 6 ((dP (gS 2).toNatClampNeg).1.2.1 1) ksT spT tk (dP (gS 2).toNatClampNeg).1.2.2 g17 a18)) (x := (oX 3 hV ksV spV tk LV gV aV)) (y := (pG 5 ksD spD 1 tk dP 3 (gS 2).toNatClampNeg)) (r := (rA 4 (LS 0) 3 tk (fun i => some (dP i).1.1) (oW 4 hS ksS spS tk LS gS aS rw))) hst
          have hst : St dC dI A s.heap H locs (oW 6 ((dP (gS 2).toNatClampNeg).1.2.1 1) ksT spT tk (dP (gS 2).toNatClampNeg).1.2.2 g17 a18 (pO 5 ksD spD 1 tk dP 3 (gS 2).toNatClampNeg (oW 5 (dP (gS 2).toNatClampNeg).1.1 ksD spD tk (dP (gS 2).toNatClampNeg).1.2.1 g15 a16 (oW 3 hV ksV spV tk LV gV aV (rA 4 (LS 0) 3 tk (fun i => some (dP i).1.1) (oW 4 hS ksS spS tk LS gS aS rw)))))) := gr2 (a := (pG 5 ksD spD 1 tk dP 3 (gS 2).toNatClampNeg)) (b := (oX 5 (dP (gS 2).toNatClampNeg).1.1 ksD spD tk (dP (gS 2).toNatClampNeg).1.2.1 g15 a16)) (x := (oX 6 ((dP (gS 2).toNatClampNeg).1.2.1 1) ksT spT tk (dP (gS 2).toNatClampNeg).1.2.2 g17 a18)) (r := (oW 3 hV ksV spV tk LV gV aV (rA 4 (LS 0) 3 tk (fun i => some (dP i).1.1) (oW 4 hS ksS spS tk LS gS aS rw)))) hst
          have hst : St dC dI A s.heap H locs (oW 5 (dP (gS 2).toNatClampNeg).1.1 ksD spD tk (dP (gS 2).toNatClampNeg).1.2.1 g15 a16 (oW 6 ((dP (gS 2).toNatClampNeg).1.2.1 1) ksT spT tk (dP (gS 2).toNatClampNeg).1.2.2 g17 a18 (pO 5 ksD spD 1 tk dP 3 (gS 2).toNatClampNeg (oW 3 hV ksV spV tk LV gV aV (rA 4 (LS 0) 3 tk (fun i => some (dP i).1.1) (oW 4 hS ksS spS tk LS gS aS rw)))))) := gr2 (a := (oX 6 ((dP (gS 2).toNatClampNeg).1.2.1 1) ksT spT tk (dP (gS 2).toNatClampNeg).1.2.2 g17 a18)) (b := (pG 5 ksD spD 1 tk dP 3 (gS 2).toNatClampNeg)) (x := (oX 5 (dP (gS 2).toNatClampNeg).1.1 ksD spD tk (dP (gS 2).toNatClampNeg).1.2.1 g15 a16)) (r := (oW 3 hV ksV spV tk LV gV aV (rA 4 (LS 0) 3 tk (fun i => some (dP i).1.1) (oW 4 hS ksS spS tk LS gS aS rw)))) hst
          have hst := unf1 (d := (gS 2).toNatClampNeg) hst (inb_lt hn13)
          obtain ⟨d24, ed24⟩ : ∃ z : aP, z = va_up dP (gS 2).toNatClampNeg ((dP (gS 2).toNatClampNeg).1, g15, a16, g17, a18) := ⟨_, rfl⟩
          rw [← ed24] at hst
          have hm := lt_u hm d24 ed24
          have ed24a : (fun i => some (dP i).1.1) = (fun i => some (d24 i).1.1) := by rw [ed24]; exact up_ad
          rw [ed24a] at hst
          have hst : St dC dI A s.heap H locs (oW 3 hV ksV spV tk LV gV aV (pW 5 ksD spD 1 tk d24 3 (rA 4 (LS 0) 3 tk (fun i => some (d24 i).1.1) (oW 4 hS ksS spS tk LS gS aS rw)))) := gr1 (a := (pF 5 ksD spD 1 tk d24 3)) (b := (oX 3 hV ksV spV tk LV gV aV)) (r := (rA 4 (LS 0) 3 tk (fun i => some (d24 i).1.1) (oW 4 hS ksS spS tk LS gS aS rw))) hst
          have hst : St dC dI A s.heap H locs (rA 4 (LS 0) 3 tk (fun i => some (d24 i).1.1) (oW 3 hV ksV spV tk LV gV aV (pW 5 ksD spD 1 tk d24 3 (oW 4 hS ksS spS tk LS gS aS rw)))) := gr2 (a := (oX 3 hV ksV spV tk LV gV aV)) (b := (pF 5 ksD spD 1 tk d24 3)) (x := (rX 4 (LS 0) 3 tk (fun i => some (d24 i).1.1))) (r := (oW 4 hS ksS spS tk LS gS aS rw)) hst
          have hst : St dC dI A s.heap H locs (oW 4 hS ksS spS tk LS gS aS (rA 4 (LS 0) 3 tk (fun i => some (d24 i).1.1) (oW 3 hV ksV spV tk LV gV aV (pW 5 ksD spD 1 tk d24 3 rw)))) := gr3 (a := (rX 4 (LS 0) 3 tk (fun i => some (d24 i).1.1))) (b := (oX 3 hV ksV spV tk LV gV aV)) (x := (pF 5 ksD spD 1 tk d24 3)) (y := (oX 4 hS ksS spS tk LS gS aS)) (r := rw) hst
          have hst9 := hst
          have he := (Option.some.inj hm)
          cases he
          exact rt_i hx hb hr hlk (by decide) hst9 rfl d_S_open_53
    · have hm := it_f hm h5
      refine lv_iconst (v := 0) hx hb d_S_open_18 (by decide) ?_
      have hst : St dC dI A s.heap H locs (pW 5 ksD spD 1 tk dP 3 (oW 4 hS ksS spS tk LS gS aS (oW 3 hV ksV spV tk LV gV aV (rA 4 (LS 0) 3 tk (fun i => some (dP i).1.1) rw)))) := gr3 (a := (oX 4 hS ksS spS tk LS gS aS)) (b := (oX 3 hV ksV spV tk LV gV aV)) (x := (rX 4 (LS 0) 3 tk (fun i => some (dP i).1.1))) (y := (pF 5 ksD spD 1 tk dP 3)) (r := rw) hst
      have hst : St dC dI A s.heap H locs (oW 3 hV ksV spV tk LV gV aV (pW 5 ksD spD 1 tk dP 3 (oW 4 hS ksS spS tk LS gS aS (rA 4 (LS 0) 3 tk (fun i => some (dP i).1.1) rw)))) := gr2 (a := (pF 5 ksD spD 1 tk dP 3)) (b := (oX 4 hS ksS spS tk LS gS aS)) (x := (oX 3 hV ksV spV tk LV gV aV)) (r := (rA 4 (LS 0) 3 tk (fun i => some (dP i).1.1) rw)) hst
      have hst : St dC dI A s.heap H locs (rA 4 (LS 0) 3 tk (fun i => some (dP i).1.1) (oW 3 hV ksV spV tk LV gV aV (pW 5 ksD spD 1 tk dP 3 (oW 4 hS ksS spS tk LS gS aS rw)))) := gr3 (a := (oX 3 hV ksV spV tk LV gV aV)) (b := (pF 5 ksD spD 1 tk dP 3)) (x := (oX 4 hS ksS spS tk LS gS aS)) (y := (rX 4 (LS 0) 3 tk (fun i => some (dP i).1.1))) (r := rw) hst
      have hst : St dC dI A s.heap H locs (oW 4 hS ksS spS tk LS gS aS (rA 4 (LS 0) 3 tk (fun i => some (dP i).1.1) (oW 3 hV ksV spV tk LV gV aV (pW 5 ksD spD 1 tk dP 3 rw)))) := gr3 (a := (rX 4 (LS 0) 3 tk (fun i => some (dP i).1.1))) (b := (oX 3 hV ksV spV tk LV gV aV)) (x := (pF 5 ksD spD 1 tk dP 3)) (y := (oX 4 hS ksS spS tk LS gS aS)) (r := rw) hst
      have hst9 := hst
      have he := (Option.some.inj hm)
      cases he
      exact rt_i hx hb hr hlk (by decide) hst9 rfl d_S_open_19
def mS_edit (n : Nat) (v2 : Int32) (gS : aG) (aS : aA) (gZ : aG) (aZ : aA) (gV : aG) (aV : aA) : Option (Int32 × aG × aA) := bd (mV_isString n v2 gV aV) (fun x1 => if x1 = 0 then (bd (mV_hasShape n 22 v2 gV aV) (fun x5 => if x5 = 0 then (some ((0, gZ, aZ))) else (bd (mV_numberAt n v2 0 gV aV) (fun x9 => bd (mV_numberAt n v2 1 gV aV) (fun x12 => bd (mT_placeOf n x9 x12 gZ aZ) (fun x15 => bd (mV_numberAt n v2 2 gV aV) (fun x18 => bd (mV_numberAt n v2 3 gV aV) (fun x21 => bd (mT_placeOf n x18 x21 gZ aZ) (fun x24 => lt (if x24 < x15 then x24 else x15) (fun x27 => lt (if x15 < x24 then x24 else x15) (fun x28 => bd (mV_item n v2 4 gV aV) (fun x29 => bd (mT_replace n x27 x28 x29 gZ aZ gV aV) (fun q36 => gd (okz q36.1) (some ((q36.1, q36.2.1, q36.2.2)))))))))))))))) else (bd (mT_replace n 0 (gZ 1) v2 gZ aZ gV aV) (fun q42 => gd (okz q42.1) (some ((q42.1, q42.2.1, q42.2.2))))))
theorem d_S_edit_0 : decode prog_7_method_6_code 0 = .ok (.aload_n 1, 1) := by decide +kernel
theorem d_S_edit_1 : decode prog_7_method_6_code 1 = .ok (.iload_n 2, 1) := by decide +kernel
theorem d_S_edit_2 : decode prog_7_method_6_code 2 = .ok (.invokevirtual 76, 3) := by decide +kernel
theorem d_S_edit_5 : decode prog_7_method_6_code 5 = .ok (.ifCond .eq 21, 3) := by decide +kernel
theorem d_S_edit_8 : decode prog_7_method_6_code 8 = .ok (.aload_n 0, 1) := by decide +kernel
theorem d_S_edit_9 : decode prog_7_method_6_code 9 = .ok (.getfield 20, 3) := by decide +kernel
theorem d_S_edit_12 : decode prog_7_method_6_code 12 = .ok (.iconst 0, 1) := by decide +kernel
theorem d_S_edit_13 : decode prog_7_method_6_code 13 = .ok (.aload_n 0, 1) := by decide +kernel
theorem d_S_edit_14 : decode prog_7_method_6_code 14 = .ok (.getfield 20, 3) := by decide +kernel
theorem d_S_edit_17 : decode prog_7_method_6_code 17 = .ok (.getfield 80, 3) := by decide +kernel
theorem d_S_edit_20 : decode prog_7_method_6_code 20 = .ok (.aload_n 1, 1) := by decide +kernel
theorem d_S_edit_21 : decode prog_7_method_6_code 21 = .ok (.iload_n 2, 1) := by decide +kernel
theorem d_S_edit_22 : decode prog_7_method_6_code 22 = .ok (.invokevirtual 83, 3) := by decide +kernel
theorem d_S_edit_25 : decode prog_7_method_6_code 25 = .ok (.ireturn, 1) := by decide +kernel
theorem d_S_edit_26 : decode prog_7_method_6_code 26 = .ok (.aload_n 1, 1) := by decide +kernel
theorem d_S_edit_27 : decode prog_7_method_6_code 27 = .ok (.iload_n 2, 1) := by decide +kernel
theorem d_S_edit_28 : decode prog_7_method_6_code 28 = .ok (.ldc 87, 2) := by decide +kernel
theorem d_S_edit_30 : decode prog_7_method_6_code 30 = .ok (.invokevirtual 35, 3) := by decide +kernel
theorem d_S_edit_33 : decode prog_7_method_6_code 33 = .ok (.ifCond .ne 5, 3) := by decide +kernel
theorem d_S_edit_36 : decode prog_7_method_6_code 36 = .ok (.iconst 0, 1) := by decide +kernel
theorem d_S_edit_37 : decode prog_7_method_6_code 37 = .ok (.ireturn, 1) := by decide +kernel
theorem d_S_edit_38 : decode prog_7_method_6_code 38 = .ok (.aload_n 0, 1) := by decide +kernel
theorem d_S_edit_39 : decode prog_7_method_6_code 39 = .ok (.getfield 20, 3) := by decide +kernel
theorem d_S_edit_42 : decode prog_7_method_6_code 42 = .ok (.aload_n 1, 1) := by decide +kernel
theorem d_S_edit_43 : decode prog_7_method_6_code 43 = .ok (.iload_n 2, 1) := by decide +kernel
theorem d_S_edit_44 : decode prog_7_method_6_code 44 = .ok (.iconst 0, 1) := by decide +kernel
theorem d_S_edit_45 : decode prog_7_method_6_code 45 = .ok (.invokevirtual 56, 3) := by decide +kernel
theorem d_S_edit_48 : decode prog_7_method_6_code 48 = .ok (.aload_n 1, 1) := by decide +kernel
theorem d_S_edit_49 : decode prog_7_method_6_code 49 = .ok (.iload_n 2, 1) := by decide +kernel
theorem d_S_edit_50 : decode prog_7_method_6_code 50 = .ok (.iconst 1, 1) := by decide +kernel
theorem d_S_edit_51 : decode prog_7_method_6_code 51 = .ok (.invokevirtual 56, 3) := by decide +kernel
theorem d_S_edit_54 : decode prog_7_method_6_code 54 = .ok (.invokevirtual 89, 3) := by decide +kernel
theorem d_S_edit_57 : decode prog_7_method_6_code 57 = .ok (.istore_n 3, 1) := by decide +kernel
theorem d_S_edit_58 : decode prog_7_method_6_code 58 = .ok (.aload_n 0, 1) := by decide +kernel
theorem d_S_edit_59 : decode prog_7_method_6_code 59 = .ok (.getfield 20, 3) := by decide +kernel
theorem d_S_edit_62 : decode prog_7_method_6_code 62 = .ok (.aload_n 1, 1) := by decide +kernel
theorem d_S_edit_63 : decode prog_7_method_6_code 63 = .ok (.iload_n 2, 1) := by decide +kernel
theorem d_S_edit_64 : decode prog_7_method_6_code 64 = .ok (.iconst 2, 1) := by decide +kernel
theorem d_S_edit_65 : decode prog_7_method_6_code 65 = .ok (.invokevirtual 56, 3) := by decide +kernel
theorem d_S_edit_68 : decode prog_7_method_6_code 68 = .ok (.aload_n 1, 1) := by decide +kernel
theorem d_S_edit_69 : decode prog_7_method_6_code 69 = .ok (.iload_n 2, 1) := by decide +kernel
theorem d_S_edit_70 : decode prog_7_method_6_code 70 = .ok (.iconst 3, 1) := by decide +kernel
theorem d_S_edit_71 : decode prog_7_method_6_code 71 = .ok (.invokevirtual 56, 3) := by decide +kernel
theorem d_S_edit_74 : decode prog_7_method_6_code 74 = .ok (.invokevirtual 89, 3) := by decide +kernel
theorem d_S_edit_77 : decode prog_7_method_6_code 77 = .ok (.istore 4, 2) := by decide +kernel
theorem d_S_edit_79 : decode prog_7_method_6_code 79 = .ok (.aload_n 0, 1) := by decide +kernel
theorem d_S_edit_80 : decode prog_7_method_6_code 80 = .ok (.getfield 20, 3) := by decide +kernel
theorem d_S_edit_83 : decode prog_7_method_6_code 83 = .ok (.iload_n 3, 1) := by decide +kernel
theorem d_S_edit_84 : decode prog_7_method_6_code 84 = .ok (.iload 4, 2) := by decide +kernel
theorem d_S_edit_86 : decode prog_7_method_6_code 86 = .ok (.invokestatic 92, 3) := by decide +kernel
theorem d_S_edit_89 : decode prog_7_method_6_code 89 = .ok (.iload_n 3, 1) := by decide +kernel
theorem d_S_edit_90 : decode prog_7_method_6_code 90 = .ok (.iload 4, 2) := by decide +kernel
theorem d_S_edit_92 : decode prog_7_method_6_code 92 = .ok (.invokestatic 97, 3) := by decide +kernel
theorem d_S_edit_95 : decode prog_7_method_6_code 95 = .ok (.aload_n 1, 1) := by decide +kernel
theorem d_S_edit_96 : decode prog_7_method_6_code 96 = .ok (.aload_n 1, 1) := by decide +kernel
theorem d_S_edit_97 : decode prog_7_method_6_code 97 = .ok (.iload_n 2, 1) := by decide +kernel
theorem d_S_edit_98 : decode prog_7_method_6_code 98 = .ok (.iconst 4, 1) := by decide +kernel
theorem d_S_edit_99 : decode prog_7_method_6_code 99 = .ok (.invokevirtual 41, 3) := by decide +kernel
theorem d_S_edit_102 : decode prog_7_method_6_code 102 = .ok (.invokevirtual 83, 3) := by decide +kernel
theorem d_S_edit_105 : decode prog_7_method_6_code 105 = .ok (.ireturn, 1) := by decide +kernel
set_option maxHeartbeats 4000000 in
set_option maxRecDepth 100000 in
theorem cS_edit (l : Launch) (dC : Nat → ClassId) (dI : Nat → Nat → Nat) (tk : Nat → ClassId) (A : Nat → Prop) (hS : Nat) (LS : Nat → Nat) (gS : aG) (aS : aA) (LZ : Nat → Nat) (gZ : aG) (aZ : aA) (hV : Nat) (LV : Nat → Nat) (gV : aG) (aV : aA) (rw : va_W) (n : Nat) (v2 : Int32) (r0 : Int32) (ogZ : aG) (oaZ : aA) (hm : mS_edit n v2 gS aS gZ aZ gV aV = some (r0, ogZ, oaZ)) : CtI l dC dI tk A ⟨"EditorServer$Shelf", "edit", "(LEditorServer$Values;I)Z"⟩ prog_7_method_6_code 5 (some .boolean) 5 110 [.ref hS, .ref hV, .int v2] (oW 4 hS ksS spS tk LS gS aS (oW 6 (LS 1) ksT spT tk LZ gZ aZ (oW 3 hV ksV spV tk LV gV aV rw))) r0 (oW 4 hS ksS spS tk LS gS aS (oW 6 (LS 1) ksT spT tk LZ ogZ oaZ (oW 3 hV ksV spV tk LV gV aV rw))) := by
  refine ent (by decide) (Nat.le_of_ble_eq_true rfl) ?_
  intro p e s m args below meth c hx hb hr hml hown hlk hG hg hst ls hl
  unfold mS_edit at hm
  have hl : lv_has ls 5 [(0, .ref hS), (1, .ref hV), (2, .int v2)] := hl
  obtain ⟨H, hH⟩ : ∃ H, H = s.heap := ⟨_, rfl⟩
  obtain ⟨locs, hlc⟩ : ∃ locs : List Loc, locs = [] := ⟨_, rfl⟩
  have hst : St dC dI A s.heap H locs (oW 4 hS ksS spS tk LS gS aS (oW 6 (LS 1) ksT spT tk LZ gZ aZ (oW 3 hV ksV spV tk LV gV aV rw))) := by rw [hH, hlc]; exact hst
  suffices hw : W p l e (rmo 5 110) s m args below meth c H locs 0 0 (MQ below (QI dC dI A r0 (oW 4 hS ksS spS tk LS gS aS (oW 6 (LS 1) ksT spT tk LZ ogZ oaZ (oW 3 hV ksV spV tk LV gV aV rw)))) args s 0 0 A) (F0 m 0 ls []) by rw [hH, hlc] at hw; exact hw
  refine lv_aload_n hx hb d_S_edit_0 rfl (lv_at hl 1 rfl) ?_
  refine lv_iload_n hx hb d_S_edit_1 rfl (lv_at hl 2 rfl) ?_
  obtain ⟨x1, hc2, hm⟩ := bd_u hm
  have hst : St dC dI A s.heap H locs (oW 3 hV ksV spV tk LV gV aV (oW 4 hS ksS spS tk LS gS aS (oW 6 (LS 1) ksT spT tk LZ gZ aZ rw))) := gr2 (a := (oX 4 hS ksS spS tk LS gS aS)) (b := (oX 6 (LS 1) ksT spT tk LZ gZ aZ)) (x := (oX 3 hV ksV spV tk LV gV aV)) (r := rw) hst
  refine cl_vi hx hb hml hown hG hg (cV_isString l dC dI tk A hV LV gV aV (oW 4 hS ksS spS tk LS gS aS (oW 6 (LS 1) ksT spT tk LZ gZ aZ rw)) n v2 _ hc2) (cw_v 1 hG k_610 k_456 k_457 k_3 k_458 (by decide +kernel) ⟨by decide, by decide⟩) hst rfl oW_0 rfl hl.1 rfl (Nat.le_of_ble_eq_true rfl) ⟨Nat.le_refl 0, Nat.le_refl 0⟩ d_S_edit_2 (fun H locs hst => ?_)
  refine lv_if_eq (tgt := 26) hx hb d_S_edit_5 (by decide) (fun h4 => ?_) (fun h4 => ?_)
  · have hm := it_t hm h4
    refine lv_aload_n hx hb d_S_edit_26 rfl (lv_at hl 1 rfl) ?_
    refine lv_iload_n hx hb d_S_edit_27 rfl (lv_at hl 2 rfl) ?_
    refine va_ldcS (tx := stxt 22) hx hb hown (hg.2.2.2.1 22 (by decide)).2.2.2.2 d_S_edit_28 ?_
    obtain ⟨x5, hc6, hm⟩ := bd_u hm
    refine cl_vi hx hb hml hown hG hg (cV_hasShape l dC dI tk A hV LV gV aV (oW 4 hS ksS spS tk LS gS aS (oW 6 (LS 1) ksT spT tk LZ gZ aZ rw)) n 22 (by decide) v2 _ hc6) (cw_v 2 hG k_576 k_495 k_496 k_3 k_497 (by decide +kernel) ⟨by decide, by decide⟩) hst rfl oW_0 rfl hl.1 rfl (Nat.le_of_ble_eq_true rfl) ⟨Nat.le_refl 0, Nat.le_refl 0⟩ d_S_edit_30 (fun H locs hst => ?_)
    refine lv_if_ne (tgt := 38) hx hb d_S_edit_33 (by decide) (fun h8 => ?_) (fun h8 => ?_)
    · have hm := it_f hm h8
      refine lv_aload_n hx hb d_S_edit_38 rfl (lv_at hl 0 rfl) ?_
      have hst : St dC dI A s.heap H locs (oW 4 hS ksS spS tk LS gS aS (oW 3 hV ksV spV tk LV gV aV (oW 6 (LS 1) ksT spT tk LZ gZ aZ rw))) := gr1 (a := (oX 3 hV ksV spV tk LV gV aV)) (b := (oX 4 hS ksS spS tk LS gS aS)) (r := (oW 6 (LS 1) ksT spT tk LZ gZ aZ rw)) hst
      refine ro_geta hx hb hown hG hg cS hst 1 1 (by decide) rfl rfl k_165 d_S_edit_39 ?_
      refine lv_aload_n hx hb d_S_edit_42 rfl (lv_at hl 1 rfl) ?_
      refine lv_iload_n hx hb d_S_edit_43 rfl (lv_at hl 2 rfl) ?_
      refine lv_iconst (v := 0) hx hb d_S_edit_44 (by decide) ?_
      obtain ⟨x9, hc10, hm⟩ := bd_u hm
      have hst : St dC dI A s.heap H locs (oW 3 hV ksV spV tk LV gV aV (oW 4 hS ksS spS tk LS gS aS (oW 6 (LS 1) ksT spT tk LZ gZ aZ rw))) := gr1 (a := (oX 4 hS ksS spS tk LS gS aS)) (b := (oX 3 hV ksV spV tk LV gV aV)) (r := (oW 6 (LS 1) ksT spT tk LZ gZ aZ rw)) hst
      refine cl_vi hx hb hml hown hG hg (cV_numberAt l dC dI tk A hV LV gV aV (oW 4 hS ksS spS tk LS gS aS (oW 6 (LS 1) ksT spT tk LZ gZ aZ rw)) n v2 0 _ hc10) (cw_v 2 hG k_603 k_551 k_552 k_3 k_553 (by decide +kernel) ⟨by decide, by decide⟩) hst rfl oW_0 rfl hl.1 rfl (Nat.le_of_ble_eq_true rfl) ⟨Nat.le_refl 0, Nat.le_refl 0⟩ d_S_edit_45 (fun H locs hst => ?_)
      refine lv_aload_n hx hb d_S_edit_48 rfl (lv_at hl 1 rfl) ?_
      refine lv_iload_n hx hb d_S_edit_49 rfl (lv_at hl 2 rfl) ?_
      refine lv_iconst (v := 1) hx hb d_S_edit_50 (by decide) ?_
      obtain ⟨x12, hc13, hm⟩ := bd_u hm
      refine cl_vi hx hb hml hown hG hg (cV_numberAt l dC dI tk A hV LV gV aV (oW 4 hS ksS spS tk LS gS aS (oW 6 (LS 1) ksT spT tk LZ gZ aZ rw)) n v2 1 _ hc13) (cw_v 2 hG k_603 k_551 k_552 k_3 k_553 (by decide +kernel) ⟨by decide, by decide⟩) hst rfl oW_0 rfl hl.1 rfl (Nat.le_of_ble_eq_true rfl) ⟨Nat.le_refl 0, Nat.le_refl 0⟩ d_S_edit_51 (fun H locs hst => ?_)
      obtain ⟨x15, hc16, hm⟩ := bd_u hm
      have hst : St dC dI A s.heap H locs (oW 6 (LS 1) ksT spT tk LZ gZ aZ (oW 3 hV ksV spV tk LV gV aV (oW 4 hS ksS spS tk LS gS aS rw))) := gr2 (a := (oX 3 hV ksV spV tk LV gV aV)) (b := (oX 4 hS ksS spS tk LS gS aS)) (x := (oX 6 (LS 1) ksT spT tk LZ gZ aZ)) (r := rw) hst
      refine cl_vi hx hb hml hown hG hg (cT_placeOf l dC dI tk A (LS 1) LZ gZ aZ (oW 3 hV ksV spV tk LV gV aV (oW 4 hS ksS spS tk LS gS aS rw)) n x9 x12 _ hc16) (cw_v 2 hG k_613 k_614 k_615 k_5 k_616 (by decide +kernel) ⟨by decide, by decide⟩) hst rfl oW_0 rfl hl.1 rfl (Nat.le_of_ble_eq_true rfl) ⟨Nat.le_refl 0, Nat.le_refl 0⟩ d_S_edit_54 (fun H locs hst => ?_)
      refine lv_istore_n (lv' := [(3, .int x15), (0, .ref hS), (1, .ref hV), (2, .int v2)]) hx hb d_S_edit_57 rfl hl (by decide) rfl (fun ls hl => ?_)
      refine lv_aload_n hx hb d_S_edit_58 rfl (lv_at hl 1 rfl) ?_
      have hst : St dC dI A s.heap H locs (oW 4 hS ksS spS tk LS gS aS (oW 6 (LS 1) ksT spT tk LZ gZ aZ (oW 3 hV ksV spV tk LV gV aV rw))) := gr2 (a := (oX 6 (LS 1) ksT spT tk LZ gZ aZ)) (b := (oX 3 hV ksV spV tk LV gV aV)) (x := (oX 4 hS ksS spS tk LS gS aS)) (r := rw) hst
      refine ro_geta hx hb hown hG hg cS hst 1 1 (by decide) rfl rfl k_165 d_S_edit_59 ?_
      refine lv_aload_n hx hb d_S_edit_62 rfl (lv_at hl 2 rfl) ?_
      refine lv_iload_n hx hb d_S_edit_63 rfl (lv_at hl 3 rfl) ?_
      refine lv_iconst (v := 2) hx hb d_S_edit_64 (by decide) ?_
      obtain ⟨x18, hc19, hm⟩ := bd_u hm
      have hst : St dC dI A s.heap H locs (oW 3 hV ksV spV tk LV gV aV (oW 4 hS ksS spS tk LS gS aS (oW 6 (LS 1) ksT spT tk LZ gZ aZ rw))) := gr2 (a := (oX 4 hS ksS spS tk LS gS aS)) (b := (oX 6 (LS 1) ksT spT tk LZ gZ aZ)) (x := (oX 3 hV ksV spV tk LV gV aV)) (r := rw) hst
      refine cl_vi hx hb hml hown hG hg (cV_numberAt l dC dI tk A hV LV gV aV (oW 4 hS ksS spS tk LS gS aS (oW 6 (LS 1) ksT spT tk LZ gZ aZ rw)) n v2 2 _ hc19) (cw_v 2 hG k_603 k_551 k_552 k_3 k_553 (by decide +kernel) ⟨by decide, by decide⟩) hst rfl oW_0 rfl hl.1 rfl (Nat.le_of_ble_eq_true rfl) ⟨Nat.le_refl 0, Nat.le_refl 0⟩ d_S_edit_65 (fun H locs hst => ?_)
      refine lv_aload_n hx hb d_S_edit_68 rfl (lv_at hl 2 rfl) ?_
      refine lv_iload_n hx hb d_S_edit_69 rfl (lv_at hl 3 rfl) ?_
      refine lv_iconst (v := 3) hx hb d_S_edit_70 (by decide) ?_
      obtain ⟨x21, hc22, hm⟩ := bd_u hm
      refine cl_vi hx hb hml hown hG hg (cV_numberAt l dC dI tk A hV LV gV aV (oW 4 hS ksS spS tk LS gS aS (oW 6 (LS 1) ksT spT tk LZ gZ aZ rw)) n v2 3 _ hc22) (cw_v 2 hG k_603 k_551 k_552 k_3 k_553 (by decide +kernel) ⟨by decide, by decide⟩) hst rfl oW_0 rfl hl.1 rfl (Nat.le_of_ble_eq_true rfl) ⟨Nat.le_refl 0, Nat.le_refl 0⟩ d_S_edit_71 (fun H locs hst => ?_)
      obtain ⟨x24, hc25, hm⟩ := bd_u hm
      have hst : St dC dI A s.heap H locs (oW 6 (LS 1) ksT spT tk LZ gZ aZ (oW 3 hV ksV spV tk LV gV aV (oW 4 hS ksS spS tk LS gS aS rw))) := gr2 (a := (oX 3 hV ksV spV tk LV gV aV)) (b := (oX 4 hS ksS spS tk LS gS aS)) (x := (oX 6 (LS 1) ksT spT tk LZ gZ aZ)) (r := rw) hst
      refine cl_vi hx hb hml hown hG hg (cT_placeOf l dC dI tk A (LS 1) LZ gZ aZ (oW 3 hV ksV spV tk LV gV aV (oW 4 hS ksS spS tk LS gS aS rw)) n x18 x21 _ hc25) (cw_v 2 hG k_613 k_614 k_615 k_5 k_616 (by decide +kernel) ⟨by decide, by decide⟩) hst rfl oW_0 rfl hl.1 rfl (Nat.le_of_ble_eq_true rfl) ⟨Nat.le_refl 0, Nat.le_refl 0⟩ d_S_edit_74 (fun H locs hst => ?_)
      refine lv_istore (lv' := [(4, .int x24), (3, .int x15), (0, .ref hS), (1, .ref hV), (2, .int v2)]) hx hb d_S_edit_77 hl (by decide) rfl (fun ls hl => ?_)
      refine lv_aload_n hx hb d_S_edit_79 rfl (lv_at hl 2 rfl) ?_
      have hst : St dC dI A s.heap H locs (oW 4 hS ksS spS tk LS gS aS (oW 6 (LS 1) ksT spT tk LZ gZ aZ (oW 3 hV ksV spV tk LV gV aV rw))) := gr2 (a := (oX 6 (LS 1) ksT spT tk LZ gZ aZ)) (b := (oX 3 hV ksV spV tk LV gV aV)) (x := (oX 4 hS ksS spS tk LS gS aS)) (r := rw) hst
      refine ro_geta hx hb hown hG hg cS hst 1 1 (by decide) rfl rfl k_165 d_S_edit_80 ?_
      refine lv_iload_n hx hb d_S_edit_83 rfl (lv_at hl 1 rfl) ?_
      refine lv_iload hx hb d_S_edit_84 (lv_at hl 0 rfl) ?_
      refine va_mmin hx hb (hml.trans hl.1.symm) hown (hG _ k_624) (hG _ k_340) (hG _ k_15) (hG _ k_341) (Nat.le_of_ble_eq_true rfl) (Nat.le_of_ble_eq_true rfl) (Nat.le_refl 0) (Nat.le_refl 0) d_S_edit_86 ?_
      refine lv_topi (fun x27 ex27 => ?_)
      have hm := lt_u hm x27 ex27
      refine lv_iload_n hx hb d_S_edit_89 rfl (lv_at hl 1 rfl) ?_
      refine lv_iload hx hb d_S_edit_90 (lv_at hl 0 rfl) ?_
      refine va_mmax hx hb (hml.trans hl.1.symm) hown (hG _ k_625) (hG _ k_626) (hG _ k_15) (hG _ k_627) (Nat.le_of_ble_eq_true rfl) (Nat.le_of_ble_eq_true rfl) (Nat.le_refl 0) (Nat.le_refl 0) d_S_edit_92 ?_
      refine lv_topi (fun x28 ex28 => ?_)
      have hm := lt_u hm x28 ex28
      refine lv_aload_n hx hb d_S_edit_95 rfl (lv_at hl 3 rfl) ?_
      refine lv_aload_n hx hb d_S_edit_96 rfl (lv_at hl 3 rfl) ?_
      refine lv_iload_n hx hb d_S_edit_97 rfl (lv_at hl 4 rfl) ?_
      refine lv_iconst (v := 4) hx hb d_S_edit_98 (by decide) ?_
      obtain ⟨x29, hc30, hm⟩ := bd_u hm
      have hst : St dC dI A s.heap H locs (oW 3 hV ksV spV tk LV gV aV (oW 4 hS ksS spS tk LS gS aS (oW 6 (LS 1) ksT spT tk LZ gZ aZ rw))) := gr2 (a := (oX 4 hS ksS spS tk LS gS aS)) (b := (oX 6 (LS 1) ksT spT tk LZ gZ aZ)) (x := (oX 3 hV ksV spV tk LV gV aV)) (r := rw) hst
      refine cl_vi hx hb hml hown hG hg (cV_item l dC dI tk A hV LV gV aV (oW 4 hS ksS spS tk LS gS aS (oW 6 (LS 1) ksT spT tk LZ gZ aZ rw)) n v2 4 _ hc30) (cw_v 2 hG k_577 k_499 k_500 k_3 k_501 (by decide +kernel) ⟨by decide, by decide⟩) hst rfl oW_0 rfl hl.1 rfl (Nat.le_of_ble_eq_true rfl) ⟨Nat.le_refl 0, Nat.le_refl 0⟩ d_S_edit_99 (fun H locs hst => ?_)
      obtain ⟨⟨x32, g33, a34⟩, hc35, hm⟩ := bd_u hm
      dsimp only at hm
      have hst : St dC dI A s.heap H locs (oW 6 (LS 1) ksT spT tk LZ gZ aZ (oW 3 hV ksV spV tk LV gV aV (oW 4 hS ksS spS tk LS gS aS rw))) := gr2 (a := (oX 3 hV ksV spV tk LV gV aV)) (b := (oX 4 hS ksS spS tk LS gS aS)) (x := (oX 6 (LS 1) ksT spT tk LZ gZ aZ)) (r := rw) hst
      refine cl_vi hx hb hml hown hG hg (cT_replace l dC dI tk A (LS 1) LZ gZ aZ hV LV gV aV (oW 4 hS ksS spS tk LS gS aS rw) n x27 x28 x29 _ _ _ hc35) (cw_v 4 hG k_611 k_585 k_586 k_5 k_587 (by decide +kernel) ⟨by decide, by decide⟩) hst rfl oW_0 rfl hl.1 rfl (Nat.le_of_ble_eq_true rfl) ⟨Nat.le_refl 0, Nat.le_refl 0⟩ d_S_edit_102 (fun H locs hst => ?_)
      have hst : St dC dI A s.heap H locs (oW 3 hV ksV spV tk LV gV aV (oW 6 (LS 1) ksT spT tk LZ g33 a34 (oW 4 hS ksS spS tk LS gS aS rw))) := gr1 (a := (oX 6 (LS 1) ksT spT tk LZ g33 a34)) (b := (oX 3 hV ksV spV tk LV gV aV)) (r := (oW 4 hS ksS spS tk LS gS aS rw)) hst
      have hst : St dC dI A s.heap H locs (oW 6 (LS 1) ksT spT tk LZ g33 a34 (oW 3 hV ksV spV tk LV gV aV (oW 4 hS ksS spS tk LS gS aS rw))) := gr1 (a := (oX 3 hV ksV spV tk LV gV aV)) (b := (oX 6 (LS 1) ksT spT tk LZ g33 a34)) (r := (oW 4 hS ksS spS tk LS gS aS rw)) hst
      have hst : St dC dI A s.heap H locs (oW 4 hS ksS spS tk LS gS aS (oW 6 (LS 1) ksT spT tk LZ g33 a34 (oW 3 hV ksV spV tk LV gV aV rw))) := gr2 (a := (oX 6 (LS 1) ksT spT tk LZ g33 a34)) (b := (oX 3 hV ksV spV tk LV gV aV)) (x := (oX 4 hS ksS spS tk LS gS aS)) (r := rw) hst
      obtain ⟨hn37, hm⟩ := gd_u hm
      have hst9 := hst
      have he := (Option.some.inj hm)
      cases he
      exact rt_i hx hb hr hlk (okz_n hn37).1 hst9 rfl d_S_edit_105
    · have hm := it_t hm h8
      refine lv_iconst (v := 0) hx hb d_S_edit_36 (by decide) ?_
      have hst : St dC dI A s.heap H locs (oW 6 (LS 1) ksT spT tk LZ gZ aZ (oW 3 hV ksV spV tk LV gV aV (oW 4 hS ksS spS tk LS gS aS rw))) := gr2 (a := (oX 3 hV ksV spV tk LV gV aV)) (b := (oX 4 hS ksS spS tk LS gS aS)) (x := (oX 6 (LS 1) ksT spT tk LZ gZ aZ)) (r := rw) hst
      have hst : St dC dI A s.heap H locs (oW 4 hS ksS spS tk LS gS aS (oW 6 (LS 1) ksT spT tk LZ gZ aZ (oW 3 hV ksV spV tk LV gV aV rw))) := gr2 (a := (oX 6 (LS 1) ksT spT tk LZ gZ aZ)) (b := (oX 3 hV ksV spV tk LV gV aV)) (x := (oX 4 hS ksS spS tk LS gS aS)) (r := rw) hst
      have hst9 := hst
      have he := (Option.some.inj hm)
      cases he
      exact rt_i hx hb hr hlk (by decide) hst9 rfl d_S_edit_37
  · have hm := it_f hm h4
    refine lv_aload_n hx hb d_S_edit_8 rfl (lv_at hl 0 rfl) ?_
    have hst : St dC dI A s.heap H locs (oW 4 hS ksS spS tk LS gS aS (oW 3 hV ksV spV tk LV gV aV (oW 6 (LS 1) ksT spT tk LZ gZ aZ rw))) := gr1 (a := (oX 3 hV ksV spV tk LV gV aV)) (b := (oX 4 hS ksS spS tk LS gS aS)) (r := (oW 6 (LS 1) ksT spT tk LZ gZ aZ rw)) hst
    refine ro_geta hx hb hown hG hg cS hst 1 1 (by decide) rfl rfl k_165 d_S_edit_9 ?_
    refine lv_iconst (v := 0) hx hb d_S_edit_12 (by decide) ?_
    refine lv_aload_n hx hb d_S_edit_13 rfl (lv_at hl 0 rfl) ?_
    refine ro_geta hx hb hown hG hg cS hst 1 1 (by decide) rfl rfl k_165 d_S_edit_14 ?_
    have hst : St dC dI A s.heap H locs (oW 6 (LS 1) ksT spT tk LZ gZ aZ (oW 4 hS ksS spS tk LS gS aS (oW 3 hV ksV spV tk LV gV aV rw))) := gr2 (a := (oX 4 hS ksS spS tk LS gS aS)) (b := (oX 3 hV ksV spV tk LV gV aV)) (x := (oX 6 (LS 1) ksT spT tk LZ gZ aZ)) (r := rw) hst
    refine rn_geti hx hb hown hG hg cT hst 1 (by decide) rfl rfl t_130 d_S_edit_17 ?_
    refine lv_aload_n hx hb d_S_edit_20 rfl (lv_at hl 1 rfl) ?_
    refine lv_iload_n hx hb d_S_edit_21 rfl (lv_at hl 2 rfl) ?_
    obtain ⟨⟨x38, g39, a40⟩, hc41, hm⟩ := bd_u hm
    dsimp only at hm
    have hst : St dC dI A s.heap H locs (oW 3 hV ksV spV tk LV gV aV (oW 6 (LS 1) ksT spT tk LZ gZ aZ (oW 4 hS ksS spS tk LS gS aS rw))) := gr2 (a := (oX 6 (LS 1) ksT spT tk LZ gZ aZ)) (b := (oX 4 hS ksS spS tk LS gS aS)) (x := (oX 3 hV ksV spV tk LV gV aV)) (r := rw) hst
    have hst : St dC dI A s.heap H locs (oW 6 (LS 1) ksT spT tk LZ gZ aZ (oW 3 hV ksV spV tk LV gV aV (oW 4 hS ksS spS tk LS gS aS rw))) := gr1 (a := (oX 3 hV ksV spV tk LV gV aV)) (b := (oX 6 (LS 1) ksT spT tk LZ gZ aZ)) (r := (oW 4 hS ksS spS tk LS gS aS rw)) hst
    refine cl_vi hx hb hml hown hG hg (cT_replace l dC dI tk A (LS 1) LZ gZ aZ hV LV gV aV (oW 4 hS ksS spS tk LS gS aS rw) n 0 (gZ 1) v2 _ _ _ hc41) (cw_v 4 hG k_611 k_585 k_586 k_5 k_587 (by decide +kernel) ⟨by decide, by decide⟩) hst rfl oW_0 rfl hl.1 rfl (Nat.le_of_ble_eq_true rfl) ⟨Nat.le_refl 0, Nat.le_refl 0⟩ d_S_edit_22 (fun H locs hst => ?_)
    have hst : St dC dI A s.heap H locs (oW 3 hV ksV spV tk LV gV aV (oW 6 (LS 1) ksT spT tk LZ g39 a40 (oW 4 hS ksS spS tk LS gS aS rw))) := gr1 (a := (oX 6 (LS 1) ksT spT tk LZ g39 a40)) (b := (oX 3 hV ksV spV tk LV gV aV)) (r := (oW 4 hS ksS spS tk LS gS aS rw)) hst
    have hst : St dC dI A s.heap H locs (oW 6 (LS 1) ksT spT tk LZ g39 a40 (oW 3 hV ksV spV tk LV gV aV (oW 4 hS ksS spS tk LS gS aS rw))) := gr1 (a := (oX 3 hV ksV spV tk LV gV aV)) (b := (oX 6 (LS 1) ksT spT tk LZ g39 a40)) (r := (oW 4 hS ksS spS tk LS gS aS rw)) hst
    have hst : St dC dI A s.heap H locs (oW 4 hS ksS spS tk LS gS aS (oW 6 (LS 1) ksT spT tk LZ g39 a40 (oW 3 hV ksV spV tk LV gV aV rw))) := gr2 (a := (oX 6 (LS 1) ksT spT tk LZ g39 a40)) (b := (oX 3 hV ksV spV tk LV gV aV)) (x := (oX 4 hS ksS spS tk LS gS aS)) (r := rw) hst
    obtain ⟨hn43, hm⟩ := gd_u hm
    have hst9 := hst
    have he := (Option.some.inj hm)
    cases he
    exact rt_i hx hb hr hlk (okz_n hn43).1 hst9 rfl d_S_edit_25
def mS_change (n : Nat) (v2 : Int32) (gS : aG) (aS : aA) (gZ : aG) (aZ : aA) (gV : aG) (aV : aA) (dP : aP) : Option (Int32 × aG × aA × aP) := bd (mV_hasShape n 21 v2 gV aV) (fun x1 => jn (α := Int32) (if x1 = 0 then (some (.inl (-1))) else (bd (mV_item n v2 0 gV aV) (fun x57 => bd (mS_find n x57 gS aS gV aV dP) (fun x60 => some (.inl x60))))) (fun x6 => if x6 = (-1) then (some ((0, gZ, aZ, dP))) else (bd (mV_numberAt n v2 1 gV aV) (fun x9 => gd (inb x6 3) (if ((dP x6.toNatClampNeg).2.1 3) < x9 then (gd (inb x6 3) (bd (mT_copyFrom n gZ aZ ((dP x6.toNatClampNeg).2.2.2.1) ((dP x6.toNatClampNeg).2.2.2.2)) (fun q18 => jn (α := aG × aA) (lp (ε := Int32 × aG × aA) (fun q39 => bd (mV_sizeOf n v2 gV aV) (fun x43 => if x43 ≤ q39.1 then (some (.inr (.inl (q39.2.1, q39.2.2)))) else (bd (mV_item n v2 q39.1 gV aV) (fun x47 => bd (mS_edit n x47 gS aS q39.2.1 q39.2.2 gV aV) (fun q54 => if q54.1 = 0 then (some (.inr (.inr ((0, q54.2.1, q54.2.2, dP))))) else (some (.inl ((q39.1 + 1), q54.2.1, q54.2.2)))))))) n (2, q18.1, q18.2)) (fun q23 => gd (inb x6 3) (bd (mT_copyFrom n ((dP x6.toNatClampNeg).2.2.2.1) ((dP x6.toNatClampNeg).2.2.2.2) q23.1 q23.2) (fun q28 => lt (va_up dP x6.toNatClampNeg ((dP x6.toNatClampNeg).1, (dP x6.toNatClampNeg).2.1, (dP x6.toNatClampNeg).2.2.1, q28.1, q28.2)) (fun d29 => gd (inb x6 3) (bd (mV_numberAt n v2 1 gV aV) (fun x31 => lt (va_up (d29 x6.toNatClampNeg).2.1 3 x31) (fun g34 => lt (va_up d29 x6.toNatClampNeg ((d29 x6.toNatClampNeg).1, g34, (d29 x6.toNatClampNeg).2.2.1, (d29 x6.toNatClampNeg).2.2.2.1, (d29 x6.toNatClampNeg).2.2.2.2)) (fun d35 => some ((1, q23.1, q23.2, d35))))))))))))) else (some ((0, gZ, aZ, dP))))))))
theorem d_S_change_0 : decode prog_7_method_5_code 0 = .ok (.aload_n 1, 1) := by decide +kernel
theorem d_S_change_1 : decode prog_7_method_5_code 1 = .ok (.iload_n 2, 1) := by decide +kernel
theorem d_S_change_2 : decode prog_7_method_5_code 2 = .ok (.ldc 54, 2) := by decide +kernel
theorem d_S_change_4 : decode prog_7_method_5_code 4 = .ok (.invokevirtual 35, 3) := by decide +kernel
theorem d_S_change_7 : decode prog_7_method_5_code 7 = .ok (.ifCond .eq 17, 3) := by decide +kernel
theorem d_S_change_10 : decode prog_7_method_5_code 10 = .ok (.aload_n 0, 1) := by decide +kernel
theorem d_S_change_11 : decode prog_7_method_5_code 11 = .ok (.aload_n 1, 1) := by decide +kernel
theorem d_S_change_12 : decode prog_7_method_5_code 12 = .ok (.aload_n 1, 1) := by decide +kernel
theorem d_S_change_13 : decode prog_7_method_5_code 13 = .ok (.iload_n 2, 1) := by decide +kernel
theorem d_S_change_14 : decode prog_7_method_5_code 14 = .ok (.iconst 0, 1) := by decide +kernel
theorem d_S_change_15 : decode prog_7_method_5_code 15 = .ok (.invokevirtual 41, 3) := by decide +kernel
theorem d_S_change_18 : decode prog_7_method_5_code 18 = .ok (.invokevirtual 45, 3) := by decide +kernel
theorem d_S_change_21 : decode prog_7_method_5_code 21 = .ok (.goto 4, 3) := by decide +kernel
theorem d_S_change_24 : decode prog_7_method_5_code 24 = .ok (.iconst (-1), 1) := by decide +kernel
theorem d_S_change_25 : decode prog_7_method_5_code 25 = .ok (.istore_n 3, 1) := by decide +kernel
theorem d_S_change_26 : decode prog_7_method_5_code 26 = .ok (.iload_n 3, 1) := by decide +kernel
theorem d_S_change_27 : decode prog_7_method_5_code 27 = .ok (.iconst (-1), 1) := by decide +kernel
theorem d_S_change_28 : decode prog_7_method_5_code 28 = .ok (.if_icmp .eq 21, 3) := by decide +kernel
theorem d_S_change_31 : decode prog_7_method_5_code 31 = .ok (.aload_n 1, 1) := by decide +kernel
theorem d_S_change_32 : decode prog_7_method_5_code 32 = .ok (.iload_n 2, 1) := by decide +kernel
theorem d_S_change_33 : decode prog_7_method_5_code 33 = .ok (.iconst 1, 1) := by decide +kernel
theorem d_S_change_34 : decode prog_7_method_5_code 34 = .ok (.invokevirtual 56, 3) := by decide +kernel
theorem d_S_change_37 : decode prog_7_method_5_code 37 = .ok (.aload_n 0, 1) := by decide +kernel
theorem d_S_change_38 : decode prog_7_method_5_code 38 = .ok (.getfield 13, 3) := by decide +kernel
theorem d_S_change_41 : decode prog_7_method_5_code 41 = .ok (.iload_n 3, 1) := by decide +kernel
theorem d_S_change_42 : decode prog_7_method_5_code 42 = .ok (.aaload, 1) := by decide +kernel
theorem d_S_change_43 : decode prog_7_method_5_code 43 = .ok (.getfield 59, 3) := by decide +kernel
theorem d_S_change_46 : decode prog_7_method_5_code 46 = .ok (.if_icmp .gt 5, 3) := by decide +kernel
theorem d_S_change_49 : decode prog_7_method_5_code 49 = .ok (.iconst 0, 1) := by decide +kernel
theorem d_S_change_50 : decode prog_7_method_5_code 50 = .ok (.ireturn, 1) := by decide +kernel
theorem d_S_change_51 : decode prog_7_method_5_code 51 = .ok (.aload_n 0, 1) := by decide +kernel
theorem d_S_change_52 : decode prog_7_method_5_code 52 = .ok (.getfield 20, 3) := by decide +kernel
theorem d_S_change_55 : decode prog_7_method_5_code 55 = .ok (.aload_n 0, 1) := by decide +kernel
theorem d_S_change_56 : decode prog_7_method_5_code 56 = .ok (.getfield 13, 3) := by decide +kernel
theorem d_S_change_59 : decode prog_7_method_5_code 59 = .ok (.iload_n 3, 1) := by decide +kernel
theorem d_S_change_60 : decode prog_7_method_5_code 60 = .ok (.aaload, 1) := by decide +kernel
theorem d_S_change_61 : decode prog_7_method_5_code 61 = .ok (.getfield 62, 3) := by decide +kernel
theorem d_S_change_64 : decode prog_7_method_5_code 64 = .ok (.invokevirtual 65, 3) := by decide +kernel
theorem d_S_change_67 : decode prog_7_method_5_code 67 = .ok (.iconst 2, 1) := by decide +kernel
theorem d_S_change_68 : decode prog_7_method_5_code 68 = .ok (.istore 4, 2) := by decide +kernel
theorem d_S_change_70 : decode prog_7_method_5_code 70 = .ok (.iload 4, 2) := by decide +kernel
theorem d_S_change_72 : decode prog_7_method_5_code 72 = .ok (.aload_n 1, 1) := by decide +kernel
theorem d_S_change_73 : decode prog_7_method_5_code 73 = .ok (.iload_n 2, 1) := by decide +kernel
theorem d_S_change_74 : decode prog_7_method_5_code 74 = .ok (.invokevirtual 69, 3) := by decide +kernel
theorem d_S_change_77 : decode prog_7_method_5_code 77 = .ok (.if_icmp .ge 26, 3) := by decide +kernel
theorem d_S_change_80 : decode prog_7_method_5_code 80 = .ok (.aload_n 0, 1) := by decide +kernel
theorem d_S_change_81 : decode prog_7_method_5_code 81 = .ok (.aload_n 1, 1) := by decide +kernel
theorem d_S_change_82 : decode prog_7_method_5_code 82 = .ok (.aload_n 1, 1) := by decide +kernel
theorem d_S_change_83 : decode prog_7_method_5_code 83 = .ok (.iload_n 2, 1) := by decide +kernel
theorem d_S_change_84 : decode prog_7_method_5_code 84 = .ok (.iload 4, 2) := by decide +kernel
theorem d_S_change_86 : decode prog_7_method_5_code 86 = .ok (.invokevirtual 41, 3) := by decide +kernel
theorem d_S_change_89 : decode prog_7_method_5_code 89 = .ok (.invokevirtual 73, 3) := by decide +kernel
theorem d_S_change_92 : decode prog_7_method_5_code 92 = .ok (.ifCond .ne 5, 3) := by decide +kernel
theorem d_S_change_95 : decode prog_7_method_5_code 95 = .ok (.iconst 0, 1) := by decide +kernel
theorem d_S_change_96 : decode prog_7_method_5_code 96 = .ok (.ireturn, 1) := by decide +kernel
theorem d_S_change_97 : decode prog_7_method_5_code 97 = .ok (.iinc 4 1, 3) := by decide +kernel
theorem d_S_change_100 : decode prog_7_method_5_code 100 = .ok (.goto (-30), 3) := by decide +kernel
theorem d_S_change_103 : decode prog_7_method_5_code 103 = .ok (.aload_n 0, 1) := by decide +kernel
theorem d_S_change_104 : decode prog_7_method_5_code 104 = .ok (.getfield 13, 3) := by decide +kernel
theorem d_S_change_107 : decode prog_7_method_5_code 107 = .ok (.iload_n 3, 1) := by decide +kernel
theorem d_S_change_108 : decode prog_7_method_5_code 108 = .ok (.aaload, 1) := by decide +kernel
theorem d_S_change_109 : decode prog_7_method_5_code 109 = .ok (.getfield 62, 3) := by decide +kernel
theorem d_S_change_112 : decode prog_7_method_5_code 112 = .ok (.aload_n 0, 1) := by decide +kernel
theorem d_S_change_113 : decode prog_7_method_5_code 113 = .ok (.getfield 20, 3) := by decide +kernel
theorem d_S_change_116 : decode prog_7_method_5_code 116 = .ok (.invokevirtual 65, 3) := by decide +kernel
theorem d_S_change_119 : decode prog_7_method_5_code 119 = .ok (.aload_n 0, 1) := by decide +kernel
theorem d_S_change_120 : decode prog_7_method_5_code 120 = .ok (.getfield 13, 3) := by decide +kernel
theorem d_S_change_123 : decode prog_7_method_5_code 123 = .ok (.iload_n 3, 1) := by decide +kernel
theorem d_S_change_124 : decode prog_7_method_5_code 124 = .ok (.aaload, 1) := by decide +kernel
theorem d_S_change_125 : decode prog_7_method_5_code 125 = .ok (.aload_n 1, 1) := by decide +kernel
theorem d_S_change_126 : decode prog_7_method_5_code 126 = .ok (.iload_n 2, 1) := by decide +kernel
theorem d_S_change_127 : decode prog_7_method_5_code 127 = .ok (.iconst 1, 1) := by decide +kernel
theorem d_S_change_128 : decode prog_7_method_5_code 128 = .ok (.invokevirtual 56, 3) := by decide +kernel
theorem d_S_change_131 : decode prog_7_method_5_code 131 = .ok (.putfield 59, 3) := by decide +kernel
theorem d_S_change_134 : decode prog_7_method_5_code 134 = .ok (.iconst 1, 1) := by decide +kernel
theorem d_S_change_135 : decode prog_7_method_5_code 135 = .ok (.ireturn, 1) := by decide +kernel
set_option maxHeartbeats 4000000 in
set_option maxRecDepth 100000 in
theorem cS_change (l : Launch) (dC : Nat → ClassId) (dI : Nat → Nat → Nat) (tk : Nat → ClassId) (A : Nat → Prop) (hS : Nat) (LS : Nat → Nat) (gS : aG) (aS : aA) (LZ : Nat → Nat) (gZ : aG) (aZ : aA) (hV : Nat) (LV : Nat → Nat) (gV : aG) (aV : aA) (dP : aP) (rw : va_W) (n : Nat) (v2 : Int32) (r0 : Int32) (ogZ : aG) (oaZ : aA) (odP : aP) (hm : mS_change n v2 gS aS gZ aZ gV aV dP = some (r0, ogZ, oaZ, odP)) : CtI l dC dI tk A ⟨"EditorServer$Shelf", "change", "(LEditorServer$Values;I)Z"⟩ prog_7_method_5_code 5 (some .boolean) 6 134 [.ref hS, .ref hV, .int v2] (oW 4 hS ksS spS tk LS gS aS (rA 4 (LS 0) 3 tk (fun i => some (dP i).1.1) (oW 6 (LS 1) ksT spT tk LZ gZ aZ (oW 3 hV ksV spV tk LV gV aV (pW 5 ksD spD 1 tk dP 3 rw))))) r0 (oW 4 hS ksS spS tk LS gS aS (rA 4 (LS 0) 3 tk (fun i => some (odP i).1.1) (oW 6 (LS 1) ksT spT tk LZ ogZ oaZ (oW 3 hV ksV spV tk LV gV aV (pW 5 ksD spD 1 tk odP 3 rw))))) := by
  refine ent (by decide) (Nat.le_of_ble_eq_true rfl) ?_
  intro p e s m args below meth c hx hb hr hml hown hlk hG hg hst ls hl
  unfold mS_change at hm
  have hl : lv_has ls 5 [(0, .ref hS), (1, .ref hV), (2, .int v2)] := hl
  obtain ⟨H, hH⟩ : ∃ H, H = s.heap := ⟨_, rfl⟩
  obtain ⟨locs, hlc⟩ : ∃ locs : List Loc, locs = [] := ⟨_, rfl⟩
  have hst : St dC dI A s.heap H locs (oW 4 hS ksS spS tk LS gS aS (rA 4 (LS 0) 3 tk (fun i => some (dP i).1.1) (oW 6 (LS 1) ksT spT tk LZ gZ aZ (oW 3 hV ksV spV tk LV gV aV (pW 5 ksD spD 1 tk dP 3 rw))))) := by rw [hH, hlc]; exact hst
  suffices hw : W p l e (rmo 6 134) s m args below meth c H locs 0 0 (MQ below (QI dC dI A r0 (oW 4 hS ksS spS tk LS gS aS (rA 4 (LS 0) 3 tk (fun i => some (odP i).1.1) (oW 6 (LS 1) ksT spT tk LZ ogZ oaZ (oW 3 hV ksV spV tk LV gV aV (pW 5 ksD spD 1 tk odP 3 rw)))))) args s 0 0 A) (F0 m 0 ls []) by rw [hH, hlc] at hw; exact hw
  refine lv_aload_n hx hb d_S_change_0 rfl (lv_at hl 1 rfl) ?_
  refine lv_iload_n hx hb d_S_change_1 rfl (lv_at hl 2 rfl) ?_
  refine va_ldcS (tx := stxt 21) hx hb hown (hg.2.2.2.1 21 (by decide)).2.2.2.2 d_S_change_2 ?_
  obtain ⟨x1, hc2, hm⟩ := bd_u hm
  have hst : St dC dI A s.heap H locs (oW 3 hV ksV spV tk LV gV aV (oW 4 hS ksS spS tk LS gS aS (rA 4 (LS 0) 3 tk (fun i => some (dP i).1.1) (oW 6 (LS 1) ksT spT tk LZ gZ aZ (pW 5 ksD spD 1 tk dP 3 rw))))) := gr3 (a := (oX 4 hS ksS spS tk LS gS aS)) (b := (rX 4 (LS 0) 3 tk (fun i => some (dP i).1.1))) (x := (oX 6 (LS 1) ksT spT tk LZ gZ aZ)) (y := (oX 3 hV ksV spV tk LV gV aV)) (r := (pW 5 ksD spD 1 tk dP 3 rw)) hst
  refine cl_vi hx hb hml hown hG hg (cV_hasShape l dC dI tk A hV LV gV aV (oW 4 hS ksS spS tk LS gS aS (rA 4 (LS 0) 3 tk (fun i => some (dP i).1.1) (oW 6 (LS 1) ksT spT tk LZ gZ aZ (pW 5 ksD spD 1 tk dP 3 rw)))) n 21 (by decide) v2 _ hc2) (cw_v 2 hG k_576 k_495 k_496 k_3 k_497 (by decide +kernel) ⟨by decide, by decide⟩) hst rfl oW_0 rfl hl.1 rfl (Nat.le_of_ble_eq_true rfl) ⟨Nat.le_refl 0, Nat.le_refl 0⟩ d_S_change_4 (fun H locs hst => ?_)
  have hst : St dC dI A s.heap H locs (pW 5 ksD spD 1 tk dP 3 (oW 3 hV ksV spV tk LV gV aV (oW 4 hS ksS spS tk LS gS aS (rA 4 (LS 0) 3 tk (fun i => some (dP i).1.1) (oW 6 (LS 1) ksT spT tk LZ gZ aZ rw))))) := gr4 (a := (oX 3 hV ksV spV tk LV gV aV)) (b := (oX 4 hS ksS spS tk LS gS aS)) (x := (rX 4 (LS 0) 3 tk (fun i => some (dP i).1.1))) (y := (oX 6 (LS 1) ksT spT tk LZ gZ aZ)) (z := (pF 5 ksD spD 1 tk dP 3)) (r := rw) hst
  have hst : St dC dI A s.heap H locs (oW 3 hV ksV spV tk LV gV aV (pW 5 ksD spD 1 tk dP 3 (oW 4 hS ksS spS tk LS gS aS (rA 4 (LS 0) 3 tk (fun i => some (dP i).1.1) (oW 6 (LS 1) ksT spT tk LZ gZ aZ rw))))) := gr1 (a := (pF 5 ksD spD 1 tk dP 3)) (b := (oX 3 hV ksV spV tk LV gV aV)) (r := (oW 4 hS ksS spS tk LS gS aS (rA 4 (LS 0) 3 tk (fun i => some (dP i).1.1) (oW 6 (LS 1) ksT spT tk LZ gZ aZ rw)))) hst
  have hst : St dC dI A s.heap H locs (oW 6 (LS 1) ksT spT tk LZ gZ aZ (oW 3 hV ksV spV tk LV gV aV (pW 5 ksD spD 1 tk dP 3 (oW 4 hS ksS spS tk LS gS aS (rA 4 (LS 0) 3 tk (fun i => some (dP i).1.1) rw))))) := gr4 (a := (oX 3 hV ksV spV tk LV gV aV)) (b := (pF 5 ksD spD 1 tk dP 3)) (x := (oX 4 hS ksS spS tk LS gS aS)) (y := (rX 4 (LS 0) 3 tk (fun i => some (dP i).1.1))) (z := (oX 6 (LS 1) ksT spT tk LZ gZ aZ)) (r := rw) hst
  have hst : St dC dI A s.heap H locs (rA 4 (LS 0) 3 tk (fun i => some (dP i).1.1) (oW 6 (LS 1) ksT spT tk LZ gZ aZ (oW 3 hV ksV spV tk LV gV aV (pW 5 ksD spD 1 tk dP 3 (oW 4 hS ksS spS tk LS gS aS rw))))) := gr4 (a := (oX 6 (LS 1) ksT spT tk LZ gZ aZ)) (b := (oX 3 hV ksV spV tk LV gV aV)) (x := (pF 5 ksD spD 1 tk dP 3)) (y := (oX 4 hS ksS spS tk LS gS aS)) (z := (rX 4 (LS 0) 3 tk (fun i => some (dP i).1.1))) (r := rw) hst
  have hst : St dC dI A s.heap H locs (oW 4 hS ksS spS tk LS gS aS (rA 4 (LS 0) 3 tk (fun i => some (dP i).1.1) (oW 6 (LS 1) ksT spT tk LZ gZ aZ (oW 3 hV ksV spV tk LV gV aV (pW 5 ksD spD 1 tk dP 3 rw))))) := gr4 (a := (rX 4 (LS 0) 3 tk (fun i => some (dP i).1.1))) (b := (oX 6 (LS 1) ksT spT tk LZ gZ aZ)) (x := (oX 3 hV ksV spV tk LV gV aV)) (y := (pF 5 ksD spD 1 tk dP 3)) (z := (oX 4 hS ksS spS tk LS gS aS)) (r := rw) hst
  obtain ⟨qJ4, hm, hLJ4, hR5⟩ := jn_u hm
  have hJ4 : ∀ (x6 : Int32), qJ4 = .inl x6 → ∀ (H : Heap) (locs : List Loc) (ls : Array Slot), lv_has ls 5 [(0, .ref hS), (1, .ref hV), (2, .int v2)] → St dC dI A s.heap H locs (oW 4 hS ksS spS tk LS gS aS (rA 4 (LS 0) 3 tk (fun i => some (dP i).1.1) (oW 6 (LS 1) ksT spT tk LZ gZ aZ (oW 3 hV ksV spV tk LV gV aV (pW 5 ksD spD 1 tk dP 3 rw))))) → W p l e (rmo 6 134) s m args below meth c H locs 0 0 (MQ below (QI dC dI A r0 (oW 4 hS ksS spS tk LS gS aS (rA 4 (LS 0) 3 tk (fun i => some (odP i).1.1) (oW 6 (LS 1) ksT spT tk LZ ogZ oaZ (oW 3 hV ksV spV tk LV gV aV (pW 5 ksD spD 1 tk odP 3 rw)))))) args s 0 0 A) (F0 m 25 ls [.int x6]) := by
    intro x6 hq H locs ls hl hst
    have hm := hLJ4 _ hq
    refine lv_istore_n (lv' := [(3, .int x6), (0, .ref hS), (1, .ref hV), (2, .int v2)]) hx hb d_S_change_25 rfl hl (by decide) rfl (fun ls hl => ?_)
    refine lv_iload_n hx hb d_S_change_26 rfl (lv_at hl 0 rfl) ?_
    refine lv_iconst (v := (-1)) hx hb d_S_change_27 (by decide) ?_
    refine lv_icmp_eq (tgt := 49) hx hb d_S_change_28 (by decide) (fun h8 => ?_) (fun h8 => ?_)
    · have hm := it_t hm h8
      refine lv_iconst (v := 0) hx hb d_S_change_49 (by decide) ?_
      have hst9 := hst
      have he := (Option.some.inj hm)
      cases he
      exact rt_i hx hb hr hlk (by decide) hst9 rfl d_S_change_50
    · have hm := it_f hm h8
      refine lv_aload_n hx hb d_S_change_31 rfl (lv_at hl 2 rfl) ?_
      refine lv_iload_n hx hb d_S_change_32 rfl (lv_at hl 3 rfl) ?_
      refine lv_iconst (v := 1) hx hb d_S_change_33 (by decide) ?_
      obtain ⟨x9, hc10, hm⟩ := bd_u hm
      have hst : St dC dI A s.heap H locs (oW 3 hV ksV spV tk LV gV aV (oW 4 hS ksS spS tk LS gS aS (rA 4 (LS 0) 3 tk (fun i => some (dP i).1.1) (oW 6 (LS 1) ksT spT tk LZ gZ aZ (pW 5 ksD spD 1 tk dP 3 rw))))) := gr3 (a := (oX 4 hS ksS spS tk LS gS aS)) (b := (rX 4 (LS 0) 3 tk (fun i => some (dP i).1.1))) (x := (oX 6 (LS 1) ksT spT tk LZ gZ aZ)) (y := (oX 3 hV ksV spV tk LV gV aV)) (r := (pW 5 ksD spD 1 tk dP 3 rw)) hst
      refine cl_vi hx hb hml hown hG hg (cV_numberAt l dC dI tk A hV LV gV aV (oW 4 hS ksS spS tk LS gS aS (rA 4 (LS 0) 3 tk (fun i => some (dP i).1.1) (oW 6 (LS 1) ksT spT tk LZ gZ aZ (pW 5 ksD spD 1 tk dP 3 rw)))) n v2 1 _ hc10) (cw_v 2 hG k_603 k_551 k_552 k_3 k_553 (by decide +kernel) ⟨by decide, by decide⟩) hst rfl oW_0 rfl hl.1 rfl (Nat.le_of_ble_eq_true rfl) ⟨Nat.le_refl 0, Nat.le_refl 0⟩ d_S_change_34 (fun H locs hst => ?_)
      refine lv_aload_n hx hb d_S_change_37 rfl (lv_at hl 1 rfl) ?_
      have hst : St dC dI A s.heap H locs (oW 4 hS ksS spS tk LS gS aS (oW 3 hV ksV spV tk LV gV aV (rA 4 (LS 0) 3 tk (fun i => some (dP i).1.1) (oW 6 (LS 1) ksT spT tk LZ gZ aZ (pW 5 ksD spD 1 tk dP 3 rw))))) := gr1 (a := (oX 3 hV ksV spV tk LV gV aV)) (b := (oX 4 hS ksS spS tk LS gS aS)) (r := (rA 4 (LS 0) 3 tk (fun i => some (dP i).1.1) (oW 6 (LS 1) ksT spT tk LZ gZ aZ (pW 5 ksD spD 1 tk dP 3 rw)))) hst
      refine ro_geta hx hb hown hG hg cS hst 0 0 (by decide) rfl rfl k_163 d_S_change_38 ?_
      refine lv_iload_n hx hb d_S_change_41 rfl (lv_at hl 0 rfl) ?_
      obtain ⟨hn12, hm⟩ := gd_u hm
      have hst : St dC dI A s.heap H locs (rA 4 (LS 0) 3 tk (fun i => some (dP i).1.1) (oW 4 hS ksS spS tk LS gS aS (oW 3 hV ksV spV tk LV gV aV (oW 6 (LS 1) ksT spT tk LZ gZ aZ (pW 5 ksD spD 1 tk dP 3 rw))))) := gr2 (a := (oX 4 hS ksS spS tk LS gS aS)) (b := (oX 3 hV ksV spV tk LV gV aV)) (x := (rX 4 (LS 0) 3 tk (fun i => some (dP i).1.1))) (r := (oW 6 (LS 1) ksT spT tk LZ gZ aZ (pW 5 ksD spD 1 tk dP 3 rw))) hst
      refine ro_aald (a := (dP x6.toNatClampNeg).1.1) hx hb hg hst rfl hn12 rfl d_S_change_42 ?_
      have hst : St dC dI A s.heap H locs (pW 5 ksD spD 1 tk dP 3 (rA 4 (LS 0) 3 tk (fun i => some (dP i).1.1) (oW 4 hS ksS spS tk LS gS aS (oW 3 hV ksV spV tk LV gV aV (oW 6 (LS 1) ksT spT tk LZ gZ aZ rw))))) := gr4 (a := (rX 4 (LS 0) 3 tk (fun i => some (dP i).1.1))) (b := (oX 4 hS ksS spS tk LS gS aS)) (x := (oX 3 hV ksV spV tk LV gV aV)) (y := (oX 6 (LS 1) ksT spT tk LZ gZ aZ)) (z := (pF 5 ksD spD 1 tk dP 3)) (r := rw) hst
      have hst := foc (d := x6.toNatClampNeg) hst (inb_lt hn12)
      refine rn_geti hx hb hown hG hg cD hst 3 (by decide) rfl rfl t_152 d_S_change_43 ?_
      refine lv_icmp_gt (tgt := 51) hx hb d_S_change_46 (by decide) (fun h13 => ?_) (fun h13 => ?_)
      · have hm := it_t hm h13
        refine lv_aload_n hx hb d_S_change_51 rfl (lv_at hl 1 rfl) ?_
        have hst : St dC dI A s.heap H locs (oW 4 hS ksS spS tk LS gS aS (oW 5 (dP x6.toNatClampNeg).1.1 ksD spD tk (dP x6.toNatClampNeg).1.2.1 (dP x6.toNatClampNeg).2.1 (dP x6.toNatClampNeg).2.2.1 (oW 6 ((dP x6.toNatClampNeg).1.2.1 1) ksT spT tk (dP x6.toNatClampNeg).1.2.2 (dP x6.toNatClampNeg).2.2.2.1 (dP x6.toNatClampNeg).2.2.2.2 (pO 5 ksD spD 1 tk dP 3 x6.toNatClampNeg (rA 4 (LS 0) 3 tk (fun i => some (dP i).1.1) (oW 3 hV ksV spV tk LV gV aV (oW 6 (LS 1) ksT spT tk LZ gZ aZ rw))))))) := gr4 (a := (oX 5 (dP x6.toNatClampNeg).1.1 ksD spD tk (dP x6.toNatClampNeg).1.2.1 (dP x6.toNatClampNeg).2.1 (dP x6.toNatClampNeg).2.2.1)) (b := (oX 6 ((dP x6.toNatClampNeg).1.2.1 1) ksT spT tk (dP x6.toNatClampNeg).1.2.2 (dP x6.toNatClampNeg).2.2.2.1 (dP x6.toNatClampNeg).2.2.2.2)) (x := (pG 5 ksD spD 1 tk dP 3 x6.toNatClampNeg)) (y := (rX 4 (LS 0) 3 tk (fun i => some (dP i).1.1))) (z := (oX 4 hS ksS spS tk LS gS aS)) (r := (oW 3 hV ksV spV tk LV gV aV (oW 6 (LS 1) ksT spT tk LZ gZ aZ rw))) hst
        refine ro_geta hx hb hown hG hg cS hst 1 1 (by decide) rfl rfl k_165 d_S_change_52 ?_
        refine lv_aload_n hx hb d_S_change_55 rfl (lv_at hl 1 rfl) ?_
        refine ro_geta hx hb hown hG hg cS hst 0 0 (by decide) rfl rfl k_163 d_S_change_56 ?_
        refine lv_iload_n hx hb d_S_change_59 rfl (lv_at hl 0 rfl) ?_
        have hst : St dC dI A s.heap H locs (pO 5 ksD spD 1 tk dP 3 x6.toNatClampNeg (oW 4 hS ksS spS tk LS gS aS (oW 5 (dP x6.toNatClampNeg).1.1 ksD spD tk (dP x6.toNatClampNeg).1.2.1 (dP x6.toNatClampNeg).2.1 (dP x6.toNatClampNeg).2.2.1 (oW 6 ((dP x6.toNatClampNeg).1.2.1 1) ksT spT tk (dP x6.toNatClampNeg).1.2.2 (dP x6.toNatClampNeg).2.2.2.1 (dP x6.toNatClampNeg).2.2.2.2 (rA 4 (LS 0) 3 tk (fun i => some (dP i).1.1) (oW 3 hV ksV spV tk LV gV aV (oW 6 (LS 1) ksT spT tk LZ gZ aZ rw))))))) := gr3 (a := (oX 4 hS ksS spS tk LS gS aS)) (b := (oX 5 (dP x6.toNatClampNeg).1.1 ksD spD tk (dP x6.toNatClampNeg).1.2.1 (dP x6.toNatClampNeg).2.1 (dP x6.toNatClampNeg).2.2.1)) (x := (oX 6 ((dP x6.toNatClampNeg).1.2.1 1) ksT spT tk (dP x6.toNatClampNeg).1.2.2 (dP x6.toNatClampNeg).2.2.2.1 (dP x6.toNatClampNeg).2.2.2.2)) (y := (pG 5 ksD spD 1 tk dP 3 x6.toNatClampNeg)) (r := (rA 4 (LS 0) 3 tk (fun i => some (dP i).1.1) (oW 3 hV ksV spV tk LV gV aV (oW 6 (LS 1) ksT spT tk LZ gZ aZ rw)))) hst
        have hst : St dC dI A s.heap H locs (oW 6 ((dP x6.toNatClampNeg).1.2.1 1) ksT spT tk (dP x6.toNatClampNeg).1.2.2 (dP x6.toNatClampNeg).2.2.2.1 (dP x6.toNatClampNeg).2.2.2.2 (pO 5 ksD spD 1 tk dP 3 x6.toNatClampNeg (oW 4 hS ksS spS tk LS gS aS (oW 5 (dP x6.toNatClampNeg).1.1 ksD spD tk (dP x6.toNatClampNeg).1.2.1 (dP x6.toNatClampNeg).2.1 (dP x6.toNatClampNeg).2.2.1 (rA 4 (LS 0) 3 tk (fun i => some (dP i).1.1) (oW 3 hV ksV spV tk LV gV aV (oW 6 (LS 1) ksT spT tk LZ gZ aZ rw))))))) := gr3 (a := (pG 5 ksD spD 1 tk dP 3 x6.toNatClampNeg)) (b := (oX 4 hS ksS spS tk LS gS aS)) (x := (oX 5 (dP x6.toNatClampNeg).1.1 ksD spD tk (dP x6.toNatClampNeg).1.2.1 (dP x6.toNatClampNeg).2.1 (dP x6.toNatClampNeg).2.2.1)) (y := (oX 6 ((dP x6.toNatClampNeg).1.2.1 1) ksT spT tk (dP x6.toNatClampNeg).1.2.2 (dP x6.toNatClampNeg).2.2.2.1 (dP x6.toNatClampNeg).2.2.2.2)) (r := (rA 4 (LS 0) 3 tk (fun i => some (dP i).1.1) (oW 3 hV ksV spV tk LV gV aV (oW 6 (LS 1) ksT spT tk LZ gZ aZ rw)))) hst
        have hst : St dC dI A s.heap H locs (oW 5 (dP x6.toNatClampNeg).1.1 ksD spD tk (dP x6.toNatClampNeg).1.2.1 (dP x6.toNatClampNeg).2.1 (dP x6.toNatClampNeg).2.2.1 (oW 6 ((dP x6.toNatClampNeg).1.2.1 1) ksT spT tk (dP x6.toNatClampNeg).1.2.2 (dP x6.toNatClampNeg).2.2.2.1 (dP x6.toNatClampNeg).2.2.2.2 (pO 5 ksD spD 1 tk dP 3 x6.toNatClampNeg (oW 4 hS ksS spS tk LS gS aS (rA 4 (LS 0) 3 tk (fun i => some (dP i).1.1) (oW 3 hV ksV spV tk LV gV aV (oW 6 (LS 1) ksT spT tk LZ gZ aZ rw))))))) := gr3 (a := (oX 6 ((dP x6.toNatClampNeg).1.2.1 1) ksT spT tk (dP x6.toNatClampNeg).1.2.2 (dP x6.toNatClampNeg).2.2.2.1 (dP x6.toNatClampNeg).2.2.2.2)) (b := (pG 5 ksD spD 1 tk dP 3 x6.toNatClampNeg)) (x := (oX 4 hS ksS spS tk LS gS aS)) (y := (oX 5 (dP x6.toNatClampNeg).1.1 ksD spD tk (dP x6.toNatClampNeg).1.2.1 (dP x6.toNatClampNeg).2.1 (dP x6.toNatClampNeg).2.2.1)) (r := (rA 4 (LS 0) 3 tk (fun i => some (dP i).1.1) (oW 3 hV ksV spV tk LV gV aV (oW 6 (LS 1) ksT spT tk LZ gZ aZ rw)))) hst
        have hst := unf0 (d := x6.toNatClampNeg) hst (inb_lt hn12)
        obtain ⟨hn14, hm⟩ := gd_u hm
        have hst : St dC dI A s.heap H locs (rA 4 (LS 0) 3 tk (fun i => some (dP i).1.1) (pW 5 ksD spD 1 tk dP 3 (oW 4 hS ksS spS tk LS gS aS (oW 3 hV ksV spV tk LV gV aV (oW 6 (LS 1) ksT spT tk LZ gZ aZ rw))))) := gr2 (a := (pF 5 ksD spD 1 tk dP 3)) (b := (oX 4 hS ksS spS tk LS gS aS)) (x := (rX 4 (LS 0) 3 tk (fun i => some (dP i).1.1))) (r := (oW 3 hV ksV spV tk LV gV aV (oW 6 (LS 1) ksT spT tk LZ gZ aZ rw))) hst
        refine ro_aald (a := (dP x6.toNatClampNeg).1.1) hx hb hg hst rfl hn14 rfl d_S_change_60 ?_
        have hst : St dC dI A s.heap H locs (pW 5 ksD spD 1 tk dP 3 (rA 4 (LS 0) 3 tk (fun i => some (dP i).1.1) (oW 4 hS ksS spS tk LS gS aS (oW 3 hV ksV spV tk LV gV aV (oW 6 (LS 1) ksT spT tk LZ gZ aZ rw))))) := gr1 (a := (rX 4 (LS 0) 3 tk (fun i => some (dP i).1.1))) (b := (pF 5 ksD spD 1 tk dP 3)) (r := (oW 4 hS ksS spS tk LS gS aS (oW 3 hV ksV spV tk LV gV aV (oW 6 (LS 1) ksT spT tk LZ gZ aZ rw)))) hst
        have hst := foc (d := x6.toNatClampNeg) hst (inb_lt hn14)
        refine rn_geta hx hb hown hG hg cD hst 1 1 (by decide) rfl rfl t_147 d_S_change_61 ?_
        have hst : St dC dI A s.heap H locs (oW 6 ((dP x6.toNatClampNeg).1.2.1 1) ksT spT tk (dP x6.toNatClampNeg).1.2.2 (dP x6.toNatClampNeg).2.2.2.1 (dP x6.toNatClampNeg).2.2.2.2 (oW 5 (dP x6.toNatClampNeg).1.1 ksD spD tk (dP x6.toNatClampNeg).1.2.1 (dP x6.toNatClampNeg).2.1 (dP x6.toNatClampNeg).2.2.1 (pO 5 ksD spD 1 tk dP 3 x6.toNatClampNeg (rA 4 (LS 0) 3 tk (fun i => some (dP i).1.1) (oW 4 hS ksS spS tk LS gS aS (oW 3 hV ksV spV tk LV gV aV (oW 6 (LS 1) ksT spT tk LZ gZ aZ rw))))))) := gr1 (a := (oX 5 (dP x6.toNatClampNeg).1.1 ksD spD tk (dP x6.toNatClampNeg).1.2.1 (dP x6.toNatClampNeg).2.1 (dP x6.toNatClampNeg).2.2.1)) (b := (oX 6 ((dP x6.toNatClampNeg).1.2.1 1) ksT spT tk (dP x6.toNatClampNeg).1.2.2 (dP x6.toNatClampNeg).2.2.2.1 (dP x6.toNatClampNeg).2.2.2.2)) (r := (pO 5 ksD spD 1 tk dP 3 x6.toNatClampNeg (rA 4 (LS 0) 3 tk (fun i => some (dP i).1.1) (oW 4 hS ksS spS tk LS gS aS (oW 3 hV ksV spV tk LV gV aV (oW 6 (LS 1) ksT spT tk LZ gZ aZ rw)))))) hst
        obtain ⟨⟨g15, a16⟩, hc17, hm⟩ := bd_u hm
        dsimp only at hm
        have hst : St dC dI A s.heap H locs (oW 6 (LS 1) ksT spT tk LZ gZ aZ (oW 6 ((dP x6.toNatClampNeg).1.2.1 1) ksT spT tk (dP x6.toNatClampNeg).1.2.2 (dP x6.toNatClampNeg).2.2.2.1 (dP x6.toNatClampNeg).2.2.2.2 (oW 5 (dP x6.toNatClampNeg).1.1 ksD spD tk (dP x6.toNatClampNeg).1.2.1 (dP x6.toNatClampNeg).2.1 (dP x6.toNatClampNeg).2.2.1 (pO 5 ksD spD 1 tk dP 3 x6.toNatClampNeg (rA 4 (LS 0) 3 tk (fun i => some (dP i).1.1) (oW 4 hS ksS spS tk LS gS aS (oW 3 hV ksV spV tk LV gV aV rw))))))) := gr6 (a := (oX 6 ((dP x6.toNatClampNeg).1.2.1 1) ksT spT tk (dP x6.toNatClampNeg).1.2.2 (dP x6.toNatClampNeg).2.2.2.1 (dP x6.toNatClampNeg).2.2.2.2)) (b := (oX 5 (dP x6.toNatClampNeg).1.1 ksD spD tk (dP x6.toNatClampNeg).1.2.1 (dP x6.toNatClampNeg).2.1 (dP x6.toNatClampNeg).2.2.1)) (x := (pG 5 ksD spD 1 tk dP 3 x6.toNatClampNeg)) (y := (rX 4 (LS 0) 3 tk (fun i => some (dP i).1.1))) (z := (oX 4 hS ksS spS tk LS gS aS)) (u := (oX 3 hV ksV spV tk LV gV aV)) (v := (oX 6 (LS 1) ksT spT tk LZ gZ aZ)) (r := rw) hst
        refine cl_vv hx hb hml hown hG hg (cT_copyFrom l dC dI tk A (LS 1) LZ gZ aZ ((dP x6.toNatClampNeg).1.2.1 1) (dP x6.toNatClampNeg).1.2.2 ((dP x6.toNatClampNeg).2.2.2.1) ((dP x6.toNatClampNeg).2.2.2.2) (oW 5 (dP x6.toNatClampNeg).1.1 ksD spD tk (dP x6.toNatClampNeg).1.2.1 (dP x6.toNatClampNeg).2.1 (dP x6.toNatClampNeg).2.2.1 (pO 5 ksD spD 1 tk dP 3 x6.toNatClampNeg (rA 4 (LS 0) 3 tk (fun i => some (dP i).1.1) (oW 4 hS ksS spS tk LS gS aS (oW 3 hV ksV spV tk LV gV aV rw))))) n _ _ hc17) (cw_v 1 hG k_604 k_538 k_539 k_5 k_540 (by decide +kernel) ⟨by decide, by decide⟩) hst rfl oW_0 rfl hl.1 rfl (Nat.le_of_ble_eq_true rfl) ⟨Nat.le_refl 0, Nat.le_refl 0⟩ d_S_change_64 (fun H locs hst => ?_)
        refine lv_iconst (v := 2) hx hb d_S_change_67 (by decide) ?_
        refine lv_istore (lv' := [(4, .int 2), (3, .int x6), (0, .ref hS), (1, .ref hV), (2, .int v2)]) hx hb d_S_change_68 hl (by decide) rfl (fun ls hl => ?_)
        have hst : St dC dI A s.heap H locs (pO 5 ksD spD 1 tk dP 3 x6.toNatClampNeg (oW 6 (LS 1) ksT spT tk LZ g15 a16 (oW 6 ((dP x6.toNatClampNeg).1.2.1 1) ksT spT tk (dP x6.toNatClampNeg).1.2.2 (dP x6.toNatClampNeg).2.2.2.1 (dP x6.toNatClampNeg).2.2.2.2 (oW 5 (dP x6.toNatClampNeg).1.1 ksD spD tk (dP x6.toNatClampNeg).1.2.1 (dP x6.toNatClampNeg).2.1 (dP x6.toNatClampNeg).2.2.1 (rA 4 (LS 0) 3 tk (fun i => some (dP i).1.1) (oW 4 hS ksS spS tk LS gS aS (oW 3 hV ksV spV tk LV gV aV rw))))))) := gr3 (a := (oX 6 (LS 1) ksT spT tk LZ g15 a16)) (b := (oX 6 ((dP x6.toNatClampNeg).1.2.1 1) ksT spT tk (dP x6.toNatClampNeg).1.2.2 (dP x6.toNatClampNeg).2.2.2.1 (dP x6.toNatClampNeg).2.2.2.2)) (x := (oX 5 (dP x6.toNatClampNeg).1.1 ksD spD tk (dP x6.toNatClampNeg).1.2.1 (dP x6.toNatClampNeg).2.1 (dP x6.toNatClampNeg).2.2.1)) (y := (pG 5 ksD spD 1 tk dP 3 x6.toNatClampNeg)) (r := (rA 4 (LS 0) 3 tk (fun i => some (dP i).1.1) (oW 4 hS ksS spS tk LS gS aS (oW 3 hV ksV spV tk LV gV aV rw)))) hst
        have hst : St dC dI A s.heap H locs (oW 6 ((dP x6.toNatClampNeg).1.2.1 1) ksT spT tk (dP x6.toNatClampNeg).1.2.2 (dP x6.toNatClampNeg).2.2.2.1 (dP x6.toNatClampNeg).2.2.2.2 (pO 5 ksD spD 1 tk dP 3 x6.toNatClampNeg (oW 6 (LS 1) ksT spT tk LZ g15 a16 (oW 5 (dP x6.toNatClampNeg).1.1 ksD spD tk (dP x6.toNatClampNeg).1.2.1 (dP x6.toNatClampNeg).2.1 (dP x6.toNatClampNeg).2.2.1 (rA 4 (LS 0) 3 tk (fun i => some (dP i).1.1) (oW 4 hS ksS spS tk LS gS aS (oW 3 hV ksV spV tk LV gV aV rw))))))) := gr2 (a := (pG 5 ksD spD 1 tk dP 3 x6.toNatClampNeg)) (b := (oX 6 (LS 1) ksT spT tk LZ g15 a16)) (x := (oX 6 ((dP x6.toNatClampNeg).1.2.1 1) ksT spT tk (dP x6.toNatClampNeg).1.2.2 (dP x6.toNatClampNeg).2.2.2.1 (dP x6.toNatClampNeg).2.2.2.2)) (r := (oW 5 (dP x6.toNatClampNeg).1.1 ksD spD tk (dP x6.toNatClampNeg).1.2.1 (dP x6.toNatClampNeg).2.1 (dP x6.toNatClampNeg).2.2.1 (rA 4 (LS 0) 3 tk (fun i => some (dP i).1.1) (oW 4 hS ksS spS tk LS gS aS (oW 3 hV ksV spV tk LV gV aV rw))))) hst
        have hst : St dC dI A s.heap H locs (oW 5 (dP x6.toNatClampNeg).1.1 ksD spD tk (dP x6.toNatClampNeg).1.2.1 (dP x6.toNatClampNeg).2.1 (dP x6.toNatClampNeg).2.2.1 (oW 6 ((dP x6.toNatClampNeg).1.2.1 1) ksT spT tk (dP x6.toNatClampNeg).1.2.2 (dP x6.toNatClampNeg).2.2.2.1 (dP x6.toNatClampNeg).2.2.2.2 (pO 5 ksD spD 1 tk dP 3 x6.toNatClampNeg (oW 6 (LS 1) ksT spT tk LZ g15 a16 (rA 4 (LS 0) 3 tk (fun i => some (dP i).1.1) (oW 4 hS ksS spS tk LS gS aS (oW 3 hV ksV spV tk LV gV aV rw))))))) := gr3 (a := (oX 6 ((dP x6.toNatClampNeg).1.2.1 1) ksT spT tk (dP x6.toNatClampNeg).1.2.2 (dP x6.toNatClampNeg).2.2.2.1 (dP x6.toNatClampNeg).2.2.2.2)) (b := (pG 5 ksD spD 1 tk dP 3 x6.toNatClampNeg)) (x := (oX 6 (LS 1) ksT spT tk LZ g15 a16)) (y := (oX 5 (dP x6.toNatClampNeg).1.1 ksD spD tk (dP x6.toNatClampNeg).1.2.1 (dP x6.toNatClampNeg).2.1 (dP x6.toNatClampNeg).2.2.1)) (r := (rA 4 (LS 0) 3 tk (fun i => some (dP i).1.1) (oW 4 hS ksS spS tk LS gS aS (oW 3 hV ksV spV tk LV gV aV rw)))) hst
        have hst := unf0 (d := x6.toNatClampNeg) hst (inb_lt hn14)
        have hst : St dC dI A s.heap H locs (oW 3 hV ksV spV tk LV gV aV (pW 5 ksD spD 1 tk dP 3 (oW 6 (LS 1) ksT spT tk LZ g15 a16 (rA 4 (LS 0) 3 tk (fun i => some (dP i).1.1) (oW 4 hS ksS spS tk LS gS aS rw))))) := gr4 (a := (pF 5 ksD spD 1 tk dP 3)) (b := (oX 6 (LS 1) ksT spT tk LZ g15 a16)) (x := (rX 4 (LS 0) 3 tk (fun i => some (dP i).1.1))) (y := (oX 4 hS ksS spS tk LS gS aS)) (z := (oX 3 hV ksV spV tk LV gV aV)) (r := rw) hst
        have hst : St dC dI A s.heap H locs (oW 6 (LS 1) ksT spT tk LZ g15 a16 (oW 3 hV ksV spV tk LV gV aV (pW 5 ksD spD 1 tk dP 3 (rA 4 (LS 0) 3 tk (fun i => some (dP i).1.1) (oW 4 hS ksS spS tk LS gS aS rw))))) := gr2 (a := (oX 3 hV ksV spV tk LV gV aV)) (b := (pF 5 ksD spD 1 tk dP 3)) (x := (oX 6 (LS 1) ksT spT tk LZ g15 a16)) (r := (rA 4 (LS 0) 3 tk (fun i => some (dP i).1.1) (oW 4 hS ksS spS tk LS gS aS rw))) hst
        have hst : St dC dI A s.heap H locs (rA 4 (LS 0) 3 tk (fun i => some (dP i).1.1) (oW 6 (LS 1) ksT spT tk LZ g15 a16 (oW 3 hV ksV spV tk LV gV aV (pW 5 ksD spD 1 tk dP 3 (oW 4 hS ksS spS tk LS gS aS rw))))) := gr3 (a := (oX 6 (LS 1) ksT spT tk LZ g15 a16)) (b := (oX 3 hV ksV spV tk LV gV aV)) (x := (pF 5 ksD spD 1 tk dP 3)) (y := (rX 4 (LS 0) 3 tk (fun i => some (dP i).1.1))) (r := (oW 4 hS ksS spS tk LS gS aS rw)) hst
        have hst : St dC dI A s.heap H locs (oW 4 hS ksS spS tk LS gS aS (rA 4 (LS 0) 3 tk (fun i => some (dP i).1.1) (oW 6 (LS 1) ksT spT tk LZ g15 a16 (oW 3 hV ksV spV tk LV gV aV (pW 5 ksD spD 1 tk dP 3 rw))))) := gr4 (a := (rX 4 (LS 0) 3 tk (fun i => some (dP i).1.1))) (b := (oX 6 (LS 1) ksT spT tk LZ g15 a16)) (x := (oX 3 hV ksV spV tk LV gV aV)) (y := (pF 5 ksD spD 1 tk dP 3)) (z := (oX 4 hS ksS spS tk LS gS aS)) (r := rw) hst
        obtain ⟨qJ19, hm, hLJ19, hR20⟩ := jn_u hm
        have hJ19 : ∀ (g21 : aG) (a22 : aA), qJ19 = .inl (g21, a22) → ∀ (H : Heap) (locs : List Loc) (ls : Array Slot), lv_has ls 5 [(0, .ref hS), (1, .ref hV), (2, .int v2), (3, .int x6)] → St dC dI A s.heap H locs (oW 4 hS ksS spS tk LS gS aS (rA 4 (LS 0) 3 tk (fun i => some (dP i).1.1) (oW 6 (LS 1) ksT spT tk LZ g21 a22 (oW 3 hV ksV spV tk LV gV aV (pW 5 ksD spD 1 tk dP 3 rw))))) → W p l e (rmo 6 134) s m args below meth c H locs 0 0 (MQ below (QI dC dI A r0 (oW 4 hS ksS spS tk LS gS aS (rA 4 (LS 0) 3 tk (fun i => some (odP i).1.1) (oW 6 (LS 1) ksT spT tk LZ ogZ oaZ (oW 3 hV ksV spV tk LV gV aV (pW 5 ksD spD 1 tk odP 3 rw)))))) args s 0 0 A) (F0 m 103 ls []) := by
          intro g21 a22 hq H locs ls hl hst
          have hm := hLJ19 _ hq
          dsimp only at hm
          refine lv_aload_n hx hb d_S_change_103 rfl (lv_at hl 0 rfl) ?_
          refine ro_geta hx hb hown hG hg cS hst 0 0 (by decide) rfl rfl k_163 d_S_change_104 ?_
          refine lv_iload_n hx hb d_S_change_107 rfl (lv_at hl 3 rfl) ?_
          obtain ⟨hn24, hm⟩ := gd_u hm
          have hst : St dC dI A s.heap H locs (rA 4 (LS 0) 3 tk (fun i => some (dP i).1.1) (oW 4 hS ksS spS tk LS gS aS (oW 6 (LS 1) ksT spT tk LZ g21 a22 (oW 3 hV ksV spV tk LV gV aV (pW 5 ksD spD 1 tk dP 3 rw))))) := gr1 (a := (oX 4 hS ksS spS tk LS gS aS)) (b := (rX 4 (LS 0) 3 tk (fun i => some (dP i).1.1))) (r := (oW 6 (LS 1) ksT spT tk LZ g21 a22 (oW 3 hV ksV spV tk LV gV aV (pW 5 ksD spD 1 tk dP 3 rw)))) hst
          refine ro_aald (a := (dP x6.toNatClampNeg).1.1) hx hb hg hst rfl hn24 rfl d_S_change_108 ?_
          have hst : St dC dI A s.heap H locs (pW 5 ksD spD 1 tk dP 3 (rA 4 (LS 0) 3 tk (fun i => some (dP i).1.1) (oW 4 hS ksS spS tk LS gS aS (oW 6 (LS 1) ksT spT tk LZ g21 a22 (oW 3 hV ksV spV tk LV gV aV rw))))) := gr4 (a := (rX 4 (LS 0) 3 tk (fun i => some (dP i).1.1))) (b := (oX 4 hS ksS spS tk LS gS aS)) (x := (oX 6 (LS 1) ksT spT tk LZ g21 a22)) (y := (oX 3 hV ksV spV tk LV gV aV)) (z := (pF 5 ksD spD 1 tk dP 3)) (r := rw) hst
          have hst := foc (d := x6.toNatClampNeg) hst (inb_lt hn24)
          refine rn_geta hx hb hown hG hg cD hst 1 1 (by decide) rfl rfl t_147 d_S_change_109 ?_
          refine lv_aload_n hx hb d_S_change_112 rfl (lv_at hl 0 rfl) ?_
          have hst : St dC dI A s.heap H locs (oW 4 hS ksS spS tk LS gS aS (oW 5 (dP x6.toNatClampNeg).1.1 ksD spD tk (dP x6.toNatClampNeg).1.2.1 (dP x6.toNatClampNeg).2.1 (dP x6.toNatClampNeg).2.2.1 (oW 6 ((dP x6.toNatClampNeg).1.2.1 1) ksT spT tk (dP x6.toNatClampNeg).1.2.2 (dP x6.toNatClampNeg).2.2.2.1 (dP x6.toNatClampNeg).2.2.2.2 (pO 5 ksD spD 1 tk dP 3 x6.toNatClampNeg (rA 4 (LS 0) 3 tk (fun i => some (dP i).1.1) (oW 6 (LS 1) ksT spT tk LZ g21 a22 (oW 3 hV ksV spV tk LV gV aV rw))))))) := gr4 (a := (oX 5 (dP x6.toNatClampNeg).1.1 ksD spD tk (dP x6.toNatClampNeg).1.2.1 (dP x6.toNatClampNeg).2.1 (dP x6.toNatClampNeg).2.2.1)) (b := (oX 6 ((dP x6.toNatClampNeg).1.2.1 1) ksT spT tk (dP x6.toNatClampNeg).1.2.2 (dP x6.toNatClampNeg).2.2.2.1 (dP x6.toNatClampNeg).2.2.2.2)) (x := (pG 5 ksD spD 1 tk dP 3 x6.toNatClampNeg)) (y := (rX 4 (LS 0) 3 tk (fun i => some (dP i).1.1))) (z := (oX 4 hS ksS spS tk LS gS aS)) (r := (oW 6 (LS 1) ksT spT tk LZ g21 a22 (oW 3 hV ksV spV tk LV gV aV rw))) hst
          refine ro_geta hx hb hown hG hg cS hst 1 1 (by decide) rfl rfl k_165 d_S_change_113 ?_
          have hst : St dC dI A s.heap H locs (oW 6 ((dP x6.toNatClampNeg).1.2.1 1) ksT spT tk (dP x6.toNatClampNeg).1.2.2 (dP x6.toNatClampNeg).2.2.2.1 (dP x6.toNatClampNeg).2.2.2.2 (oW 4 hS ksS spS tk LS gS aS (oW 5 (dP x6.toNatClampNeg).1.1 ksD spD tk (dP x6.toNatClampNeg).1.2.1 (dP x6.toNatClampNeg).2.1 (dP x6.toNatClampNeg).2.2.1 (pO 5 ksD spD 1 tk dP 3 x6.toNatClampNeg (rA 4 (LS 0) 3 tk (fun i => some (dP i).1.1) (oW 6 (LS 1) ksT spT tk LZ g21 a22 (oW 3 hV ksV spV tk LV gV aV rw))))))) := gr2 (a := (oX 4 hS ksS spS tk LS gS aS)) (b := (oX 5 (dP x6.toNatClampNeg).1.1 ksD spD tk (dP x6.toNatClampNeg).1.2.1 (dP x6.toNatClampNeg).2.1 (dP x6.toNatClampNeg).2.2.1)) (x := (oX 6 ((dP x6.toNatClampNeg).1.2.1 1) ksT spT tk (dP x6.toNatClampNeg).1.2.2 (dP x6.toNatClampNeg).2.2.2.1 (dP x6.toNatClampNeg).2.2.2.2)) (r := (pO 5 ksD spD 1 tk dP 3 x6.toNatClampNeg (rA 4 (LS 0) 3 tk (fun i => some (dP i).1.1) (oW 6 (LS 1) ksT spT tk LZ g21 a22 (oW 3 hV ksV spV tk LV gV aV rw))))) hst
          obtain ⟨⟨g25, a26⟩, hc27, hm⟩ := bd_u hm
          dsimp only at hm
          have hst : St dC dI A s.heap H locs (oW 6 (LS 1) ksT spT tk LZ g21 a22 (oW 6 ((dP x6.toNatClampNeg).1.2.1 1) ksT spT tk (dP x6.toNatClampNeg).1.2.2 (dP x6.toNatClampNeg).2.2.2.1 (dP x6.toNatClampNeg).2.2.2.2 (oW 4 hS ksS spS tk LS gS aS (oW 5 (dP x6.toNatClampNeg).1.1 ksD spD tk (dP x6.toNatClampNeg).1.2.1 (dP x6.toNatClampNeg).2.1 (dP x6.toNatClampNeg).2.2.1 (pO 5 ksD spD 1 tk dP 3 x6.toNatClampNeg (rA 4 (LS 0) 3 tk (fun i => some (dP i).1.1) (oW 3 hV ksV spV tk LV gV aV rw))))))) := gr5 (a := (oX 6 ((dP x6.toNatClampNeg).1.2.1 1) ksT spT tk (dP x6.toNatClampNeg).1.2.2 (dP x6.toNatClampNeg).2.2.2.1 (dP x6.toNatClampNeg).2.2.2.2)) (b := (oX 4 hS ksS spS tk LS gS aS)) (x := (oX 5 (dP x6.toNatClampNeg).1.1 ksD spD tk (dP x6.toNatClampNeg).1.2.1 (dP x6.toNatClampNeg).2.1 (dP x6.toNatClampNeg).2.2.1)) (y := (pG 5 ksD spD 1 tk dP 3 x6.toNatClampNeg)) (z := (rX 4 (LS 0) 3 tk (fun i => some (dP i).1.1))) (u := (oX 6 (LS 1) ksT spT tk LZ g21 a22)) (r := (oW 3 hV ksV spV tk LV gV aV rw)) hst
          have hst : St dC dI A s.heap H locs (oW 6 ((dP x6.toNatClampNeg).1.2.1 1) ksT spT tk (dP x6.toNatClampNeg).1.2.2 (dP x6.toNatClampNeg).2.2.2.1 (dP x6.toNatClampNeg).2.2.2.2 (oW 6 (LS 1) ksT spT tk LZ g21 a22 (oW 4 hS ksS spS tk LS gS aS (oW 5 (dP x6.toNatClampNeg).1.1 ksD spD tk (dP x6.toNatClampNeg).1.2.1 (dP x6.toNatClampNeg).2.1 (dP x6.toNatClampNeg).2.2.1 (pO 5 ksD spD 1 tk dP 3 x6.toNatClampNeg (rA 4 (LS 0) 3 tk (fun i => some (dP i).1.1) (oW 3 hV ksV spV tk LV gV aV rw))))))) := gr1 (a := (oX 6 (LS 1) ksT spT tk LZ g21 a22)) (b := (oX 6 ((dP x6.toNatClampNeg).1.2.1 1) ksT spT tk (dP x6.toNatClampNeg).1.2.2 (dP x6.toNatClampNeg).2.2.2.1 (dP x6.toNatClampNeg).2.2.2.2)) (r := (oW 4 hS ksS spS tk LS gS aS (oW 5 (dP x6.toNatClampNeg).1.1 ksD spD tk (dP x6.toNatClampNeg).1.2.1 (dP x6.toNatClampNeg).2.1 (dP x6.toNatClampNeg).2.2.1 (pO 5 ksD spD 1 tk dP 3 x6.toNatClampNeg (rA 4 (LS 0) 3 tk (fun i => some (dP i).1.1) (oW 3 hV ksV spV tk LV gV aV rw)))))) hst
          refine cl_vv hx hb hml hown hG hg (cT_copyFrom l dC dI tk A ((dP x6.toNatClampNeg).1.2.1 1) (dP x6.toNatClampNeg).1.2.2 ((dP x6.toNatClampNeg).2.2.2.1) ((dP x6.toNatClampNeg).2.2.2.2) (LS 1) LZ g21 a22 (oW 4 hS ksS spS tk LS gS aS (oW 5 (dP x6.toNatClampNeg).1.1 ksD spD tk (dP x6.toNatClampNeg).1.2.1 (dP x6.toNatClampNeg).2.1 (dP x6.toNatClampNeg).2.2.1 (pO 5 ksD spD 1 tk dP 3 x6.toNatClampNeg (rA 4 (LS 0) 3 tk (fun i => some (dP i).1.1) (oW 3 hV ksV spV tk LV gV aV rw))))) n _ _ hc27) (cw_v 1 hG k_604 k_538 k_539 k_5 k_540 (by decide +kernel) ⟨by decide, by decide⟩) hst rfl oW_0 rfl hl.1 rfl (Nat.le_of_ble_eq_true rfl) ⟨Nat.le_refl 0, Nat.le_refl 0⟩ d_S_change_116 (fun H locs hst => ?_)
          refine lv_aload_n hx hb d_S_change_119 rfl (lv_at hl 0 rfl) ?_
          have hst : St dC dI A s.heap H locs (oW 4 hS ksS spS tk LS gS aS (oW 6 ((dP x6.toNatClampNeg).1.2.1 1) ksT spT tk (dP x6.toNatClampNeg).1.2.2 g25 a26 (oW 6 (LS 1) ksT spT tk LZ g21 a22 (oW 5 (dP x6.toNatClampNeg).1.1 ksD spD tk (dP x6.toNatClampNeg).1.2.1 (dP x6.toNatClampNeg).2.1 (dP x6.toNatClampNeg).2.2.1 (pO 5 ksD spD 1 tk dP 3 x6.toNatClampNeg (rA 4 (LS 0) 3 tk (fun i => some (dP i).1.1) (oW 3 hV ksV spV tk LV gV aV rw))))))) := gr2 (a := (oX 6 ((dP x6.toNatClampNeg).1.2.1 1) ksT spT tk (dP x6.toNatClampNeg).1.2.2 g25 a26)) (b := (oX 6 (LS 1) ksT spT tk LZ g21 a22)) (x := (oX 4 hS ksS spS tk LS gS aS)) (r := (oW 5 (dP x6.toNatClampNeg).1.1 ksD spD tk (dP x6.toNatClampNeg).1.2.1 (dP x6.toNatClampNeg).2.1 (dP x6.toNatClampNeg).2.2.1 (pO 5 ksD spD 1 tk dP 3 x6.toNatClampNeg (rA 4 (LS 0) 3 tk (fun i => some (dP i).1.1) (oW 3 hV ksV spV tk LV gV aV rw))))) hst
          refine ro_geta hx hb hown hG hg cS hst 0 0 (by decide) rfl rfl k_163 d_S_change_120 ?_
          refine lv_iload_n hx hb d_S_change_123 rfl (lv_at hl 3 rfl) ?_
          have hst : St dC dI A s.heap H locs (pO 5 ksD spD 1 tk dP 3 x6.toNatClampNeg (oW 4 hS ksS spS tk LS gS aS (oW 6 ((dP x6.toNatClampNeg).1.2.1 1) ksT spT tk (dP x6.toNatClampNeg).1.2.2 g25 a26 (oW 6 (LS 1) ksT spT tk LZ g21 a22 (oW 5 (dP x6.toNatClampNeg).1.1 ksD spD tk (dP x6.toNatClampNeg).1.2.1 (dP x6.toNatClampNeg).2.1 (dP x6.toNatClampNeg).2.2.1 (rA 4 (LS 0) 3 tk (fun i => some (dP i).1.1) (oW 3 hV ksV spV tk LV gV aV rw))))))) := gr4 (a := (oX 4 hS ksS spS tk LS gS aS)) (b := (oX 6 ((dP x6.toNatClampNeg).1.2.1 1) ksT spT tk (dP x6.toNatClampNeg).1.2.2 g25 a26)) (x := (oX 6 (LS 1) ksT spT tk LZ g21 a22)) (y := (oX 5 (dP x6.toNatClampNeg).1.1 ksD spD tk (dP x6.toNatClampNeg).1.2.1 (dP x6.toNatClampNeg).2.1 (dP x6.toNatClampNeg).2.2.1)) (z := (pG 5 ksD spD 1 tk dP 3 x6.toNatClampNeg)) (r := (rA 4 (LS 0) 3 tk (fun i => some (dP i).1.1) (oW 3 hV ksV spV tk LV gV aV rw))) hst
          have hst : St dC dI A s.heap H locs (oW 6 ((dP x6.toNatClampNeg).1.2.1 1) ksT spT tk (dP x6.toNatClampNeg).1.2.2 g25 a26 (pO 5 ksD spD 1 tk dP 3 x6.toNatClampNeg (oW 4 hS ksS spS tk LS gS aS (oW 6 (LS 1) ksT spT tk LZ g21 a22 (oW 5 (dP x6.toNatClampNeg).1.1 ksD spD tk (dP x6.toNatClampNeg).1.2.1 (dP x6.toNatClampNeg).2.1 (dP x6.toNatClampNeg).2.2.1 (rA 4 (LS 0) 3 tk (fun i => some (dP i).1.1) (oW 3 hV ksV spV tk LV gV aV rw))))))) := gr2 (a := (pG 5 ksD spD 1 tk dP 3 x6.toNatClampNeg)) (b := (oX 4 hS ksS spS tk LS gS aS)) (x := (oX 6 ((dP x6.toNatClampNeg).1.2.1 1) ksT spT tk (dP x6.toNatClampNeg).1.2.2 g25 a26)) (r := (oW 6 (LS 1) ksT spT tk LZ g21 a22 (oW 5 (dP x6.toNatClampNeg).1.1 ksD spD tk (dP x6.toNatClampNeg).1.2.1 (dP x6.toNatClampNeg).2.1 (dP x6.toNatClampNeg).2.2.1 (rA 4 (LS 0) 3 tk (fun i => some (dP i).1.1) (oW 3 hV ksV spV tk LV gV aV rw))))) hst
          have hst : St dC dI A s.heap H locs (oW 5 (dP x6.toNatClampNeg).1.1 ksD spD tk (dP x6.toNatClampNeg).1.2.1 (dP x6.toNatClampNeg).2.1 (dP x6.toNatClampNeg).2.2.1 (oW 6 ((dP x6.toNatClampNeg).1.2.1 1) ksT spT tk (dP x6.toNatClampNeg).1.2.2 g25 a26 (pO 5 ksD spD 1 tk dP 3 x6.toNatClampNeg (oW 4 hS ksS spS tk LS gS aS (oW 6 (LS 1) ksT spT tk LZ g21 a22 (rA 4 (LS 0) 3 tk (fun i => some (dP i).1.1) (oW 3 hV ksV spV tk LV gV aV rw))))))) := gr4 (a := (oX 6 ((dP x6.toNatClampNeg).1.2.1 1) ksT spT tk (dP x6.toNatClampNeg).1.2.2 g25 a26)) (b := (pG 5 ksD spD 1 tk dP 3 x6.toNatClampNeg)) (x := (oX 4 hS ksS spS tk LS gS aS)) (y := (oX 6 (LS 1) ksT spT tk LZ g21 a22)) (z := (oX 5 (dP x6.toNatClampNeg).1.1 ksD spD tk (dP x6.toNatClampNeg).1.2.1 (dP x6.toNatClampNeg).2.1 (dP x6.toNatClampNeg).2.2.1)) (r := (rA 4 (LS 0) 3 tk (fun i => some (dP i).1.1) (oW 3 hV ksV spV tk LV gV aV rw))) hst
          have hst := unf1 (d := x6.toNatClampNeg) hst (inb_lt hn24)
          obtain ⟨d29, ed29⟩ : ∃ z : aP, z = va_up dP x6.toNatClampNeg ((dP x6.toNatClampNeg).1, (dP x6.toNatClampNeg).2.1, (dP x6.toNatClampNeg).2.2.1, g25, a26) := ⟨_, rfl⟩
          rw [← ed29] at hst
          have hm := lt_u hm d29 ed29
          have ed29a : (fun i => some (dP i).1.1) = (fun i => some (d29 i).1.1) := by rw [ed29]; exact up_ad
          rw [ed29a] at hst
          obtain ⟨hn30, hm⟩ := gd_u hm
          have hst : St dC dI A s.heap H locs (rA 4 (LS 0) 3 tk (fun i => some (d29 i).1.1) (pW 5 ksD spD 1 tk d29 3 (oW 4 hS ksS spS tk LS gS aS (oW 6 (LS 1) ksT spT tk LZ g21 a22 (oW 3 hV ksV spV tk LV gV aV rw))))) := gr3 (a := (pF 5 ksD spD 1 tk d29 3)) (b := (oX 4 hS ksS spS tk LS gS aS)) (x := (oX 6 (LS 1) ksT spT tk LZ g21 a22)) (y := (rX 4 (LS 0) 3 tk (fun i => some (d29 i).1.1))) (r := (oW 3 hV ksV spV tk LV gV aV rw)) hst
          refine ro_aald (a := (d29 x6.toNatClampNeg).1.1) hx hb hg hst rfl hn30 rfl d_S_change_124 ?_
          refine lv_aload_n hx hb d_S_change_125 rfl (lv_at hl 1 rfl) ?_
          refine lv_iload_n hx hb d_S_change_126 rfl (lv_at hl 2 rfl) ?_
          refine lv_iconst (v := 1) hx hb d_S_change_127 (by decide) ?_
          obtain ⟨x31, hc32, hm⟩ := bd_u hm
          have hst : St dC dI A s.heap H locs (oW 3 hV ksV spV tk LV gV aV (rA 4 (LS 0) 3 tk (fun i => some (d29 i).1.1) (pW 5 ksD spD 1 tk d29 3 (oW 4 hS ksS spS tk LS gS aS (oW 6 (LS 1) ksT spT tk LZ g21 a22 rw))))) := gr4 (a := (rX 4 (LS 0) 3 tk (fun i => some (d29 i).1.1))) (b := (pF 5 ksD spD 1 tk d29 3)) (x := (oX 4 hS ksS spS tk LS gS aS)) (y := (oX 6 (LS 1) ksT spT tk LZ g21 a22)) (z := (oX 3 hV ksV spV tk LV gV aV)) (r := rw) hst
          refine cl_vi hx hb hml hown hG hg (cV_numberAt l dC dI tk A hV LV gV aV (rA 4 (LS 0) 3 tk (fun i => some (d29 i).1.1) (pW 5 ksD spD 1 tk d29 3 (oW 4 hS ksS spS tk LS gS aS (oW 6 (LS 1) ksT spT tk LZ g21 a22 rw)))) n v2 1 _ hc32) (cw_v 2 hG k_603 k_551 k_552 k_3 k_553 (by decide +kernel) ⟨by decide, by decide⟩) hst rfl oW_0 rfl hl.1 rfl (Nat.le_of_ble_eq_true rfl) ⟨Nat.le_refl 0, Nat.le_refl 0⟩ d_S_change_128 (fun H locs hst => ?_)
          have hst : St dC dI A s.heap H locs (pW 5 ksD spD 1 tk d29 3 (oW 3 hV ksV spV tk LV gV aV (rA 4 (LS 0) 3 tk (fun i => some (d29 i).1.1) (oW 4 hS ksS spS tk LS gS aS (oW 6 (LS 1) ksT spT tk LZ g21 a22 rw))))) := gr2 (a := (oX 3 hV ksV spV tk LV gV aV)) (b := (rX 4 (LS 0) 3 tk (fun i => some (d29 i).1.1))) (x := (pF 5 ksD spD 1 tk d29 3)) (r := (oW 4 hS ksS spS tk LS gS aS (oW 6 (LS 1) ksT spT tk LZ g21 a22 rw))) hst
          have hst := foc (d := x6.toNatClampNeg) hst (inb_lt hn30)
          refine rn_puti hx hb hown hG hg cD hst 3 (by decide) rfl rfl rfl rfl rfl t_152 d_S_change_131 (fun g34 H locs eg34 hst => ?_)
          have hm := lt_u hm g34 eg34
          refine lv_iconst (v := 1) hx hb d_S_change_134 (by decide) ?_
          have hst := unf1 (d := x6.toNatClampNeg) hst (inb_lt hn30)
          obtain ⟨d35, ed35⟩ : ∃ z : aP, z = va_up d29 x6.toNatClampNeg ((d29 x6.toNatClampNeg).1, g34, (d29 x6.toNatClampNeg).2.2.1, (d29 x6.toNatClampNeg).2.2.2.1, (d29 x6.toNatClampNeg).2.2.2.2) := ⟨_, rfl⟩
          rw [← ed35] at hst
          have hm := lt_u hm d35 ed35
          have ed35a : (fun i => some (d29 i).1.1) = (fun i => some (d35 i).1.1) := by rw [ed35]; exact up_ad
          rw [ed35a] at hst
          have hst : St dC dI A s.heap H locs (oW 3 hV ksV spV tk LV gV aV (pW 5 ksD spD 1 tk d35 3 (rA 4 (LS 0) 3 tk (fun i => some (d35 i).1.1) (oW 4 hS ksS spS tk LS gS aS (oW 6 (LS 1) ksT spT tk LZ g21 a22 rw))))) := gr1 (a := (pF 5 ksD spD 1 tk d35 3)) (b := (oX 3 hV ksV spV tk LV gV aV)) (r := (rA 4 (LS 0) 3 tk (fun i => some (d35 i).1.1) (oW 4 hS ksS spS tk LS gS aS (oW 6 (LS 1) ksT spT tk LZ g21 a22 rw)))) hst
          have hst : St dC dI A s.heap H locs (oW 6 (LS 1) ksT spT tk LZ g21 a22 (oW 3 hV ksV spV tk LV gV aV (pW 5 ksD spD 1 tk d35 3 (rA 4 (LS 0) 3 tk (fun i => some (d35 i).1.1) (oW 4 hS ksS spS tk LS gS aS rw))))) := gr4 (a := (oX 3 hV ksV spV tk LV gV aV)) (b := (pF 5 ksD spD 1 tk d35 3)) (x := (rX 4 (LS 0) 3 tk (fun i => some (d35 i).1.1))) (y := (oX 4 hS ksS spS tk LS gS aS)) (z := (oX 6 (LS 1) ksT spT tk LZ g21 a22)) (r := rw) hst
          have hst : St dC dI A s.heap H locs (rA 4 (LS 0) 3 tk (fun i => some (d35 i).1.1) (oW 6 (LS 1) ksT spT tk LZ g21 a22 (oW 3 hV ksV spV tk LV gV aV (pW 5 ksD spD 1 tk d35 3 (oW 4 hS ksS spS tk LS gS aS rw))))) := gr3 (a := (oX 6 (LS 1) ksT spT tk LZ g21 a22)) (b := (oX 3 hV ksV spV tk LV gV aV)) (x := (pF 5 ksD spD 1 tk d35 3)) (y := (rX 4 (LS 0) 3 tk (fun i => some (d35 i).1.1))) (r := (oW 4 hS ksS spS tk LS gS aS rw)) hst
          have hst : St dC dI A s.heap H locs (oW 4 hS ksS spS tk LS gS aS (rA 4 (LS 0) 3 tk (fun i => some (d35 i).1.1) (oW 6 (LS 1) ksT spT tk LZ g21 a22 (oW 3 hV ksV spV tk LV gV aV (pW 5 ksD spD 1 tk d35 3 rw))))) := gr4 (a := (rX 4 (LS 0) 3 tk (fun i => some (d35 i).1.1))) (b := (oX 6 (LS 1) ksT spT tk LZ g21 a22)) (x := (oX 3 hV ksV spV tk LV gV aV)) (y := (pF 5 ksD spD 1 tk d35 3)) (z := (oX 4 hS ksS spS tk LS gS aS)) (r := rw) hst
          have hst9 := hst
          have he := (Option.some.inj hm)
          cases he
          exact rt_i hx hb hr hlk (by decide) hst9 rfl d_S_change_135
        refine lp_u (fun q39 : Int32 × aG × aA => ∀ (H : Heap) (locs : List Loc) (ls : Array Slot), lv_has ls 5 [(0, .ref hS), (1, .ref hV), (2, .int v2), (3, .int x6), (4, .int q39.1)] → St dC dI A s.heap H locs (oW 4 hS ksS spS tk LS gS aS (rA 4 (LS 0) 3 tk (fun i => some (dP i).1.1) (oW 6 (LS 1) ksT spT tk LZ q39.2.1 q39.2.2 (oW 3 hV ksV spV tk LV gV aV (pW 5 ksD spD 1 tk dP 3 rw))))) → W p l e (rmo 6 134) s m args below meth c H locs 0 0 (MQ below (QI dC dI A r0 (oW 4 hS ksS spS tk LS gS aS (rA 4 (LS 0) 3 tk (fun i => some (odP i).1.1) (oW 6 (LS 1) ksT spT tk LZ ogZ oaZ (oW 3 hV ksV spV tk LV gV aV (pW 5 ksD spD 1 tk odP 3 rw)))))) args s 0 0 A) (F0 m 70 ls [])) ?_ n (2, g15, a16) hm _ _ _ (lv_sub hl [2, 3, 4, 1, 0] rfl) hst
        rintro ⟨x36, g37, a38⟩ r42 hm hJ400 hR41 H locs ls hl hst
        dsimp only at hm hl hst ⊢
        have hJ40 := fun y0 y1 y2 (e : r42 = .inl (y0, y1, y2)) => hJ400 (y0, y1, y2) e
        dsimp only at hJ40
        refine lv_iload hx hb d_S_change_70 (lv_at hl 4 rfl) ?_
        refine lv_aload_n hx hb d_S_change_72 rfl (lv_at hl 1 rfl) ?_
        refine lv_iload_n hx hb d_S_change_73 rfl (lv_at hl 2 rfl) ?_
        obtain ⟨x43, hc44, hm⟩ := bd_u hm
        have hst : St dC dI A s.heap H locs (oW 3 hV ksV spV tk LV gV aV (oW 4 hS ksS spS tk LS gS aS (rA 4 (LS 0) 3 tk (fun i => some (dP i).1.1) (oW 6 (LS 1) ksT spT tk LZ g37 a38 (pW 5 ksD spD 1 tk dP 3 rw))))) := gr3 (a := (oX 4 hS ksS spS tk LS gS aS)) (b := (rX 4 (LS 0) 3 tk (fun i => some (dP i).1.1))) (x := (oX 6 (LS 1) ksT spT tk LZ g37 a38)) (y := (oX 3 hV ksV spV tk LV gV aV)) (r := (pW 5 ksD spD 1 tk dP 3 rw)) hst
        refine cl_vi hx hb hml hown hG hg (cV_sizeOf l dC dI tk A hV LV gV aV (oW 4 hS ksS spS tk LS gS aS (rA 4 (LS 0) 3 tk (fun i => some (dP i).1.1) (oW 6 (LS 1) ksT spT tk LZ g37 a38 (pW 5 ksD spD 1 tk dP 3 rw)))) n v2 _ hc44) (cw_v 1 hG k_605 k_504 k_505 k_3 k_506 (by decide +kernel) ⟨by decide, by decide⟩) hst rfl oW_0 rfl hl.1 rfl (Nat.le_of_ble_eq_true rfl) ⟨Nat.le_refl 0, Nat.le_refl 0⟩ d_S_change_74 (fun H locs hst => ?_)
        refine lv_icmp_ge (tgt := 103) hx hb d_S_change_77 (by decide) (fun h46 => ?_) (fun h46 => ?_)
        · have hm := it_t hm h46
          have hst : St dC dI A s.heap H locs (pW 5 ksD spD 1 tk dP 3 (oW 3 hV ksV spV tk LV gV aV (oW 4 hS ksS spS tk LS gS aS (rA 4 (LS 0) 3 tk (fun i => some (dP i).1.1) (oW 6 (LS 1) ksT spT tk LZ g37 a38 rw))))) := gr4 (a := (oX 3 hV ksV spV tk LV gV aV)) (b := (oX 4 hS ksS spS tk LS gS aS)) (x := (rX 4 (LS 0) 3 tk (fun i => some (dP i).1.1))) (y := (oX 6 (LS 1) ksT spT tk LZ g37 a38)) (z := (pF 5 ksD spD 1 tk dP 3)) (r := rw) hst
          have hst : St dC dI A s.heap H locs (oW 3 hV ksV spV tk LV gV aV (pW 5 ksD spD 1 tk dP 3 (oW 4 hS ksS spS tk LS gS aS (rA 4 (LS 0) 3 tk (fun i => some (dP i).1.1) (oW 6 (LS 1) ksT spT tk LZ g37 a38 rw))))) := gr1 (a := (pF 5 ksD spD 1 tk dP 3)) (b := (oX 3 hV ksV spV tk LV gV aV)) (r := (oW 4 hS ksS spS tk LS gS aS (rA 4 (LS 0) 3 tk (fun i => some (dP i).1.1) (oW 6 (LS 1) ksT spT tk LZ g37 a38 rw)))) hst
          have hst : St dC dI A s.heap H locs (oW 6 (LS 1) ksT spT tk LZ g37 a38 (oW 3 hV ksV spV tk LV gV aV (pW 5 ksD spD 1 tk dP 3 (oW 4 hS ksS spS tk LS gS aS (rA 4 (LS 0) 3 tk (fun i => some (dP i).1.1) rw))))) := gr4 (a := (oX 3 hV ksV spV tk LV gV aV)) (b := (pF 5 ksD spD 1 tk dP 3)) (x := (oX 4 hS ksS spS tk LS gS aS)) (y := (rX 4 (LS 0) 3 tk (fun i => some (dP i).1.1))) (z := (oX 6 (LS 1) ksT spT tk LZ g37 a38)) (r := rw) hst
          have hst : St dC dI A s.heap H locs (rA 4 (LS 0) 3 tk (fun i => some (dP i).1.1) (oW 6 (LS 1) ksT spT tk LZ g37 a38 (oW 3 hV ksV spV tk LV gV aV (pW 5 ksD spD 1 tk dP 3 (oW 4 hS ksS spS tk LS gS aS rw))))) := gr4 (a := (oX 6 (LS 1) ksT spT tk LZ g37 a38)) (b := (oX 3 hV ksV spV tk LV gV aV)) (x := (pF 5 ksD spD 1 tk dP 3)) (y := (oX 4 hS ksS spS tk LS gS aS)) (z := (rX 4 (LS 0) 3 tk (fun i => some (dP i).1.1))) (r := rw) hst
          have hst : St dC dI A s.heap H locs (oW 4 hS ksS spS tk LS gS aS (rA 4 (LS 0) 3 tk (fun i => some (dP i).1.1) (oW 6 (LS 1) ksT spT tk LZ g37 a38 (oW 3 hV ksV spV tk LV gV aV (pW 5 ksD spD 1 tk dP 3 rw))))) := gr4 (a := (rX 4 (LS 0) 3 tk (fun i => some (dP i).1.1))) (b := (oX 6 (LS 1) ksT spT tk LZ g37 a38)) (x := (oX 3 hV ksV spV tk LV gV aV)) (y := (pF 5 ksD spD 1 tk dP 3)) (z := (oX 4 hS ksS spS tk LS gS aS)) (r := rw) hst
          exact hJ19 g37 a38 (hR41 _ (Option.some.inj hm).symm).symm _ _ _ (lv_sub hl [0, 1, 2, 3] rfl) hst
        · have hm := it_f hm h46
          refine lv_aload_n hx hb d_S_change_80 rfl (lv_at hl 0 rfl) ?_
          refine lv_aload_n hx hb d_S_change_81 rfl (lv_at hl 1 rfl) ?_
          refine lv_aload_n hx hb d_S_change_82 rfl (lv_at hl 1 rfl) ?_
          refine lv_iload_n hx hb d_S_change_83 rfl (lv_at hl 2 rfl) ?_
          refine lv_iload hx hb d_S_change_84 (lv_at hl 4 rfl) ?_
          obtain ⟨x47, hc48, hm⟩ := bd_u hm
          refine cl_vi hx hb hml hown hG hg (cV_item l dC dI tk A hV LV gV aV (oW 4 hS ksS spS tk LS gS aS (rA 4 (LS 0) 3 tk (fun i => some (dP i).1.1) (oW 6 (LS 1) ksT spT tk LZ g37 a38 (pW 5 ksD spD 1 tk dP 3 rw)))) n v2 x36 _ hc48) (cw_v 2 hG k_577 k_499 k_500 k_3 k_501 (by decide +kernel) ⟨by decide, by decide⟩) hst rfl oW_0 rfl hl.1 rfl (Nat.le_of_ble_eq_true rfl) ⟨Nat.le_refl 0, Nat.le_refl 0⟩ d_S_change_86 (fun H locs hst => ?_)
          obtain ⟨⟨x50, g51, a52⟩, hc53, hm⟩ := bd_u hm
          dsimp only at hm
          have hst : St dC dI A s.heap H locs (oW 6 (LS 1) ksT spT tk LZ g37 a38 (oW 3 hV ksV spV tk LV gV aV (oW 4 hS ksS spS tk LS gS aS (rA 4 (LS 0) 3 tk (fun i => some (dP i).1.1) (pW 5 ksD spD 1 tk dP 3 rw))))) := gr3 (a := (oX 3 hV ksV spV tk LV gV aV)) (b := (oX 4 hS ksS spS tk LS gS aS)) (x := (rX 4 (LS 0) 3 tk (fun i => some (dP i).1.1))) (y := (oX 6 (LS 1) ksT spT tk LZ g37 a38)) (r := (pW 5 ksD spD 1 tk dP 3 rw)) hst
          have hst : St dC dI A s.heap H locs (oW 4 hS ksS spS tk LS gS aS (oW 6 (LS 1) ksT spT tk LZ g37 a38 (oW 3 hV ksV spV tk LV gV aV (rA 4 (LS 0) 3 tk (fun i => some (dP i).1.1) (pW 5 ksD spD 1 tk dP 3 rw))))) := gr2 (a := (oX 6 (LS 1) ksT spT tk LZ g37 a38)) (b := (oX 3 hV ksV spV tk LV gV aV)) (x := (oX 4 hS ksS spS tk LS gS aS)) (r := (rA 4 (LS 0) 3 tk (fun i => some (dP i).1.1) (pW 5 ksD spD 1 tk dP 3 rw))) hst
          refine cl_vi hx hb hml hown hG hg (cS_edit l dC dI tk A hS LS gS aS LZ g37 a38 hV LV gV aV (rA 4 (LS 0) 3 tk (fun i => some (dP i).1.1) (pW 5 ksD spD 1 tk dP 3 rw)) n x47 _ _ _ hc53) (cw_v 2 hG k_606 k_608 s_21 k_4 k_609 (by decide +kernel) ⟨by decide, by decide⟩) hst rfl oW_0 rfl hl.1 rfl (Nat.le_of_ble_eq_true rfl) ⟨Nat.le_refl 0, Nat.le_refl 0⟩ d_S_change_89 (fun H locs hst => ?_)
          refine lv_if_ne (tgt := 97) hx hb d_S_change_92 (by decide) (fun h55 => ?_) (fun h55 => ?_)
          · have hm := it_f hm h55
            refine lv_iinc (k := 4) (v := (x36 + 1)) (lv' := [(4, .int (x36 + 1)), (0, .ref hS), (1, .ref hV), (2, .int v2), (3, .int x6)]) hx hb d_S_change_97 hl rfl (by rfl) (by decide) rfl (fun ls hl => ?_)
            refine lv_goto (tgt := 70) hx hb d_S_change_100 (by decide) ?_
            have hst : St dC dI A s.heap H locs (pW 5 ksD spD 1 tk dP 3 (oW 4 hS ksS spS tk LS gS aS (oW 6 (LS 1) ksT spT tk LZ g51 a52 (oW 3 hV ksV spV tk LV gV aV (rA 4 (LS 0) 3 tk (fun i => some (dP i).1.1) rw))))) := gr4 (a := (oX 4 hS ksS spS tk LS gS aS)) (b := (oX 6 (LS 1) ksT spT tk LZ g51 a52)) (x := (oX 3 hV ksV spV tk LV gV aV)) (y := (rX 4 (LS 0) 3 tk (fun i => some (dP i).1.1))) (z := (pF 5 ksD spD 1 tk dP 3)) (r := rw) hst
            have hst : St dC dI A s.heap H locs (oW 3 hV ksV spV tk LV gV aV (pW 5 ksD spD 1 tk dP 3 (oW 4 hS ksS spS tk LS gS aS (oW 6 (LS 1) ksT spT tk LZ g51 a52 (rA 4 (LS 0) 3 tk (fun i => some (dP i).1.1) rw))))) := gr3 (a := (pF 5 ksD spD 1 tk dP 3)) (b := (oX 4 hS ksS spS tk LS gS aS)) (x := (oX 6 (LS 1) ksT spT tk LZ g51 a52)) (y := (oX 3 hV ksV spV tk LV gV aV)) (r := (rA 4 (LS 0) 3 tk (fun i => some (dP i).1.1) rw)) hst
            have hst : St dC dI A s.heap H locs (oW 6 (LS 1) ksT spT tk LZ g51 a52 (oW 3 hV ksV spV tk LV gV aV (pW 5 ksD spD 1 tk dP 3 (oW 4 hS ksS spS tk LS gS aS (rA 4 (LS 0) 3 tk (fun i => some (dP i).1.1) rw))))) := gr3 (a := (oX 3 hV ksV spV tk LV gV aV)) (b := (pF 5 ksD spD 1 tk dP 3)) (x := (oX 4 hS ksS spS tk LS gS aS)) (y := (oX 6 (LS 1) ksT spT tk LZ g51 a52)) (r := (rA 4 (LS 0) 3 tk (fun i => some (dP i).1.1) rw)) hst
            have hst : St dC dI A s.heap H locs (rA 4 (LS 0) 3 tk (fun i => some (dP i).1.1) (oW 6 (LS 1) ksT spT tk LZ g51 a52 (oW 3 hV ksV spV tk LV gV aV (pW 5 ksD spD 1 tk dP 3 (oW 4 hS ksS spS tk LS gS aS rw))))) := gr4 (a := (oX 6 (LS 1) ksT spT tk LZ g51 a52)) (b := (oX 3 hV ksV spV tk LV gV aV)) (x := (pF 5 ksD spD 1 tk dP 3)) (y := (oX 4 hS ksS spS tk LS gS aS)) (z := (rX 4 (LS 0) 3 tk (fun i => some (dP i).1.1))) (r := rw) hst
            have hst : St dC dI A s.heap H locs (oW 4 hS ksS spS tk LS gS aS (rA 4 (LS 0) 3 tk (fun i => some (dP i).1.1) (oW 6 (LS 1) ksT spT tk LZ g51 a52 (oW 3 hV ksV spV tk LV gV aV (pW 5 ksD spD 1 tk dP 3 rw))))) := gr4 (a := (rX 4 (LS 0) 3 tk (fun i => some (dP i).1.1))) (b := (oX 6 (LS 1) ksT spT tk LZ g51 a52)) (x := (oX 3 hV ksV spV tk LV gV aV)) (y := (pF 5 ksD spD 1 tk dP 3)) (z := (oX 4 hS ksS spS tk LS gS aS)) (r := rw) hst
            exact hJ40 (x36 + 1) g51 a52 (Option.some.inj hm).symm _ _ _ (lv_sub hl [1, 2, 3, 4, 0] rfl) hst
          · have hm := it_t hm h55
            refine lv_iconst (v := 0) hx hb d_S_change_95 (by decide) ?_
            have hst : St dC dI A s.heap H locs (pW 5 ksD spD 1 tk dP 3 (oW 4 hS ksS spS tk LS gS aS (oW 6 (LS 1) ksT spT tk LZ g51 a52 (oW 3 hV ksV spV tk LV gV aV (rA 4 (LS 0) 3 tk (fun i => some (dP i).1.1) rw))))) := gr4 (a := (oX 4 hS ksS spS tk LS gS aS)) (b := (oX 6 (LS 1) ksT spT tk LZ g51 a52)) (x := (oX 3 hV ksV spV tk LV gV aV)) (y := (rX 4 (LS 0) 3 tk (fun i => some (dP i).1.1))) (z := (pF 5 ksD spD 1 tk dP 3)) (r := rw) hst
            have hst : St dC dI A s.heap H locs (oW 3 hV ksV spV tk LV gV aV (pW 5 ksD spD 1 tk dP 3 (oW 4 hS ksS spS tk LS gS aS (oW 6 (LS 1) ksT spT tk LZ g51 a52 (rA 4 (LS 0) 3 tk (fun i => some (dP i).1.1) rw))))) := gr3 (a := (pF 5 ksD spD 1 tk dP 3)) (b := (oX 4 hS ksS spS tk LS gS aS)) (x := (oX 6 (LS 1) ksT spT tk LZ g51 a52)) (y := (oX 3 hV ksV spV tk LV gV aV)) (r := (rA 4 (LS 0) 3 tk (fun i => some (dP i).1.1) rw)) hst
            have hst : St dC dI A s.heap H locs (oW 6 (LS 1) ksT spT tk LZ g51 a52 (oW 3 hV ksV spV tk LV gV aV (pW 5 ksD spD 1 tk dP 3 (oW 4 hS ksS spS tk LS gS aS (rA 4 (LS 0) 3 tk (fun i => some (dP i).1.1) rw))))) := gr3 (a := (oX 3 hV ksV spV tk LV gV aV)) (b := (pF 5 ksD spD 1 tk dP 3)) (x := (oX 4 hS ksS spS tk LS gS aS)) (y := (oX 6 (LS 1) ksT spT tk LZ g51 a52)) (r := (rA 4 (LS 0) 3 tk (fun i => some (dP i).1.1) rw)) hst
            have hst : St dC dI A s.heap H locs (rA 4 (LS 0) 3 tk (fun i => some (dP i).1.1) (oW 6 (LS 1) ksT spT tk LZ g51 a52 (oW 3 hV ksV spV tk LV gV aV (pW 5 ksD spD 1 tk dP 3 (oW 4 hS ksS spS tk LS gS aS rw))))) := gr4 (a := (oX 6 (LS 1) ksT spT tk LZ g51 a52)) (b := (oX 3 hV ksV spV tk LV gV aV)) (x := (pF 5 ksD spD 1 tk dP 3)) (y := (oX 4 hS ksS spS tk LS gS aS)) (z := (rX 4 (LS 0) 3 tk (fun i => some (dP i).1.1))) (r := rw) hst
            have hst : St dC dI A s.heap H locs (oW 4 hS ksS spS tk LS gS aS (rA 4 (LS 0) 3 tk (fun i => some (dP i).1.1) (oW 6 (LS 1) ksT spT tk LZ g51 a52 (oW 3 hV ksV spV tk LV gV aV (pW 5 ksD spD 1 tk dP 3 rw))))) := gr4 (a := (rX 4 (LS 0) 3 tk (fun i => some (dP i).1.1))) (b := (oX 6 (LS 1) ksT spT tk LZ g51 a52)) (x := (oX 3 hV ksV spV tk LV gV aV)) (y := (pF 5 ksD spD 1 tk dP 3)) (z := (oX 4 hS ksS spS tk LS gS aS)) (r := rw) hst
            have hst9 := hst
            have he := (hR20 _ (hR41 _ (Option.some.inj hm).symm).symm)
            cases he
            exact rt_i hx hb hr hlk (by decide) hst9 rfl d_S_change_96
      · have hm := it_f hm h13
        refine lv_iconst (v := 0) hx hb d_S_change_49 (by decide) ?_
        have hst := unf0 (d := x6.toNatClampNeg) hst (inb_lt hn12)
        have hst : St dC dI A s.heap H locs (oW 3 hV ksV spV tk LV gV aV (pW 5 ksD spD 1 tk dP 3 (rA 4 (LS 0) 3 tk (fun i => some (dP i).1.1) (oW 4 hS ksS spS tk LS gS aS (oW 6 (LS 1) ksT spT tk LZ gZ aZ rw))))) := gr3 (a := (pF 5 ksD spD 1 tk dP 3)) (b := (rX 4 (LS 0) 3 tk (fun i => some (dP i).1.1))) (x := (oX 4 hS ksS spS tk LS gS aS)) (y := (oX 3 hV ksV spV tk LV gV aV)) (r := (oW 6 (LS 1) ksT spT tk LZ gZ aZ rw)) hst
        have hst : St dC dI A s.heap H locs (oW 6 (LS 1) ksT spT tk LZ gZ aZ (oW 3 hV ksV spV tk LV gV aV (pW 5 ksD spD 1 tk dP 3 (rA 4 (LS 0) 3 tk (fun i => some (dP i).1.1) (oW 4 hS ksS spS tk LS gS aS rw))))) := gr4 (a := (oX 3 hV ksV spV tk LV gV aV)) (b := (pF 5 ksD spD 1 tk dP 3)) (x := (rX 4 (LS 0) 3 tk (fun i => some (dP i).1.1))) (y := (oX 4 hS ksS spS tk LS gS aS)) (z := (oX 6 (LS 1) ksT spT tk LZ gZ aZ)) (r := rw) hst
        have hst : St dC dI A s.heap H locs (rA 4 (LS 0) 3 tk (fun i => some (dP i).1.1) (oW 6 (LS 1) ksT spT tk LZ gZ aZ (oW 3 hV ksV spV tk LV gV aV (pW 5 ksD spD 1 tk dP 3 (oW 4 hS ksS spS tk LS gS aS rw))))) := gr3 (a := (oX 6 (LS 1) ksT spT tk LZ gZ aZ)) (b := (oX 3 hV ksV spV tk LV gV aV)) (x := (pF 5 ksD spD 1 tk dP 3)) (y := (rX 4 (LS 0) 3 tk (fun i => some (dP i).1.1))) (r := (oW 4 hS ksS spS tk LS gS aS rw)) hst
        have hst : St dC dI A s.heap H locs (oW 4 hS ksS spS tk LS gS aS (rA 4 (LS 0) 3 tk (fun i => some (dP i).1.1) (oW 6 (LS 1) ksT spT tk LZ gZ aZ (oW 3 hV ksV spV tk LV gV aV (pW 5 ksD spD 1 tk dP 3 rw))))) := gr4 (a := (rX 4 (LS 0) 3 tk (fun i => some (dP i).1.1))) (b := (oX 6 (LS 1) ksT spT tk LZ gZ aZ)) (x := (oX 3 hV ksV spV tk LV gV aV)) (y := (pF 5 ksD spD 1 tk dP 3)) (z := (oX 4 hS ksS spS tk LS gS aS)) (r := rw) hst
        have hst9 := hst
        have he := (Option.some.inj hm)
        cases he
        exact rt_i hx hb hr hlk (by decide) hst9 rfl d_S_change_50
  refine lv_if_eq (tgt := 24) hx hb d_S_change_7 (by decide) (fun h56 => ?_) (fun h56 => ?_)
  · have hm := it_t hm h56
    refine lv_iconst (v := (-1)) hx hb d_S_change_24 (by decide) ?_
    exact hJ4 (-1) (Option.some.inj hm).symm _ _ _ (lv_sub hl [0, 1, 2] rfl) hst
  · have hm := it_f hm h56
    refine lv_aload_n hx hb d_S_change_10 rfl (lv_at hl 0 rfl) ?_
    refine lv_aload_n hx hb d_S_change_11 rfl (lv_at hl 1 rfl) ?_
    refine lv_aload_n hx hb d_S_change_12 rfl (lv_at hl 1 rfl) ?_
    refine lv_iload_n hx hb d_S_change_13 rfl (lv_at hl 2 rfl) ?_
    refine lv_iconst (v := 0) hx hb d_S_change_14 (by decide) ?_
    obtain ⟨x57, hc58, hm⟩ := bd_u hm
    have hst : St dC dI A s.heap H locs (oW 3 hV ksV spV tk LV gV aV (oW 4 hS ksS spS tk LS gS aS (rA 4 (LS 0) 3 tk (fun i => some (dP i).1.1) (oW 6 (LS 1) ksT spT tk LZ gZ aZ (pW 5 ksD spD 1 tk dP 3 rw))))) := gr3 (a := (oX 4 hS ksS spS tk LS gS aS)) (b := (rX 4 (LS 0) 3 tk (fun i => some (dP i).1.1))) (x := (oX 6 (LS 1) ksT spT tk LZ gZ aZ)) (y := (oX 3 hV ksV spV tk LV gV aV)) (r := (pW 5 ksD spD 1 tk dP 3 rw)) hst
    refine cl_vi hx hb hml hown hG hg (cV_item l dC dI tk A hV LV gV aV (oW 4 hS ksS spS tk LS gS aS (rA 4 (LS 0) 3 tk (fun i => some (dP i).1.1) (oW 6 (LS 1) ksT spT tk LZ gZ aZ (pW 5 ksD spD 1 tk dP 3 rw)))) n v2 0 _ hc58) (cw_v 2 hG k_577 k_499 k_500 k_3 k_501 (by decide +kernel) ⟨by decide, by decide⟩) hst rfl oW_0 rfl hl.1 rfl (Nat.le_of_ble_eq_true rfl) ⟨Nat.le_refl 0, Nat.le_refl 0⟩ d_S_change_15 (fun H locs hst => ?_)
    obtain ⟨x60, hc61, hm⟩ := bd_u hm
    have hst : St dC dI A s.heap H locs (pW 5 ksD spD 1 tk dP 3 (oW 3 hV ksV spV tk LV gV aV (oW 4 hS ksS spS tk LS gS aS (rA 4 (LS 0) 3 tk (fun i => some (dP i).1.1) (oW 6 (LS 1) ksT spT tk LZ gZ aZ rw))))) := gr4 (a := (oX 3 hV ksV spV tk LV gV aV)) (b := (oX 4 hS ksS spS tk LS gS aS)) (x := (rX 4 (LS 0) 3 tk (fun i => some (dP i).1.1))) (y := (oX 6 (LS 1) ksT spT tk LZ gZ aZ)) (z := (pF 5 ksD spD 1 tk dP 3)) (r := rw) hst
    have hst : St dC dI A s.heap H locs (oW 3 hV ksV spV tk LV gV aV (pW 5 ksD spD 1 tk dP 3 (oW 4 hS ksS spS tk LS gS aS (rA 4 (LS 0) 3 tk (fun i => some (dP i).1.1) (oW 6 (LS 1) ksT spT tk LZ gZ aZ rw))))) := gr1 (a := (pF 5 ksD spD 1 tk dP 3)) (b := (oX 3 hV ksV spV tk LV gV aV)) (r := (oW 4 hS ksS spS tk LS gS aS (rA 4 (LS 0) 3 tk (fun i => some (dP i).1.1) (oW 6 (LS 1) ksT spT tk LZ gZ aZ rw)))) hst
    have hst : St dC dI A s.heap H locs (rA 4 (LS 0) 3 tk (fun i => some (dP i).1.1) (oW 3 hV ksV spV tk LV gV aV (pW 5 ksD spD 1 tk dP 3 (oW 4 hS ksS spS tk LS gS aS (oW 6 (LS 1) ksT spT tk LZ gZ aZ rw))))) := gr3 (a := (oX 3 hV ksV spV tk LV gV aV)) (b := (pF 5 ksD spD 1 tk dP 3)) (x := (oX 4 hS ksS spS tk LS gS aS)) (y := (rX 4 (LS 0) 3 tk (fun i => some (dP i).1.1))) (r := (oW 6 (LS 1) ksT spT tk LZ gZ aZ rw)) hst
    have hst : St dC dI A s.heap H locs (oW 4 hS ksS spS tk LS gS aS (rA 4 (LS 0) 3 tk (fun i => some (dP i).1.1) (oW 3 hV ksV spV tk LV gV aV (pW 5 ksD spD 1 tk dP 3 (oW 6 (LS 1) ksT spT tk LZ gZ aZ rw))))) := gr3 (a := (rX 4 (LS 0) 3 tk (fun i => some (dP i).1.1))) (b := (oX 3 hV ksV spV tk LV gV aV)) (x := (pF 5 ksD spD 1 tk dP 3)) (y := (oX 4 hS ksS spS tk LS gS aS)) (r := (oW 6 (LS 1) ksT spT tk LZ gZ aZ rw)) hst
    refine cl_vi hx hb hml hown hG hg (cS_find l dC dI tk A hS LS gS aS hV LV gV aV dP (oW 6 (LS 1) ksT spT tk LZ gZ aZ rw) n x57 _ hc61) (cw_v 2 hG k_578 k_512 k_513 k_4 k_514 (by decide +kernel) ⟨by decide, by decide⟩) hst rfl oW_0 rfl hl.1 rfl (Nat.le_of_ble_eq_true rfl) ⟨Nat.le_refl 0, Nat.le_refl 0⟩ d_S_change_18 (fun H locs hst => ?_)
    refine lv_goto (tgt := 25) hx hb d_S_change_21 (by decide) ?_
    have hst : St dC dI A s.heap H locs (pW 5 ksD spD 1 tk dP 3 (oW 4 hS ksS spS tk LS gS aS (rA 4 (LS 0) 3 tk (fun i => some (dP i).1.1) (oW 3 hV ksV spV tk LV gV aV (oW 6 (LS 1) ksT spT tk LZ gZ aZ rw))))) := gr3 (a := (oX 4 hS ksS spS tk LS gS aS)) (b := (rX 4 (LS 0) 3 tk (fun i => some (dP i).1.1))) (x := (oX 3 hV ksV spV tk LV gV aV)) (y := (pF 5 ksD spD 1 tk dP 3)) (r := (oW 6 (LS 1) ksT spT tk LZ gZ aZ rw)) hst
    have hst : St dC dI A s.heap H locs (oW 3 hV ksV spV tk LV gV aV (pW 5 ksD spD 1 tk dP 3 (oW 4 hS ksS spS tk LS gS aS (rA 4 (LS 0) 3 tk (fun i => some (dP i).1.1) (oW 6 (LS 1) ksT spT tk LZ gZ aZ rw))))) := gr3 (a := (pF 5 ksD spD 1 tk dP 3)) (b := (oX 4 hS ksS spS tk LS gS aS)) (x := (rX 4 (LS 0) 3 tk (fun i => some (dP i).1.1))) (y := (oX 3 hV ksV spV tk LV gV aV)) (r := (oW 6 (LS 1) ksT spT tk LZ gZ aZ rw)) hst
    have hst : St dC dI A s.heap H locs (oW 6 (LS 1) ksT spT tk LZ gZ aZ (oW 3 hV ksV spV tk LV gV aV (pW 5 ksD spD 1 tk dP 3 (oW 4 hS ksS spS tk LS gS aS (rA 4 (LS 0) 3 tk (fun i => some (dP i).1.1) rw))))) := gr4 (a := (oX 3 hV ksV spV tk LV gV aV)) (b := (pF 5 ksD spD 1 tk dP 3)) (x := (oX 4 hS ksS spS tk LS gS aS)) (y := (rX 4 (LS 0) 3 tk (fun i => some (dP i).1.1))) (z := (oX 6 (LS 1) ksT spT tk LZ gZ aZ)) (r := rw) hst
    have hst : St dC dI A s.heap H locs (rA 4 (LS 0) 3 tk (fun i => some (dP i).1.1) (oW 6 (LS 1) ksT spT tk LZ gZ aZ (oW 3 hV ksV spV tk LV gV aV (pW 5 ksD spD 1 tk dP 3 (oW 4 hS ksS spS tk LS gS aS rw))))) := gr4 (a := (oX 6 (LS 1) ksT spT tk LZ gZ aZ)) (b := (oX 3 hV ksV spV tk LV gV aV)) (x := (pF 5 ksD spD 1 tk dP 3)) (y := (oX 4 hS ksS spS tk LS gS aS)) (z := (rX 4 (LS 0) 3 tk (fun i => some (dP i).1.1))) (r := rw) hst
    have hst : St dC dI A s.heap H locs (oW 4 hS ksS spS tk LS gS aS (rA 4 (LS 0) 3 tk (fun i => some (dP i).1.1) (oW 6 (LS 1) ksT spT tk LZ gZ aZ (oW 3 hV ksV spV tk LV gV aV (pW 5 ksD spD 1 tk dP 3 rw))))) := gr4 (a := (rX 4 (LS 0) 3 tk (fun i => some (dP i).1.1))) (b := (oX 6 (LS 1) ksT spT tk LZ gZ aZ)) (x := (oX 3 hV ksV spV tk LV gV aV)) (y := (pF 5 ksD spD 1 tk dP 3)) (z := (oX 4 hS ksS spS tk LS gS aS)) (r := rw) hst
    exact hJ4 x60 (Option.some.inj hm).symm _ _ _ (lv_sub hl [0, 1, 2] rfl) hst
def mQ_isFull (n : Nat) (gQ : aG) (aQ : aA) : Option (Int32) := if (gQ 1) < 8 then (some (0)) else (some (1))
theorem d_Q_isFull_0 : decode prog_6_method_2_code 0 = .ok (.aload_n 0, 1) := by decide +kernel
theorem d_Q_isFull_1 : decode prog_6_method_2_code 1 = .ok (.getfield 18, 3) := by decide +kernel
theorem d_Q_isFull_4 : decode prog_6_method_2_code 4 = .ok (.bipush 8, 2) := by decide +kernel
theorem d_Q_isFull_6 : decode prog_6_method_2_code 6 = .ok (.if_icmp .lt 7, 3) := by decide +kernel
theorem d_Q_isFull_9 : decode prog_6_method_2_code 9 = .ok (.iconst 1, 1) := by decide +kernel
theorem d_Q_isFull_10 : decode prog_6_method_2_code 10 = .ok (.goto 4, 3) := by decide +kernel
theorem d_Q_isFull_13 : decode prog_6_method_2_code 13 = .ok (.iconst 0, 1) := by decide +kernel
theorem d_Q_isFull_14 : decode prog_6_method_2_code 14 = .ok (.ireturn, 1) := by decide +kernel
set_option maxHeartbeats 4000000 in
set_option maxRecDepth 100000 in
theorem cQ_isFull (l : Launch) (dC : Nat → ClassId) (dI : Nat → Nat → Nat) (tk : Nat → ClassId) (A : Nat → Prop) (hQ : Nat) (LQ : Nat → Nat) (gQ : aG) (aQ : aA) (rw : va_W) (n : Nat) (r0 : Int32) (hm : mQ_isFull n gQ aQ = some r0) : CtI l dC dI tk A ⟨"EditorServer$Queue", "isFull", "()Z"⟩ prog_6_method_2_code 1 (some .boolean) 0 0 [.ref hQ] (oW 7 hQ ksQ spQ tk LQ gQ aQ rw) r0 (oW 7 hQ ksQ spQ tk LQ gQ aQ rw) := by
  refine ent (by decide) (Nat.le_of_ble_eq_true rfl) ?_
  intro p e s m args below meth c hx hb hr hml hown hlk hG hg hst ls hl
  unfold mQ_isFull at hm
  have hl : lv_has ls 1 [(0, .ref hQ)] := hl
  obtain ⟨H, hH⟩ : ∃ H, H = s.heap := ⟨_, rfl⟩
  obtain ⟨locs, hlc⟩ : ∃ locs : List Loc, locs = [] := ⟨_, rfl⟩
  have hst : St dC dI A s.heap H locs (oW 7 hQ ksQ spQ tk LQ gQ aQ rw) := by rw [hH, hlc]; exact hst
  suffices hw : W p l e (rmo 0 0) s m args below meth c H locs 0 0 (MQ below (QI dC dI A r0 (oW 7 hQ ksQ spQ tk LQ gQ aQ rw)) args s 0 0 A) (F0 m 0 ls []) by rw [hH, hlc] at hw; exact hw
  refine lv_aload_n hx hb d_Q_isFull_0 rfl (lv_at hl 0 rfl) ?_
  refine ro_geti hx hb hown hG hg cQ hst 1 (by decide) rfl rfl k_214 d_Q_isFull_1 ?_
  refine lv_bipush (v := 8) hx hb d_Q_isFull_4 (by decide) ?_
  refine lv_icmp_lt (tgt := 13) hx hb d_Q_isFull_6 (by decide) (fun h1 => ?_) (fun h1 => ?_)
  · have hm := it_t hm h1
    refine lv_iconst (v := 0) hx hb d_Q_isFull_13 (by decide) ?_
    have hst9 := hst
    have he := (Option.some.inj hm)
    cases he
    exact rt_i hx hb hr hlk (by decide) hst9 rfl d_Q_isFull_14
  · have hm := it_f hm h1
    refine lv_iconst (v := 1) hx hb d_Q_isFull_9 (by decide) ?_
    refine lv_goto (tgt := 14) hx hb d_Q_isFull_10 (by decide) ?_
    have hst9 := hst
    have he := (Option.some.inj hm)
    cases he
    exact rt_i hx hb hr hlk (by decide) hst9 rfl d_Q_isFull_14
def mQ_find (n : Nat) (v1 : Int32) (gQ : aG) (aQ : aA) (dO : aP) : Option (Int32) := lp (ε := Int32) (fun x1 => if (gQ 1) ≤ x1 then (some (.inr ((-1)))) else (gd (inb x1 8) (if ((dO x1.toNatClampNeg).2.1 1) = v1 then (some (.inr (x1))) else (some (.inl (x1 + 1)))))) n 0
theorem d_Q_find_0 : decode prog_6_method_4_code 0 = .ok (.iconst 0, 1) := by decide +kernel
theorem d_Q_find_1 : decode prog_6_method_4_code 1 = .ok (.istore_n 2, 1) := by decide +kernel
theorem d_Q_find_2 : decode prog_6_method_4_code 2 = .ok (.iload_n 2, 1) := by decide +kernel
theorem d_Q_find_3 : decode prog_6_method_4_code 3 = .ok (.aload_n 0, 1) := by decide +kernel
theorem d_Q_find_4 : decode prog_6_method_4_code 4 = .ok (.getfield 18, 3) := by decide +kernel
theorem d_Q_find_7 : decode prog_6_method_4_code 7 = .ok (.if_icmp .ge 24, 3) := by decide +kernel
theorem d_Q_find_10 : decode prog_6_method_4_code 10 = .ok (.aload_n 0, 1) := by decide +kernel
theorem d_Q_find_11 : decode prog_6_method_4_code 11 = .ok (.getfield 13, 3) := by decide +kernel
theorem d_Q_find_14 : decode prog_6_method_4_code 14 = .ok (.iload_n 2, 1) := by decide +kernel
theorem d_Q_find_15 : decode prog_6_method_4_code 15 = .ok (.aaload, 1) := by decide +kernel
theorem d_Q_find_16 : decode prog_6_method_4_code 16 = .ok (.getfield 22, 3) := by decide +kernel
theorem d_Q_find_19 : decode prog_6_method_4_code 19 = .ok (.iload_n 1, 1) := by decide +kernel
theorem d_Q_find_20 : decode prog_6_method_4_code 20 = .ok (.if_icmp .ne 5, 3) := by decide +kernel
theorem d_Q_find_23 : decode prog_6_method_4_code 23 = .ok (.iload_n 2, 1) := by decide +kernel
theorem d_Q_find_24 : decode prog_6_method_4_code 24 = .ok (.ireturn, 1) := by decide +kernel
theorem d_Q_find_25 : decode prog_6_method_4_code 25 = .ok (.iinc 2 1, 3) := by decide +kernel
theorem d_Q_find_28 : decode prog_6_method_4_code 28 = .ok (.goto (-26), 3) := by decide +kernel
theorem d_Q_find_31 : decode prog_6_method_4_code 31 = .ok (.iconst (-1), 1) := by decide +kernel
theorem d_Q_find_32 : decode prog_6_method_4_code 32 = .ok (.ireturn, 1) := by decide +kernel
set_option maxHeartbeats 4000000 in
set_option maxRecDepth 100000 in
theorem cQ_find (l : Launch) (dC : Nat → ClassId) (dI : Nat → Nat → Nat) (tk : Nat → ClassId) (A : Nat → Prop) (hQ : Nat) (LQ : Nat → Nat) (gQ : aG) (aQ : aA) (dO : aP) (rw : va_W) (n : Nat) (v1 : Int32) (r0 : Int32) (hm : mQ_find n v1 gQ aQ dO = some r0) : CtI l dC dI tk A ⟨"EditorServer$Queue", "find", "(I)I"⟩ prog_6_method_4_code 3 (some .int) 0 0 [.ref hQ, .int v1] (oW 7 hQ ksQ spQ tk LQ gQ aQ (rA 5 (LQ 0) 8 tk (fun i => some (dO i).1.1) (pW 8 ksK spK 0 tk dO 8 rw))) r0 (oW 7 hQ ksQ spQ tk LQ gQ aQ (rA 5 (LQ 0) 8 tk (fun i => some (dO i).1.1) (pW 8 ksK spK 0 tk dO 8 rw))) := by
  refine ent (by decide) (Nat.le_of_ble_eq_true rfl) ?_
  intro p e s m args below meth c hx hb hr hml hown hlk hG hg hst ls hl
  unfold mQ_find at hm
  have hl : lv_has ls 3 [(0, .ref hQ), (1, .int v1)] := hl
  obtain ⟨H, hH⟩ : ∃ H, H = s.heap := ⟨_, rfl⟩
  obtain ⟨locs, hlc⟩ : ∃ locs : List Loc, locs = [] := ⟨_, rfl⟩
  have hst : St dC dI A s.heap H locs (oW 7 hQ ksQ spQ tk LQ gQ aQ (rA 5 (LQ 0) 8 tk (fun i => some (dO i).1.1) (pW 8 ksK spK 0 tk dO 8 rw))) := by rw [hH, hlc]; exact hst
  suffices hw : W p l e (rmo 0 0) s m args below meth c H locs 0 0 (MQ below (QI dC dI A r0 (oW 7 hQ ksQ spQ tk LQ gQ aQ (rA 5 (LQ 0) 8 tk (fun i => some (dO i).1.1) (pW 8 ksK spK 0 tk dO 8 rw)))) args s 0 0 A) (F0 m 0 ls []) by rw [hH, hlc] at hw; exact hw
  refine lv_iconst (v := 0) hx hb d_Q_find_0 (by decide) ?_
  refine lv_istore_n (lv' := [(2, .int 0), (0, .ref hQ), (1, .int v1)]) hx hb d_Q_find_1 rfl hl (by decide) rfl (fun ls hl => ?_)
  refine lp_u (fun x1 : Int32 => ∀ (H : Heap) (locs : List Loc) (ls : Array Slot), lv_has ls 3 [(0, .ref hQ), (1, .int v1), (2, .int x1)] → St dC dI A s.heap H locs (oW 7 hQ ksQ spQ tk LQ gQ aQ (rA 5 (LQ 0) 8 tk (fun i => some (dO i).1.1) (pW 8 ksK spK 0 tk dO 8 rw))) → W p l e (rmo 0 0) s m args below meth c H locs 0 0 (MQ below (QI dC dI A r0 (oW 7 hQ ksQ spQ tk LQ gQ aQ (rA 5 (LQ 0) 8 tk (fun i => some (dO i).1.1) (pW 8 ksK spK 0 tk dO 8 rw)))) args s 0 0 A) (F0 m 2 ls [])) ?_ n 0 hm _ _ _ (lv_sub hl [1, 2, 0] rfl) hst
  rintro x1 r5 hm hJ30 hR4 H locs ls hl hst
  have hJ3 := fun y0 (e : r5 = .inl y0) => hJ30 y0 e
  refine lv_iload_n hx hb d_Q_find_2 rfl (lv_at hl 2 rfl) ?_
  refine lv_aload_n hx hb d_Q_find_3 rfl (lv_at hl 0 rfl) ?_
  refine ro_geti hx hb hown hG hg cQ hst 1 (by decide) rfl rfl k_214 d_Q_find_4 ?_
  refine lv_icmp_ge (tgt := 31) hx hb d_Q_find_7 (by decide) (fun h6 => ?_) (fun h6 => ?_)
  · have hm := it_t hm h6
    refine lv_iconst (v := (-1)) hx hb d_Q_find_31 (by decide) ?_
    have hst9 := hst
    have he := (hR4 _ (Option.some.inj hm).symm)
    cases he
    exact rt_i hx hb hr hlk rfl hst9 rfl d_Q_find_32
  · have hm := it_f hm h6
    refine lv_aload_n hx hb d_Q_find_10 rfl (lv_at hl 0 rfl) ?_
    refine ro_geta hx hb hown hG hg cQ hst 0 0 (by decide) rfl rfl k_212 d_Q_find_11 ?_
    refine lv_iload_n hx hb d_Q_find_14 rfl (lv_at hl 2 rfl) ?_
    obtain ⟨hn7, hm⟩ := gd_u hm
    have hst : St dC dI A s.heap H locs (rA 5 (LQ 0) 8 tk (fun i => some (dO i).1.1) (oW 7 hQ ksQ spQ tk LQ gQ aQ (pW 8 ksK spK 0 tk dO 8 rw))) := gr1 (a := (oX 7 hQ ksQ spQ tk LQ gQ aQ)) (b := (rX 5 (LQ 0) 8 tk (fun i => some (dO i).1.1))) (r := (pW 8 ksK spK 0 tk dO 8 rw)) hst
    refine ro_aald (a := (dO x1.toNatClampNeg).1.1) hx hb hg hst rfl hn7 rfl d_Q_find_15 ?_
    have hst : St dC dI A s.heap H locs (pW 8 ksK spK 0 tk dO 8 (rA 5 (LQ 0) 8 tk (fun i => some (dO i).1.1) (oW 7 hQ ksQ spQ tk LQ gQ aQ rw))) := gr2 (a := (rX 5 (LQ 0) 8 tk (fun i => some (dO i).1.1))) (b := (oX 7 hQ ksQ spQ tk LQ gQ aQ)) (x := (pF 8 ksK spK 0 tk dO 8)) (r := rw) hst
    have hst := foc (d := x1.toNatClampNeg) hst (inb_lt hn7)
    refine rn_geti hx hb hown hG hg cK hst 1 (by decide) rfl rfl t_192 d_Q_find_16 ?_
    refine lv_iload_n hx hb d_Q_find_19 rfl (lv_at hl 1 rfl) ?_
    refine lv_icmp_ne (tgt := 25) hx hb d_Q_find_20 (by decide) (fun h8 => ?_) (fun h8 => ?_)
    · have hm := it_f hm h8
      refine lv_iinc (k := 2) (v := (x1 + 1)) (lv' := [(2, .int (x1 + 1)), (0, .ref hQ), (1, .int v1)]) hx hb d_Q_find_25 hl rfl (by rfl) (by decide) rfl (fun ls hl => ?_)
      refine lv_goto (tgt := 2) hx hb d_Q_find_28 (by decide) ?_
      have hst := unf0 (d := x1.toNatClampNeg) hst (inb_lt hn7)
      have hst : St dC dI A s.heap H locs (rA 5 (LQ 0) 8 tk (fun i => some (dO i).1.1) (pW 8 ksK spK 0 tk dO 8 (oW 7 hQ ksQ spQ tk LQ gQ aQ rw))) := gr1 (a := (pF 8 ksK spK 0 tk dO 8)) (b := (rX 5 (LQ 0) 8 tk (fun i => some (dO i).1.1))) (r := (oW 7 hQ ksQ spQ tk LQ gQ aQ rw)) hst
      have hst : St dC dI A s.heap H locs (oW 7 hQ ksQ spQ tk LQ gQ aQ (rA 5 (LQ 0) 8 tk (fun i => some (dO i).1.1) (pW 8 ksK spK 0 tk dO 8 rw))) := gr2 (a := (rX 5 (LQ 0) 8 tk (fun i => some (dO i).1.1))) (b := (pF 8 ksK spK 0 tk dO 8)) (x := (oX 7 hQ ksQ spQ tk LQ gQ aQ)) (r := rw) hst
      exact hJ3 (x1 + 1) (Option.some.inj hm).symm _ _ _ (lv_sub hl [1, 2, 0] rfl) hst
    · have hm := it_t hm h8
      refine lv_iload_n hx hb d_Q_find_23 rfl (lv_at hl 2 rfl) ?_
      have hst := unf0 (d := x1.toNatClampNeg) hst (inb_lt hn7)
      have hst : St dC dI A s.heap H locs (rA 5 (LQ 0) 8 tk (fun i => some (dO i).1.1) (pW 8 ksK spK 0 tk dO 8 (oW 7 hQ ksQ spQ tk LQ gQ aQ rw))) := gr1 (a := (pF 8 ksK spK 0 tk dO 8)) (b := (rX 5 (LQ 0) 8 tk (fun i => some (dO i).1.1))) (r := (oW 7 hQ ksQ spQ tk LQ gQ aQ rw)) hst
      have hst : St dC dI A s.heap H locs (oW 7 hQ ksQ spQ tk LQ gQ aQ (rA 5 (LQ 0) 8 tk (fun i => some (dO i).1.1) (pW 8 ksK spK 0 tk dO 8 rw))) := gr2 (a := (rX 5 (LQ 0) 8 tk (fun i => some (dO i).1.1))) (b := (pF 8 ksK spK 0 tk dO 8)) (x := (oX 7 hQ ksQ spQ tk LQ gQ aQ)) (r := rw) hst
      have hst9 := hst
      have he := (hR4 _ (Option.some.inj hm).symm)
      cases he
      exact rt_i hx hb hr hlk rfl hst9 rfl d_Q_find_24
