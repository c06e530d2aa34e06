theorem k_674 : Cond.codeWith ⟨"EditorServerLaw", "request", "(LEditorServer;I[J)I"⟩ method_3_code 4 (some FieldType.int) [(0, 9, 12, 13)] ∈ gW := gW_t (List.mem_of_getElem? (i := 674) (by decide +kernel)) (by decide +kernel)
theorem k_744 : Cond.codeWith ⟨"EditorServerLaw", "run", "(LEditorServer;I[J)I"⟩ method_4_code 4 (some FieldType.int) [(0, 9, 12, 13)] ∈ gW := gW_t (List.mem_of_getElem? (i := 744) (by decide +kernel)) (by decide +kernel)
theorem k_768 : Cond.codeWith ⟨"EditorServerLaw", "response", "(LEditorServer;II[J)I"⟩ method_5_code 5 (some FieldType.int) [(0, 10, 13, 13), (0, 10, 17, 22)] ∈ gW := gW_t (List.mem_of_getElem? (i := 768) (by decide +kernel)) (by decide +kernel)
theorem k_791 : Cond.codeWith ⟨"EditorServerLaw", "written", "(LEditorServer;II[J)I"⟩ method_6_code 5 (some FieldType.int) [(0, 10, 13, 13)] ∈ gW := gW_t (List.mem_of_getElem? (i := 791) (by decide +kernel)) (by decide +kernel)
theorem k_980 : Cond.codeWith ⟨"EditorServerLaw", "document", "(LEditorServer;II[J)I"⟩ method_7_code 5 (some FieldType.int) [(0, 10, 13, 13), (0, 10, 17, 22)] ∈ gW := gW_t (List.mem_of_getElem? (i := 980) (by decide +kernel)) (by decide +kernel)
theorem k_988 : Cond.codeWith ⟨"EditorServerLaw", "text", "(LEditorServer;II[J)I"⟩ method_8_code 5 (some FieldType.int) [(0, 10, 13, 13)] ∈ gW := gW_t (List.mem_of_getElem? (i := 988) (by decide +kernel)) (by decide +kernel)
theorem k_995 : Cond.codeWith ⟨"EditorServerLaw", "name", "(LEditorServer;II[J)I"⟩ method_9_code 5 (some FieldType.int) [(0, 10, 13, 13)] ∈ gW := gW_t (List.mem_of_getElem? (i := 995) (by decide +kernel)) (by decide +kernel)
theorem k_1002 : Cond.codeWith ⟨"EditorServerLaw", "place", "(LEditorServer;III[J)I"⟩ method_10_code 6 (some FieldType.int) [(0, 12, 15, 13)] ∈ gW := gW_t (List.mem_of_getElem? (i := 1002) (by decide +kernel)) (by decide +kernel)
/-! contracts in other words -/
theorem Met.wk {l : Launch} {y : MethodName} {ws : List Cond} {rm : Room} {P P2 : Array Value → State → Prop} {Q Q2 : Array Value → State → Outcome → State → Prop} {mc ms : Nat} {fr : Addr → Prop} (h : Met l y ws rm P Q mc ms fr) (h1 : ∀ a s, P2 a s → P a s) (h2 : ∀ a s o t, Q a s o t → Q2 a s o t) : Met l y ws rm P2 Q2 mc ms fr := by
  intro p e ha hc hk s m args below hf happ hP hK
  obtain ⟨n, o, g1, g2, g3, g4, g5⟩ := h p e ha hc hk s m args below hf happ (h1 _ _ hP) hK
  exact ⟨n, o, g1, g2, g3, h2 _ _ _ _ g4, g5⟩
theorem MetX.wk {l : Launch} {y : MethodName} {ws : List Cond} {rm : Room} {P P2 : Array Value → State → Prop} {Q Q2 : Array Value → State → Outcome → State → Prop} {mc ms : Nat} {fr : Addr → Prop} (h : MetX l y ws rm P Q mc ms fr) (h1 : ∀ a s, P2 a s → P a s) (h2 : ∀ a s o t, Q a s o t → Q2 a s o t) : MetX l y ws rm P2 Q2 mc ms fr := by
  intro p e ha hc hk s m args below hf happ hP hK
  obtain ⟨n, o, g1, g2, g3, g4, g5⟩ := h p e ha hc hk s m args below hf happ (h1 _ _ hP) hK
  exact ⟨n, o, g1, g2, g3, h2 _ _ _ _ g4, g5⟩
section PMS
variable {l : Launch} {dC : Nat → ClassId} {dI : Nat → Nat → Nat} {tk : Nat → ClassId} {A : Nat → Prop} {y : MethodName} {b : ByteArray} {mL : Nat} {ret : Option FieldType} {fr lo mc ms : Nat} {av : List Value} {ws ws1 wt wt1 : va_W} {r0 : Int32}
theorem pr_pm (p : ws.Perm wt) : ∀ a s, va_Pc av (Pr dC dI tk A wt) a s → va_Pc av (Pr dC dI tk A ws) a s := fun _ _ h => ⟨h.1, h.2.1, h.2.2.1.pm p.symm, h.2.2.2.pm p.symm⟩
theorem Po.pm {t : State} (p : ws.Perm wt) (h : Po dC dI A ws t) : Po dC dI A wt t := ⟨h.1.pm p, h.2.pm p⟩
theorem CtI.pm (h : CtI l dC dI tk A y b mL ret fr lo av ws r0 ws1) (p1 : ws.Perm wt) (p2 : ws1.Perm wt1) : CtI l dC dI tk A y b mL ret fr lo av wt r0 wt1 :=
  Met.wk h (pr_pm p1) (fun _ _ _ _ q => ⟨q.1.imp fun r hr => hr.imp fun u hu => ⟨hu.1, hu.2.1, hu.2.2.pm p2⟩, q.2⟩)
theorem CtX.pm {X : String} (h : CtX l dC dI tk A y b mL ret av X ws) (p1 : ws.Perm wt) : CtX l dC dI tk A y b mL ret av X wt :=
  MetX.wk h (pr_pm p1) (fun _ _ _ _ q => ⟨q.1.imp fun a ha => ha.imp fun cell hc => ⟨hc.1, hc.2.1, hc.2.2.1, hc.2.2.2.1, hc.2.2.2.2.pm p1⟩, q.2⟩)
theorem CtM.pmI {S : Type} {P : S → Prop} {wf wg : S → va_W} (h : CtM l dC dI tk A y b mL ret fr lo mc ms av ws (QIp dC dI A P r0 wf)) (p1 : ws.Perm wt) (p2 : ∀ u, (wf u).Perm (wg u)) : CtM l dC dI tk A y b mL ret fr lo mc ms av wt (QIp dC dI A P r0 wg) :=
  Met.wk h (pr_pm p1) (fun _ _ _ _ q => ⟨q.1.imp fun r hr => hr.imp fun u hu => ⟨hu.1, hu.2.1, hu.2.2.pm (p2 u)⟩, q.2⟩)
end PMS
/-- the array that the helpers answer through -/
def oL (hO : Nat) (tk : Nat → ClassId) (f : Nat → Int64) (rw : va_W) : va_W := [(hO, .inl (tk 6, 1, .inr (.inl f)))] ++ rw
/-- the law's whole world: the server, its builder, the long, the reference -/
def fWd (tk : Nat → ClassId) (hE : Nat) (LE LJ LV LN LS LZ LQ : Nat → Nat) (hO hM : Nat) (LM : Nat → Nat) (gE gJ gV : aG) (aV : aA) (gN : aG) (aN : aA) (gS gZ : aG) (aZ : aA) (dP : aP) (gQ : aG) (dO : aP) (u : sbS) (nB : Nat) (fO : Nat → Int64) (gM : aG) (aM : aA) : va_W := srvW hE tk LE LJ LV LN LS LZ LQ gE gJ gV aV gN aN gS gZ aZ dP gQ dO (sbW (LN 4) tk u nB (oL hO tk fO (oW 0 hM ksM spM tk LM gM aM [])))
theorem tb_1 {L : List ExceptionTableEntry} {a b c d : Nat} (h : L.map (fun h => (h.startPc, h.endPc, h.handlerPc, h.catchType)) = [(a, b, c, d)]) : ∃ x, L = [x] ∧ x.startPc = a ∧ x.endPc = b ∧ x.handlerPc = c ∧ x.catchType = d := by
  cases L with
  | nil => cases h
  | cons x t =>
    cases t with
    | nil =>
      simp only [List.map_cons, List.map_nil, List.cons.injEq, Prod.mk.injEq, and_true] at h
      exact ⟨x, rfl, h.1, h.2.1, h.2.2.1, h.2.2.2⟩
    | cons z t => cases h
theorem tb_2 {L : List ExceptionTableEntry} {a b c d a2 b2 c2 d2 : Nat} (h : L.map (fun h => (h.startPc, h.endPc, h.handlerPc, h.catchType)) = [(a, b, c, d), (a2, b2, c2, d2)]) : ∃ x y, L = [x, y] ∧ (x.startPc = a ∧ x.endPc = b ∧ x.handlerPc = c ∧ x.catchType = d) ∧ y.startPc = a2 ∧ y.endPc = b2 ∧ y.handlerPc = c2 ∧ y.catchType = d2 := by
  cases L with
  | nil => cases h
  | cons x t =>
    cases t with
    | nil => cases h
    | cons z t =>
      cases t with
      | nil =>
        simp only [List.map_cons, List.map_nil, List.cons.injEq, Prod.mk.injEq, and_true] at h
        exact ⟨x, z, rfl, ⟨h.1.1, h.1.2.1, h.1.2.2.1, h.1.2.2.2⟩, h.2.1, h.2.2.1, h.2.2.2.1, h.2.2.2.2⟩
      | cons z t => cases h
theorem d_L_request_0 : decode method_3_code 0 = .ok (.aload_n 2, 1) := by decide +kernel
theorem d_L_request_1 : decode method_3_code 1 = .ok (.iconst 0, 1) := by decide +kernel
theorem d_L_request_2 : decode method_3_code 2 = .ok (.aload_n 0, 1) := by decide +kernel
theorem d_L_request_3 : decode method_3_code 3 = .ok (.iload_n 1, 1) := by decide +kernel
theorem d_L_request_4 : decode method_3_code 4 = .ok (.invokevirtual 7, 3) := by decide +kernel
theorem d_L_request_7 : decode method_3_code 7 = .ok (.i2l, 1) := by decide +kernel
theorem d_L_request_8 : decode method_3_code 8 = .ok (.lastore, 1) := by decide +kernel
theorem d_L_request_9 : decode method_3_code 9 = .ok (.goto 6, 3) := by decide +kernel
theorem d_L_request_12 : decode method_3_code 12 = .ok (.astore_n 3, 1) := by decide +kernel
theorem d_L_request_13 : decode method_3_code 13 = .ok (.iconst 1, 1) := by decide +kernel
theorem d_L_request_14 : decode method_3_code 14 = .ok (.ireturn, 1) := by decide +kernel
theorem d_L_request_15 : decode method_3_code 15 = .ok (.iconst 0, 1) := by decide +kernel
theorem d_L_request_16 : decode method_3_code 16 = .ok (.ireturn, 1) := by decide +kernel
set_option maxHeartbeats 2000000 in
theorem h_request (l : Launch) (dC : Nat → ClassId) (dI : Nat → Nat → Nat) (tk : Nat → ClassId) (A : Nat → Prop) (hE : Nat) (LE : Nat → Nat) (LJ : Nat → Nat) (LV : Nat → Nat) (LN : Nat → Nat) (LS : Nat → Nat) (LZ : Nat → Nat) (LQ : Nat → Nat) (hO : Nat) (hM : Nat) (LM : Nat → Nat) (gE : aG) (gJ : aG) (gV : aG) (aV : aA) (gN : aG) (aN : aA) (gS : aG) (gZ : aG) (aZ : aA) (dP : aP) (gQ : aG) (dO : aP) (u : sbS) (nB : Nat) (fO : Nat → Int64) (gM : aG) (aM : aA) (n : Nat) (v1 : Int32) (r0 : Int32) (hm : mE_request n v1 gE (fun _ _ => 0) gQ (fun _ _ => 0) dO = some r0) : Met l ⟨"EditorServerLaw", "request", "(LEditorServer;I[J)I"⟩ (Cond.codeWith ⟨"EditorServerLaw", "request", "(LEditorServer;I[J)I"⟩ method_3_code 4 (some .int) [(0, 9, 12, 13)] :: gW) (rmn 1 21 0 0) (va_Pc [.ref hE, .int v1, .ref hO] (Pr dC dI tk A (fWd tk hE LE LJ LV LN LS LZ LQ hO hM LM gE gJ gV aV gN aN gS gZ aZ dP gQ dO u nB fO gM aM))) (QI dC dI A 0 (fWd tk hE LE LJ LV LN LS LZ LQ hO hM LM gE gJ gV aV gN aN gS gZ aZ dP gQ dO u nB (vp_updL fO 0 r0.toInt64) gM aM)) 0 0 A := by
  refine entW (by decide) (Nat.le_of_ble_eq_true rfl) ?_
  intro p e s m args below meth c hx hb hr hml hown hlk hxt hpl hG hg hst ls hl
  have hl : lv_has ls 4 [(0, .ref hE), (1, .int v1), (2, .ref hO)] := hl
  refine lv_aload_n hx hb d_L_request_0 rfl (lv_at hl 2 rfl) ?_
  refine lv_iconst (v := 0) hx hb d_L_request_1 (by decide) ?_
  refine lv_aload_n hx hb d_L_request_2 rfl (lv_at hl 0 rfl) ?_
  refine lv_iload_n hx hb d_L_request_3 rfl (lv_at hl 1 rfl) ?_
  refine cl_vi (As := [.int v1]) hx hb hml hown hG hg ((cE_request l dC dI tk A hE LE gE (fun _ _ => 0) LQ gQ (fun _ _ => 0) dO ((oX 2 (LE 0) ksJ spJ tk LJ gJ (fun _ _ => 0)) ++ ((oX 3 (LE 1) ksV spV tk LV gV aV) ++ ((oX 9 (LE 4) ksN spN tk LN gN aN) ++ ((oX 4 (LE 2) ksS spS tk LS gS (fun _ _ => 0)) ++ ((rX 4 (LS 0) 3 tk (fun i => some (dP i).1.1)) ++ ((oX 6 (LS 1) ksT spT tk LZ gZ aZ) ++ ((pF 5 ksD spD 1 tk dP 3) ++ ((sbX (LN 4) tk u nB) ++ ([(hO, .inl (tk 6, 1, .inr (.inl fO)))] ++ ((oX 0 hM ksM spM tk LM gM aM) ++ [])))))))))) n v1 _ hm).pm (wt := (fWd tk hE LE LJ LV LN LS LZ LQ hO hM LM gE gJ gV aV gN aN gS gZ aZ dP gQ dO u nB fO gM aM)) (wt1 := (fWd tk hE LE LJ LV LN LS LZ LQ hO hM LM gE gJ gV aV gN aN gS gZ aZ dP gQ dO u nB fO gM aM)) (by unfold fWd srvW; simp only [oW_X, rA, pW, sbW, oL]; letI : DecidableEq (Nat × va_E) := fun a b => Classical.propDecidable (a = b); exact List.perm_iff_count.mpr fun a => by simp only [List.count_append]; omega) (by unfold fWd srvW; simp only [oW_X, rA, pW, sbW, oL]; letI : DecidableEq (Nat × va_E) := fun a b => Classical.propDecidable (a = b); exact List.perm_iff_count.mpr fun a => by simp only [List.count_append]; omega)) (cw_v 1 hG k_676 k_677 k_678 k_1 k_679 (by decide +kernel) ⟨by decide, by decide⟩) hst cE.1 (q0 := 0) rfl rfl hl.1 rfl (Nat.le_of_ble_eq_true rfl) ⟨Nat.le_refl 0, Nat.le_refl 0⟩ d_L_request_4 (fun H locs hst => ?_)
  refine lv_i2l hx hb d_L_request_7 rfl ?_
  have hst : St dC dI A s.heap H locs ([(hO, .inl (tk 6, 1, .inr (.inl fO)))] ++ ((oX 1 hE ksE spE tk LE gE (fun _ _ => 0)) ++ ((oX 2 (LE 0) ksJ spJ tk LJ gJ (fun _ _ => 0)) ++ ((oX 3 (LE 1) ksV spV tk LV gV aV) ++ ((oX 9 (LE 4) ksN spN tk LN gN aN) ++ ((oX 4 (LE 2) ksS spS tk LS gS (fun _ _ => 0)) ++ ((rX 4 (LS 0) 3 tk (fun i => some (dP i).1.1)) ++ ((oX 6 (LS 1) ksT spT tk LZ gZ aZ) ++ ((pF 5 ksD spD 1 tk dP 3) ++ ((oX 7 (LE 3) ksQ spQ tk LQ gQ (fun _ _ => 0)) ++ ((rX 5 (LQ 0) 8 tk (fun i => some (dO i).1.1)) ++ ((pF 8 ksK spK 0 tk dO 8) ++ ((sbX (LN 4) tk u nB) ++ ((oX 0 hM ksM spM tk LM gM aM) ++ [])))))))))))))) := hst.pm (by unfold fWd srvW; simp only [oW_X, rA, pW, sbW, oL]; letI : DecidableEq (Nat × va_E) := fun a b => Classical.propDecidable (a = b); exact List.perm_iff_count.mpr fun a => by simp only [List.count_append]; omega)
  refine va_last hx hb hg.2.1 hst.1 hst.2.1 hst.2.2 0 6 rfl rfl (inb_in (by decide)) d_L_request_8 (fun H locs q1 q2 q3 => ?_)
  have hst : St dC dI A s.heap H locs ([(hO, .inl (tk 6, 1, .inr (.inl (vp_updL fO 0 r0.toInt64))))] ++ ((oX 1 hE ksE spE tk LE gE (fun _ _ => 0)) ++ ((oX 2 (LE 0) ksJ spJ tk LJ gJ (fun _ _ => 0)) ++ ((oX 3 (LE 1) ksV spV tk LV gV aV) ++ ((oX 9 (LE 4) ksN spN tk LN gN aN) ++ ((oX 4 (LE 2) ksS spS tk LS gS (fun _ _ => 0)) ++ ((rX 4 (LS 0) 3 tk (fun i => some (dP i).1.1)) ++ ((oX 6 (LS 1) ksT spT tk LZ gZ aZ) ++ ((pF 5 ksD spD 1 tk dP 3) ++ ((oX 7 (LE 3) ksQ spQ tk LQ gQ (fun _ _ => 0)) ++ ((rX 5 (LQ 0) 8 tk (fun i => some (dO i).1.1)) ++ ((pF 8 ksK spK 0 tk dO 8) ++ ((sbX (LN 4) tk u nB) ++ ((oX 0 hM ksM spM tk LM gM aM) ++ [])))))))))))))) := ⟨q1, q2, q3⟩
  have hst : St dC dI A s.heap H locs (fWd tk hE LE LJ LV LN LS LZ LQ hO hM LM gE gJ gV aV gN aN gS gZ aZ dP gQ dO u nB (vp_updL fO 0 r0.toInt64) gM aM) := hst.pm (by unfold fWd srvW; simp only [oW_X, rA, pW, sbW, oL]; letI : DecidableEq (Nat × va_E) := fun a b => Classical.propDecidable (a = b); exact List.perm_iff_count.mpr fun a => by simp only [List.count_append]; omega)
  refine lv_goto (tgt := 15) hx hb d_L_request_9 (by decide) ?_
  refine lv_iconst (v := 0) hx hb d_L_request_15 (by decide) ?_
  exact rt_i hx hb hr hlk rfl hst rfl d_L_request_16
set_option maxHeartbeats 2000000 in
theorem h_request_i (l : Launch) (dC : Nat → ClassId) (dI : Nat → Nat → Nat) (tk : Nat → ClassId) (A : Nat → Prop) (hE : Nat) (LE : Nat → Nat) (LJ : Nat → Nat) (LV : Nat → Nat) (LN : Nat → Nat) (LS : Nat → Nat) (LZ : Nat → Nat) (LQ : Nat → Nat) (hO : Nat) (hM : Nat) (LM : Nat → Nat) (gE : aG) (gJ : aG) (gV : aG) (aV : aA) (gN : aG) (aN : aA) (gS : aG) (gZ : aG) (aZ : aA) (dP : aP) (gQ : aG) (dO : aP) (u : sbS) (nB : Nat) (fO : Nat → Int64) (gM : aG) (aM : aA) (v1 : Int32) (hNT : NoTr l) (hm : mE_request_i v1 gE (fun _ _ => 0) gQ (fun _ _ => 0) dO = some ()) : Met l ⟨"EditorServerLaw", "request", "(LEditorServer;I[J)I"⟩ (Cond.codeWith ⟨"EditorServerLaw", "request", "(LEditorServer;I[J)I"⟩ method_3_code 4 (some .int) [(0, 9, 12, 13)] :: gW) (rmn 8 150 1 6) (va_Pc [.ref hE, .int v1, .ref hO] (Pr dC dI tk A (fWd tk hE LE LJ LV LN LS LZ LQ hO hM LM gE gJ gV aV gN aN gS gZ aZ dP gQ dO u nB fO gM aM))) (QI dC dI A 1 (fWd tk hE LE LJ LV LN LS LZ LQ hO hM LM gE gJ gV aV gN aN gS gZ aZ dP gQ dO u nB fO gM aM)) 1 6 A := by
  refine entW (by decide) (Nat.le_of_ble_eq_true rfl) ?_
  intro p e s m args below meth c hx hb hr hml hown hlk hxt hpl hG hg hst ls hl
  have hl : lv_has ls 4 [(0, .ref hE), (1, .int v1), (2, .ref hO)] := hl
  refine lv_aload_n hx hb d_L_request_0 rfl (lv_at hl 2 rfl) ?_
  refine lv_iconst (v := 0) hx hb d_L_request_1 (by decide) ?_
  refine lv_aload_n hx hb d_L_request_2 rfl (lv_at hl 0 rfl) ?_
  refine lv_iload_n hx hb d_L_request_3 rfl (lv_at hl 1 rfl) ?_
  obtain ⟨x1, ex, a1, a2, a3, a4⟩ := tb_1 hxt
  have hfd : FndX e s (F0 m 4 ls [.int 0, .ref hO]) c.exceptionTable.toList "java/lang/IndexOutOfBoundsException" 12 := by
    rw [ex]
    have h9 := fnd_1 (e := e) (s := s) (f := F0 m 4 ls [.int 0, .ref hO]) (x := x1) (t := []) (X := "java/lang/IndexOutOfBoundsException") hpl (by simp [covers, a1, a2]) (by rw [a4]; decide) hown (by rw [a4]; exact hG _ k_675)
    rw [a3] at h9
    exact h9
  refine cl_catch (n := 1) (As := [.int v1]) hx hb hml hown hG hg ((cE_request_i l hNT dC dI tk A hE LE gE (fun _ _ => 0) LQ gQ (fun _ _ => 0) dO ((oX 2 (LE 0) ksJ spJ tk LJ gJ (fun _ _ => 0)) ++ ((oX 3 (LE 1) ksV spV tk LV gV aV) ++ ((oX 9 (LE 4) ksN spN tk LN gN aN) ++ ((oX 4 (LE 2) ksS spS tk LS gS (fun _ _ => 0)) ++ ((rX 4 (LS 0) 3 tk (fun i => some (dP i).1.1)) ++ ((oX 6 (LS 1) ksT spT tk LZ gZ aZ) ++ ((pF 5 ksD spD 1 tk dP 3) ++ ((sbX (LN 4) tk u nB) ++ ([(hO, .inl (tk 6, 1, .inr (.inl fO)))] ++ ((oX 0 hM ksM spM tk LM gM aM) ++ [])))))))))) v1 hm).pm (wt := (fWd tk hE LE LJ LV LN LS LZ LQ hO hM LM gE gJ gV aV gN aN gS gZ aZ dP gQ dO u nB fO gM aM)) (by unfold fWd srvW; simp only [oW_X, rA, pW, sbW, oL]; letI : DecidableEq (Nat × va_E) := fun a b => Classical.propDecidable (a = b); exact List.perm_iff_count.mpr fun a => by simp only [List.count_append]; omega)) k_676 k_677 k_678 k_1 k_679 (by decide +kernel) ⟨by decide, by decide⟩ hst cE.1 (q0 := 0) rfl rfl hl.1 rfl (Nat.le_of_ble_eq_true rfl) ⟨by decide, by decide⟩ d_L_request_4 hfd (fun xa H locs hst => ?_)
  refine W.cs (cells' := 1) (slots' := 6) rfl rfl ?_
  refine lv_astore_n (lv' := [(3, .ref xa), (0, .ref hE), (1, .int v1), (2, .ref hO)]) hx hb d_L_request_12 rfl hl (by decide) rfl (fun ls hl => ?_)
  refine lv_iconst (v := 1) hx hb d_L_request_13 (by decide) ?_
  exact rt_i hx hb hr hlk rfl hst rfl d_L_request_14
theorem d_L_run_0 : decode method_4_code 0 = .ok (.aload_n 2, 1) := by decide +kernel
theorem d_L_run_1 : decode method_4_code 1 = .ok (.iconst 0, 1) := by decide +kernel
theorem d_L_run_2 : decode method_4_code 2 = .ok (.aload_n 0, 1) := by decide +kernel
theorem d_L_run_3 : decode method_4_code 3 = .ok (.iload_n 1, 1) := by decide +kernel
theorem d_L_run_4 : decode method_4_code 4 = .ok (.invokevirtual 15, 3) := by decide +kernel
theorem d_L_run_7 : decode method_4_code 7 = .ok (.i2l, 1) := by decide +kernel
theorem d_L_run_8 : decode method_4_code 8 = .ok (.lastore, 1) := by decide +kernel
theorem d_L_run_9 : decode method_4_code 9 = .ok (.goto 6, 3) := by decide +kernel
theorem d_L_run_12 : decode method_4_code 12 = .ok (.astore_n 3, 1) := by decide +kernel
theorem d_L_run_13 : decode method_4_code 13 = .ok (.iconst 1, 1) := by decide +kernel
theorem d_L_run_14 : decode method_4_code 14 = .ok (.ireturn, 1) := by decide +kernel
theorem d_L_run_15 : decode method_4_code 15 = .ok (.iconst 0, 1) := by decide +kernel
theorem d_L_run_16 : decode method_4_code 16 = .ok (.ireturn, 1) := by decide +kernel
set_option maxHeartbeats 2000000 in
theorem h_run (l : Launch) (dC : Nat → ClassId) (dI : Nat → Nat → Nat) (tk : Nat → ClassId) (A : Nat → Prop) (hE : Nat) (LE : Nat → Nat) (LJ : Nat → Nat) (LV : Nat → Nat) (LN : Nat → Nat) (LS : Nat → Nat) (LZ : Nat → Nat) (LQ : Nat → Nat) (hO : Nat) (hM : Nat) (LM : Nat → Nat) (gE : aG) (gJ : aG) (gV : aG) (aV : aA) (gN : aG) (aN : aA) (gS : aG) (gZ : aG) (aZ : aA) (dP : aP) (gQ : aG) (dO : aP) (u : sbS) (nB : Nat) (fO : Nat → Int64) (gM : aG) (aM : aA) (n : Nat) (v1 : Int32) (r0 : Int32) (ogN : aG) (oaN : aA) (ogQ : aG) (odO : aP) (hm : mE_run n v1 gE (fun _ _ => 0) gN aN gQ (fun _ _ => 0) dO = some (r0, ogN, oaN, ogQ, odO)) : Met l ⟨"EditorServerLaw", "run", "(LEditorServer;I[J)I"⟩ (Cond.codeWith ⟨"EditorServerLaw", "run", "(LEditorServer;I[J)I"⟩ method_4_code 4 (some .int) [(0, 9, 12, 13)] :: gW) (rmn 4 90 0 0) (va_Pc [.ref hE, .int v1, .ref hO] (Pr dC dI tk A (fWd tk hE LE LJ LV LN LS LZ LQ hO hM LM gE gJ gV aV gN aN gS gZ aZ dP gQ dO u nB fO gM aM))) (QI dC dI A 0 (fWd tk hE LE LJ LV LN LS LZ LQ hO hM LM gE gJ gV aV ogN oaN gS gZ aZ dP ogQ odO u nB (vp_updL fO 0 r0.toInt64) gM aM)) 0 0 A := by
  refine entW (by decide) (Nat.le_of_ble_eq_true rfl) ?_
  intro p e s m args below meth c hx hb hr hml hown hlk hxt hpl hG hg hst ls hl
  have hl : lv_has ls 4 [(0, .ref hE), (1, .int v1), (2, .ref hO)] := hl
  refine lv_aload_n hx hb d_L_run_0 rfl (lv_at hl 2 rfl) ?_
  refine lv_iconst (v := 0) hx hb d_L_run_1 (by decide) ?_
  refine lv_aload_n hx hb d_L_run_2 rfl (lv_at hl 0 rfl) ?_
  refine lv_iload_n hx hb d_L_run_3 rfl (lv_at hl 1 rfl) ?_
  refine cl_vi (As := [.int v1]) hx hb hml hown hG hg ((cE_run l dC dI tk A hE LE gE (fun _ _ => 0) LN gN aN LQ gQ (fun _ _ => 0) dO ((oX 2 (LE 0) ksJ spJ tk LJ gJ (fun _ _ => 0)) ++ ((oX 3 (LE 1) ksV spV tk LV gV aV) ++ ((oX 4 (LE 2) ksS spS tk LS gS (fun _ _ => 0)) ++ ((rX 4 (LS 0) 3 tk (fun i => some (dP i).1.1)) ++ ((oX 6 (LS 1) ksT spT tk LZ gZ aZ) ++ ((pF 5 ksD spD 1 tk dP 3) ++ ((sbX (LN 4) tk u nB) ++ ([(hO, .inl (tk 6, 1, .inr (.inl fO)))] ++ ((oX 0 hM ksM spM tk LM gM aM) ++ []))))))))) n v1 _ _ _ _ _ hm).pm (wt := (fWd tk hE LE LJ LV LN LS LZ LQ hO hM LM gE gJ gV aV gN aN gS gZ aZ dP gQ dO u nB fO gM aM)) (wt1 := (fWd tk hE LE LJ LV LN LS LZ LQ hO hM LM gE gJ gV aV ogN oaN gS gZ aZ dP ogQ odO u nB fO gM aM)) (by unfold fWd srvW; simp only [oW_X, rA, pW, sbW, oL]; letI : DecidableEq (Nat × va_E) := fun a b => Classical.propDecidable (a = b); exact List.perm_iff_count.mpr fun a => by simp only [List.count_append]; omega) (by unfold fWd srvW; simp only [oW_X, rA, pW, sbW, oL]; letI : DecidableEq (Nat × va_E) := fun a b => Classical.propDecidable (a = b); exact List.perm_iff_count.mpr fun a => by simp only [List.count_append]; omega)) (cw_v 1 hG k_745 k_746 k_747 k_1 k_748 (by decide +kernel) ⟨by decide, by decide⟩) hst cE.1 (q0 := 0) rfl rfl hl.1 rfl (Nat.le_of_ble_eq_true rfl) ⟨Nat.le_refl 0, Nat.le_refl 0⟩ d_L_run_4 (fun H locs hst => ?_)
  refine lv_i2l hx hb d_L_run_7 rfl ?_
  have hst : St dC dI A s.heap H locs ([(hO, .inl (tk 6, 1, .inr (.inl fO)))] ++ ((oX 1 hE ksE spE tk LE gE (fun _ _ => 0)) ++ ((oX 2 (LE 0) ksJ spJ tk LJ gJ (fun _ _ => 0)) ++ ((oX 3 (LE 1) ksV spV tk LV gV aV) ++ ((oX 9 (LE 4) ksN spN tk LN ogN oaN) ++ ((oX 4 (LE 2) ksS spS tk LS gS (fun _ _ => 0)) ++ ((rX 4 (LS 0) 3 tk (fun i => some (dP i).1.1)) ++ ((oX 6 (LS 1) ksT spT tk LZ gZ aZ) ++ ((pF 5 ksD spD 1 tk dP 3) ++ ((oX 7 (LE 3) ksQ spQ tk LQ ogQ (fun _ _ => 0)) ++ ((rX 5 (LQ 0) 8 tk (fun i => some (odO i).1.1)) ++ ((pF 8 ksK spK 0 tk odO 8) ++ ((sbX (LN 4) tk u nB) ++ ((oX 0 hM ksM spM tk LM gM aM) ++ [])))))))))))))) := hst.pm (by unfold fWd srvW; simp only [oW_X, rA, pW, sbW, oL]; letI : DecidableEq (Nat × va_E) := fun a b => Classical.propDecidable (a = b); exact List.perm_iff_count.mpr fun a => by simp only [List.count_append]; omega)
  refine va_last hx hb hg.2.1 hst.1 hst.2.1 hst.2.2 0 6 rfl rfl (inb_in (by decide)) d_L_run_8 (fun H locs q1 q2 q3 => ?_)
  have hst : St dC dI A s.heap H locs ([(hO, .inl (tk 6, 1, .inr (.inl (vp_updL fO 0 r0.toInt64))))] ++ ((oX 1 hE ksE spE tk LE gE (fun _ _ => 0)) ++ ((oX 2 (LE 0) ksJ spJ tk LJ gJ (fun _ _ => 0)) ++ ((oX 3 (LE 1) ksV spV tk LV gV aV) ++ ((oX 9 (LE 4) ksN spN tk LN ogN oaN) ++ ((oX 4 (LE 2) ksS spS tk LS gS (fun _ _ => 0)) ++ ((rX 4 (LS 0) 3 tk (fun i => some (dP i).1.1)) ++ ((oX 6 (LS 1) ksT spT tk LZ gZ aZ) ++ ((pF 5 ksD spD 1 tk dP 3) ++ ((oX 7 (LE 3) ksQ spQ tk LQ ogQ (fun _ _ => 0)) ++ ((rX 5 (LQ 0) 8 tk (fun i => some (odO i).1.1)) ++ ((pF 8 ksK spK 0 tk odO 8) ++ ((sbX (LN 4) tk u nB) ++ ((oX 0 hM ksM spM tk LM gM aM) ++ [])))))))))))))) := ⟨q1, q2, q3⟩
  have hst : St dC dI A s.heap H locs (fWd tk hE LE LJ LV LN LS LZ LQ hO hM LM gE gJ gV aV ogN oaN gS gZ aZ dP ogQ odO u nB (vp_updL fO 0 r0.toInt64) gM aM) := hst.pm (by unfold fWd srvW; simp only [oW_X, rA, pW, sbW, oL]; letI : DecidableEq (Nat × va_E) := fun a b => Classical.propDecidable (a = b); exact List.perm_iff_count.mpr fun a => by simp only [List.count_append]; omega)
  refine lv_goto (tgt := 15) hx hb d_L_run_9 (by decide) ?_
  refine lv_iconst (v := 0) hx hb d_L_run_15 (by decide) ?_
  exact rt_i hx hb hr hlk rfl hst rfl d_L_run_16
set_option maxHeartbeats 2000000 in
theorem h_run_i (l : Launch) (dC : Nat → ClassId) (dI : Nat → Nat → Nat) (tk : Nat → ClassId) (A : Nat → Prop) (hE : Nat) (LE : Nat → Nat) (LJ : Nat → Nat) (LV : Nat → Nat) (LN : Nat → Nat) (LS : Nat → Nat) (LZ : Nat → Nat) (LQ : Nat → Nat) (hO : Nat) (hM : Nat) (LM : Nat → Nat) (gE : aG) (gJ : aG) (gV : aG) (aV : aA) (gN : aG) (aN : aA) (gS : aG) (gZ : aG) (aZ : aA) (dP : aP) (gQ : aG) (dO : aP) (u : sbS) (nB : Nat) (fO : Nat → Int64) (gM : aG) (aM : aA) (v1 : Int32) (hNT : NoTr l) (hm : mE_run_i v1 gE (fun _ _ => 0) gN aN gQ (fun _ _ => 0) dO = some ()) : Met l ⟨"EditorServerLaw", "run", "(LEditorServer;I[J)I"⟩ (Cond.codeWith ⟨"EditorServerLaw", "run", "(LEditorServer;I[J)I"⟩ method_4_code 4 (some .int) [(0, 9, 12, 13)] :: gW) (rmn 8 150 1 6) (va_Pc [.ref hE, .int v1, .ref hO] (Pr dC dI tk A (fWd tk hE LE LJ LV LN LS LZ LQ hO hM LM gE gJ gV aV gN aN gS gZ aZ dP gQ dO u nB fO gM aM))) (QI dC dI A 1 (fWd tk hE LE LJ LV LN LS LZ LQ hO hM LM gE gJ gV aV gN aN gS gZ aZ dP gQ dO u nB fO gM aM)) 1 6 A := by
  refine entW (by decide) (Nat.le_of_ble_eq_true rfl) ?_
  intro p e s m args below meth c hx hb hr hml hown hlk hxt hpl hG hg hst ls hl
  have hl : lv_has ls 4 [(0, .ref hE), (1, .int v1), (2, .ref hO)] := hl
  refine lv_aload_n hx hb d_L_run_0 rfl (lv_at hl 2 rfl) ?_
  refine lv_iconst (v := 0) hx hb d_L_run_1 (by decide) ?_
  refine lv_aload_n hx hb d_L_run_2 rfl (lv_at hl 0 rfl) ?_
  refine lv_iload_n hx hb d_L_run_3 rfl (lv_at hl 1 rfl) ?_
  obtain ⟨x1, ex, a1, a2, a3, a4⟩ := tb_1 hxt
  have hfd : FndX e s (F0 m 4 ls [.int 0, .ref hO]) c.exceptionTable.toList "java/lang/IndexOutOfBoundsException" 12 := by
    rw [ex]
    have h9 := fnd_1 (e := e) (s := s) (f := F0 m 4 ls [.int 0, .ref hO]) (x := x1) (t := []) (X := "java/lang/IndexOutOfBoundsException") hpl (by simp [covers, a1, a2]) (by rw [a4]; decide) hown (by rw [a4]; exact hG _ k_675)
    rw [a3] at h9
    exact h9
  refine cl_catch (n := 1) (As := [.int v1]) hx hb hml hown hG hg ((cE_run_i l hNT dC dI tk A hE LE gE (fun _ _ => 0) LN gN aN LQ gQ (fun _ _ => 0) dO ((oX 2 (LE 0) ksJ spJ tk LJ gJ (fun _ _ => 0)) ++ ((oX 3 (LE 1) ksV spV tk LV gV aV) ++ ((oX 4 (LE 2) ksS spS tk LS gS (fun _ _ => 0)) ++ ((rX 4 (LS 0) 3 tk (fun i => some (dP i).1.1)) ++ ((oX 6 (LS 1) ksT spT tk LZ gZ aZ) ++ ((pF 5 ksD spD 1 tk dP 3) ++ ((sbX (LN 4) tk u nB) ++ ([(hO, .inl (tk 6, 1, .inr (.inl fO)))] ++ ((oX 0 hM ksM spM tk LM gM aM) ++ []))))))))) v1 hm).pm (wt := (fWd tk hE LE LJ LV LN LS LZ LQ hO hM LM gE gJ gV aV gN aN gS gZ aZ dP gQ dO u nB fO gM aM)) (by unfold fWd srvW; simp only [oW_X, rA, pW, sbW, oL]; letI : DecidableEq (Nat × va_E) := fun a b => Classical.propDecidable (a = b); exact List.perm_iff_count.mpr fun a => by simp only [List.count_append]; omega)) k_745 k_746 k_747 k_1 k_748 (by decide +kernel) ⟨by decide, by decide⟩ hst cE.1 (q0 := 0) rfl rfl hl.1 rfl (Nat.le_of_ble_eq_true rfl) ⟨by decide, by decide⟩ d_L_run_4 hfd (fun xa H locs hst => ?_)
  refine W.cs (cells' := 1) (slots' := 6) rfl rfl ?_
  refine lv_astore_n (lv' := [(3, .ref xa), (0, .ref hE), (1, .int v1), (2, .ref hO)]) hx hb d_L_run_12 rfl hl (by decide) rfl (fun ls hl => ?_)
  refine lv_iconst (v := 1) hx hb d_L_run_13 (by decide) ?_
  exact rt_i hx hb hr hlk rfl hst rfl d_L_run_14
theorem d_L_response_0 : decode method_5_code 0 = .ok (.aload_n 3, 1) := by decide +kernel
theorem d_L_response_1 : decode method_5_code 1 = .ok (.iconst 0, 1) := by decide +kernel
theorem d_L_response_2 : decode method_5_code 2 = .ok (.aload_n 0, 1) := by decide +kernel
theorem d_L_response_3 : decode method_5_code 3 = .ok (.iload_n 1, 1) := by decide +kernel
theorem d_L_response_4 : decode method_5_code 4 = .ok (.iload_n 2, 1) := by decide +kernel
theorem d_L_response_5 : decode method_5_code 5 = .ok (.invokevirtual 18, 3) := by decide +kernel
theorem d_L_response_8 : decode method_5_code 8 = .ok (.i2l, 1) := by decide +kernel
theorem d_L_response_9 : decode method_5_code 9 = .ok (.lastore, 1) := by decide +kernel
theorem d_L_response_10 : decode method_5_code 10 = .ok (.goto 11, 3) := by decide +kernel
theorem d_L_response_13 : decode method_5_code 13 = .ok (.astore 4, 2) := by decide +kernel
theorem d_L_response_15 : decode method_5_code 15 = .ok (.iconst 1, 1) := by decide +kernel
theorem d_L_response_16 : decode method_5_code 16 = .ok (.ireturn, 1) := by decide +kernel
theorem d_L_response_17 : decode method_5_code 17 = .ok (.astore 4, 2) := by decide +kernel
theorem d_L_response_19 : decode method_5_code 19 = .ok (.iconst 2, 1) := by decide +kernel
theorem d_L_response_20 : decode method_5_code 20 = .ok (.ireturn, 1) := by decide +kernel
theorem d_L_response_21 : decode method_5_code 21 = .ok (.iconst 0, 1) := by decide +kernel
theorem d_L_response_22 : decode method_5_code 22 = .ok (.ireturn, 1) := by decide +kernel
set_option maxHeartbeats 2000000 in
theorem h_response (l : Launch) (dC : Nat → ClassId) (dI : Nat → Nat → Nat) (tk : Nat → ClassId) (A : Nat → Prop) (hE : Nat) (LE : Nat → Nat) (LJ : Nat → Nat) (LV : Nat → Nat) (LN : Nat → Nat) (LS : Nat → Nat) (LZ : Nat → Nat) (LQ : Nat → Nat) (hO : Nat) (hM : Nat) (LM : Nat → Nat) (gE : aG) (gJ : aG) (gV : aG) (aV : aA) (gN : aG) (aN : aA) (gS : aG) (gZ : aG) (aZ : aA) (dP : aP) (gQ : aG) (dO : aP) (u : sbS) (nB : Nat) (fO : Nat → Int64) (gM : aG) (aM : aA) (n : Nat) (v1 : Int32) (v2 : Int32) (r0 : Int32) (hm : mE_response n v1 v2 gE (fun _ _ => 0) gN aN = some r0) : Met l ⟨"EditorServerLaw", "response", "(LEditorServer;II[J)I"⟩ (Cond.codeWith ⟨"EditorServerLaw", "response", "(LEditorServer;II[J)I"⟩ method_5_code 5 (some .int) [(0, 10, 13, 13), (0, 10, 17, 22)] :: gW) (rmn 1 22 0 0) (va_Pc [.ref hE, .int v1, .int v2, .ref hO] (Pr dC dI tk A (fWd tk hE LE LJ LV LN LS LZ LQ hO hM LM gE gJ gV aV gN aN gS gZ aZ dP gQ dO u nB fO gM aM))) (QI dC dI A 0 (fWd tk hE LE LJ LV LN LS LZ LQ hO hM LM gE gJ gV aV gN aN gS gZ aZ dP gQ dO u nB (vp_updL fO 0 r0.toInt64) gM aM)) 0 0 A := by
  refine entW (by decide) (Nat.le_of_ble_eq_true rfl) ?_
  intro p e s m args below meth c hx hb hr hml hown hlk hxt hpl hG hg hst ls hl
  have hl : lv_has ls 5 [(0, .ref hE), (1, .int v1), (2, .int v2), (3, .ref hO)] := hl
  refine lv_aload_n hx hb d_L_response_0 rfl (lv_at hl 3 rfl) ?_
  refine lv_iconst (v := 0) hx hb d_L_response_1 (by decide) ?_
  refine lv_aload_n hx hb d_L_response_2 rfl (lv_at hl 0 rfl) ?_
  refine lv_iload_n hx hb d_L_response_3 rfl (lv_at hl 1 rfl) ?_
  refine lv_iload_n hx hb d_L_response_4 rfl (lv_at hl 2 rfl) ?_
  refine cl_vi (As := [.int v1, .int v2]) hx hb hml hown hG hg ((cE_response l dC dI tk A hE LE gE (fun _ _ => 0) LN gN aN ((oX 2 (LE 0) ksJ spJ tk LJ gJ (fun _ _ => 0)) ++ ((oX 3 (LE 1) ksV spV tk LV gV aV) ++ ((oX 4 (LE 2) ksS spS tk LS gS (fun _ _ => 0)) ++ ((rX 4 (LS 0) 3 tk (fun i => some (dP i).1.1)) ++ ((oX 6 (LS 1) ksT spT tk LZ gZ aZ) ++ ((pF 5 ksD spD 1 tk dP 3) ++ ((oX 7 (LE 3) ksQ spQ tk LQ gQ (fun _ _ => 0)) ++ ((rX 5 (LQ 0) 8 tk (fun i => some (dO i).1.1)) ++ ((pF 8 ksK spK 0 tk dO 8) ++ ((sbX (LN 4) tk u nB) ++ ([(hO, .inl (tk 6, 1, .inr (.inl fO)))] ++ ((oX 0 hM ksM spM tk LM gM aM) ++ [])))))))))))) n v1 v2 _ hm).pm (wt := (fWd tk hE LE LJ LV LN LS LZ LQ hO hM LM gE gJ gV aV gN aN gS gZ aZ dP gQ dO u nB fO gM aM)) (wt1 := (fWd tk hE LE LJ LV LN LS LZ LQ hO hM LM gE gJ gV aV gN aN gS gZ aZ dP gQ dO u nB fO gM aM)) (by unfold fWd srvW; simp only [oW_X, rA, pW, sbW, oL]; letI : DecidableEq (Nat × va_E) := fun a b => Classical.propDecidable (a = b); exact List.perm_iff_count.mpr fun a => by simp only [List.count_append]; omega) (by unfold fWd srvW; simp only [oW_X, rA, pW, sbW, oL]; letI : DecidableEq (Nat × va_E) := fun a b => Classical.propDecidable (a = b); exact List.perm_iff_count.mpr fun a => by simp only [List.count_append]; omega)) (cw_v 2 hG k_770 k_771 k_772 k_1 k_773 (by decide +kernel) ⟨by decide, by decide⟩) hst cE.1 (q0 := 0) rfl rfl hl.1 rfl (Nat.le_of_ble_eq_true rfl) ⟨Nat.le_refl 0, Nat.le_refl 0⟩ d_L_response_5 (fun H locs hst => ?_)
  refine lv_i2l hx hb d_L_response_8 rfl ?_
  have hst : St dC dI A s.heap H locs ([(hO, .inl (tk 6, 1, .inr (.inl fO)))] ++ ((oX 1 hE ksE spE tk LE gE (fun _ _ => 0)) ++ ((oX 2 (LE 0) ksJ spJ tk LJ gJ (fun _ _ => 0)) ++ ((oX 3 (LE 1) ksV spV tk LV gV aV) ++ ((oX 9 (LE 4) ksN spN tk LN gN aN) ++ ((oX 4 (LE 2) ksS spS tk LS gS (fun _ _ => 0)) ++ ((rX 4 (LS 0) 3 tk (fun i => some (dP i).1.1)) ++ ((oX 6 (LS 1) ksT spT tk LZ gZ aZ) ++ ((pF 5 ksD spD 1 tk dP 3) ++ ((oX 7 (LE 3) ksQ spQ tk LQ gQ (fun _ _ => 0)) ++ ((rX 5 (LQ 0) 8 tk (fun i => some (dO i).1.1)) ++ ((pF 8 ksK spK 0 tk dO 8) ++ ((sbX (LN 4) tk u nB) ++ ((oX 0 hM ksM spM tk LM gM aM) ++ [])))))))))))))) := hst.pm (by unfold fWd srvW; simp only [oW_X, rA, pW, sbW, oL]; letI : DecidableEq (Nat × va_E) := fun a b => Classical.propDecidable (a = b); exact List.perm_iff_count.mpr fun a => by simp only [List.count_append]; omega)
  refine va_last hx hb hg.2.1 hst.1 hst.2.1 hst.2.2 0 6 rfl rfl (inb_in (by decide)) d_L_response_9 (fun H locs q1 q2 q3 => ?_)
  have hst : St dC dI A s.heap H locs ([(hO, .inl (tk 6, 1, .inr (.inl (vp_updL fO 0 r0.toInt64))))] ++ ((oX 1 hE ksE spE tk LE gE (fun _ _ => 0)) ++ ((oX 2 (LE 0) ksJ spJ tk LJ gJ (fun _ _ => 0)) ++ ((oX 3 (LE 1) ksV spV tk LV gV aV) ++ ((oX 9 (LE 4) ksN spN tk LN gN aN) ++ ((oX 4 (LE 2) ksS spS tk LS gS (fun _ _ => 0)) ++ ((rX 4 (LS 0) 3 tk (fun i => some (dP i).1.1)) ++ ((oX 6 (LS 1) ksT spT tk LZ gZ aZ) ++ ((pF 5 ksD spD 1 tk dP 3) ++ ((oX 7 (LE 3) ksQ spQ tk LQ gQ (fun _ _ => 0)) ++ ((rX 5 (LQ 0) 8 tk (fun i => some (dO i).1.1)) ++ ((pF 8 ksK spK 0 tk dO 8) ++ ((sbX (LN 4) tk u nB) ++ ((oX 0 hM ksM spM tk LM gM aM) ++ [])))))))))))))) := ⟨q1, q2, q3⟩
  have hst : St dC dI A s.heap H locs (fWd tk hE LE LJ LV LN LS LZ LQ hO hM LM gE gJ gV aV gN aN gS gZ aZ dP gQ dO u nB (vp_updL fO 0 r0.toInt64) gM aM) := hst.pm (by unfold fWd srvW; simp only [oW_X, rA, pW, sbW, oL]; letI : DecidableEq (Nat × va_E) := fun a b => Classical.propDecidable (a = b); exact List.perm_iff_count.mpr fun a => by simp only [List.count_append]; omega)
  refine lv_goto (tgt := 21) hx hb d_L_response_10 (by decide) ?_
  refine lv_iconst (v := 0) hx hb d_L_response_21 (by decide) ?_
  exact rt_i hx hb hr hlk rfl hst rfl d_L_response_22
set_option maxHeartbeats 2000000 in
theorem h_response_i (l : Launch) (dC : Nat → ClassId) (dI : Nat → Nat → Nat) (tk : Nat → ClassId) (A : Nat → Prop) (hE : Nat) (LE : Nat → Nat) (LJ : Nat → Nat) (LV : Nat → Nat) (LN : Nat → Nat) (LS : Nat → Nat) (LZ : Nat → Nat) (LQ : Nat → Nat) (hO : Nat) (hM : Nat) (LM : Nat → Nat) (gE : aG) (gJ : aG) (gV : aG) (aV : aA) (gN : aG) (aN : aA) (gS : aG) (gZ : aG) (aZ : aA) (dP : aP) (gQ : aG) (dO : aP) (u : sbS) (nB : Nat) (fO : Nat → Int64) (gM : aG) (aM : aA) (v1 : Int32) (v2 : Int32) (hNT : NoTr l) (hm : mE_response_i v1 v2 gE (fun _ _ => 0) gN aN = some ()) : Met l ⟨"EditorServerLaw", "response", "(LEditorServer;II[J)I"⟩ (Cond.codeWith ⟨"EditorServerLaw", "response", "(LEditorServer;II[J)I"⟩ method_5_code 5 (some .int) [(0, 10, 13, 13), (0, 10, 17, 22)] :: gW) (rmn 8 150 1 6) (va_Pc [.ref hE, .int v1, .int v2, .ref hO] (Pr dC dI tk A (fWd tk hE LE LJ LV LN LS LZ LQ hO hM LM gE gJ gV aV gN aN gS gZ aZ dP gQ dO u nB fO gM aM))) (QI dC dI A 1 (fWd tk hE LE LJ LV LN LS LZ LQ hO hM LM gE gJ gV aV gN aN gS gZ aZ dP gQ dO u nB fO gM aM)) 1 6 A := by
  refine entW (by decide) (Nat.le_of_ble_eq_true rfl) ?_
  intro p e s m args below meth c hx hb hr hml hown hlk hxt hpl hG hg hst ls hl
  have hl : lv_has ls 5 [(0, .ref hE), (1, .int v1), (2, .int v2), (3, .ref hO)] := hl
  refine lv_aload_n hx hb d_L_response_0 rfl (lv_at hl 3 rfl) ?_
  refine lv_iconst (v := 0) hx hb d_L_response_1 (by decide) ?_
  refine lv_aload_n hx hb d_L_response_2 rfl (lv_at hl 0 rfl) ?_
  refine lv_iload_n hx hb d_L_response_3 rfl (lv_at hl 1 rfl) ?_
  refine lv_iload_n hx hb d_L_response_4 rfl (lv_at hl 2 rfl) ?_
  obtain ⟨x1, x2, ex, ⟨a1, a2, a3, a4⟩, c1, c2, c3, c4⟩ := tb_2 hxt
  have hfd : FndX e s (F0 m 5 ls [.int 0, .ref hO]) c.exceptionTable.toList "java/lang/IndexOutOfBoundsException" 13 := by
    rw [ex]
    have h9 := fnd_1 (e := e) (s := s) (f := F0 m 5 ls [.int 0, .ref hO]) (x := x1) (t := [x2]) (X := "java/lang/IndexOutOfBoundsException") hpl (by simp [covers, a1, a2]) (by rw [a4]; decide) hown (by rw [a4]; exact hG _ k_675)
    rw [a3] at h9
    exact h9
  refine cl_catch (n := 2) (As := [.int v1, .int v2]) hx hb hml hown hG hg ((cE_response_i l hNT dC dI tk A hE LE gE (fun _ _ => 0) LN gN aN ((oX 2 (LE 0) ksJ spJ tk LJ gJ (fun _ _ => 0)) ++ ((oX 3 (LE 1) ksV spV tk LV gV aV) ++ ((oX 4 (LE 2) ksS spS tk LS gS (fun _ _ => 0)) ++ ((rX 4 (LS 0) 3 tk (fun i => some (dP i).1.1)) ++ ((oX 6 (LS 1) ksT spT tk LZ gZ aZ) ++ ((pF 5 ksD spD 1 tk dP 3) ++ ((oX 7 (LE 3) ksQ spQ tk LQ gQ (fun _ _ => 0)) ++ ((rX 5 (LQ 0) 8 tk (fun i => some (dO i).1.1)) ++ ((pF 8 ksK spK 0 tk dO 8) ++ ((sbX (LN 4) tk u nB) ++ ([(hO, .inl (tk 6, 1, .inr (.inl fO)))] ++ ((oX 0 hM ksM spM tk LM gM aM) ++ [])))))))))))) v1 v2 hm).pm (wt := (fWd tk hE LE LJ LV LN LS LZ LQ hO hM LM gE gJ gV aV gN aN gS gZ aZ dP gQ dO u nB fO gM aM)) (by unfold fWd srvW; simp only [oW_X, rA, pW, sbW, oL]; letI : DecidableEq (Nat × va_E) := fun a b => Classical.propDecidable (a = b); exact List.perm_iff_count.mpr fun a => by simp only [List.count_append]; omega)) k_770 k_771 k_772 k_1 k_773 (by decide +kernel) ⟨by decide, by decide⟩ hst cE.1 (q0 := 0) rfl rfl hl.1 rfl (Nat.le_of_ble_eq_true rfl) ⟨by decide, by decide⟩ d_L_response_5 hfd (fun xa H locs hst => ?_)
  refine W.cs (cells' := 1) (slots' := 6) rfl rfl ?_
  refine lv_astore (lv' := [(4, .ref xa), (0, .ref hE), (1, .int v1), (2, .int v2), (3, .ref hO)]) hx hb d_L_response_13 hl (by decide) rfl (fun ls hl => ?_)
  refine lv_iconst (v := 1) hx hb d_L_response_15 (by decide) ?_
  exact rt_i hx hb hr hlk rfl hst rfl d_L_response_16
set_option maxHeartbeats 2000000 in
theorem h_response_a (l : Launch) (dC : Nat → ClassId) (dI : Nat → Nat → Nat) (tk : Nat → ClassId) (A : Nat → Prop) (hE : Nat) (LE : Nat → Nat) (LJ : Nat → Nat) (LV : Nat → Nat) (LN : Nat → Nat) (LS : Nat → Nat) (LZ : Nat → Nat) (LQ : Nat → Nat) (hO : Nat) (hM : Nat) (LM : Nat → Nat) (gE : aG) (gJ : aG) (gV : aG) (aV : aA) (gN : aG) (aN : aA) (gS : aG) (gZ : aG) (aZ : aA) (dP : aP) (gQ : aG) (dO : aP) (u : sbS) (nB : Nat) (fO : Nat → Int64) (gM : aG) (aM : aA) (v1 : Int32) (v2 : Int32) (hNT : NoTr l) (hm : mE_response_a v1 v2 gE (fun _ _ => 0) gN aN = some ()) : Met l ⟨"EditorServerLaw", "response", "(LEditorServer;II[J)I"⟩ (Cond.codeWith ⟨"EditorServerLaw", "response", "(LEditorServer;II[J)I"⟩ method_5_code 5 (some .int) [(0, 10, 13, 13), (0, 10, 17, 22)] :: gW) (rmn 8 150 1 6) (va_Pc [.ref hE, .int v1, .int v2, .ref hO] (Pr dC dI tk A (fWd tk hE LE LJ LV LN LS LZ LQ hO hM LM gE gJ gV aV gN aN gS gZ aZ dP gQ dO u nB fO gM aM))) (QI dC dI A 2 (fWd tk hE LE LJ LV LN LS LZ LQ hO hM LM gE gJ gV aV gN aN gS gZ aZ dP gQ dO u nB fO gM aM)) 1 6 A := by
  refine entW (by decide) (Nat.le_of_ble_eq_true rfl) ?_
  intro p e s m args below meth c hx hb hr hml hown hlk hxt hpl hG hg hst ls hl
  have hl : lv_has ls 5 [(0, .ref hE), (1, .int v1), (2, .int v2), (3, .ref hO)] := hl
  refine lv_aload_n hx hb d_L_response_0 rfl (lv_at hl 3 rfl) ?_
  refine lv_iconst (v := 0) hx hb d_L_response_1 (by decide) ?_
  refine lv_aload_n hx hb d_L_response_2 rfl (lv_at hl 0 rfl) ?_
  refine lv_iload_n hx hb d_L_response_3 rfl (lv_at hl 1 rfl) ?_
  refine lv_iload_n hx hb d_L_response_4 rfl (lv_at hl 2 rfl) ?_
  obtain ⟨x1, x2, ex, ⟨a1, a2, a3, a4⟩, c1, c2, c3, c4⟩ := tb_2 hxt
  have hfd : FndX e s (F0 m 5 ls [.int 0, .ref hO]) c.exceptionTable.toList "java/lang/IllegalArgumentException" 17 := by
    rw [ex]
    have h9 := fnd_2 (e := e) (s := s) (f := F0 m 5 ls [.int 0, .ref hO]) (x1 := x1) (x2 := x2) (t := []) (X1 := "java/lang/IndexOutOfBoundsException") (X2 := "java/lang/IllegalArgumentException") hpl (by simp [covers, a1, a2]) (by rw [a4]; decide) (by simp [covers, c1, c2]) (by rw [c4]; decide) hown (by rw [a4]; exact hG _ k_675) (by rw [c4]; exact hG _ k_769) hg.2.2.2.2.2.2.2.2.2.2.2.2.2.2
    rw [c3] at h9
    exact h9
  refine cl_catch (n := 2) (As := [.int v1, .int v2]) hx hb hml hown hG hg ((cE_response_a l hNT dC dI tk A hE LE gE (fun _ _ => 0) LN gN aN ((oX 2 (LE 0) ksJ spJ tk LJ gJ (fun _ _ => 0)) ++ ((oX 3 (LE 1) ksV spV tk LV gV aV) ++ ((oX 4 (LE 2) ksS spS tk LS gS (fun _ _ => 0)) ++ ((rX 4 (LS 0) 3 tk (fun i => some (dP i).1.1)) ++ ((oX 6 (LS 1) ksT spT tk LZ gZ aZ) ++ ((pF 5 ksD spD 1 tk dP 3) ++ ((oX 7 (LE 3) ksQ spQ tk LQ gQ (fun _ _ => 0)) ++ ((rX 5 (LQ 0) 8 tk (fun i => some (dO i).1.1)) ++ ((pF 8 ksK spK 0 tk dO 8) ++ ((sbX (LN 4) tk u nB) ++ ([(hO, .inl (tk 6, 1, .inr (.inl fO)))] ++ ((oX 0 hM ksM spM tk LM gM aM) ++ [])))))))))))) v1 v2 hm).pm (wt := (fWd tk hE LE LJ LV LN LS LZ LQ hO hM LM gE gJ gV aV gN aN gS gZ aZ dP gQ dO u nB fO gM aM)) (by unfold fWd srvW; simp only [oW_X, rA, pW, sbW, oL]; letI : DecidableEq (Nat × va_E) := fun a b => Classical.propDecidable (a = b); exact List.perm_iff_count.mpr fun a => by simp only [List.count_append]; omega)) k_770 k_771 k_772 k_1 k_773 (by decide +kernel) ⟨by decide, by decide⟩ hst cE.1 (q0 := 0) rfl rfl hl.1 rfl (Nat.le_of_ble_eq_true rfl) ⟨by decide, by decide⟩ d_L_response_5 hfd (fun xa H locs hst => ?_)
  refine W.cs (cells' := 1) (slots' := 6) rfl rfl ?_
  refine lv_astore (lv' := [(4, .ref xa), (0, .ref hE), (1, .int v1), (2, .int v2), (3, .ref hO)]) hx hb d_L_response_17 hl (by decide) rfl (fun ls hl => ?_)
  refine lv_iconst (v := 2) hx hb d_L_response_19 (by decide) ?_
  exact rt_i hx hb hr hlk rfl hst rfl d_L_response_20
theorem d_L_written_0 : decode method_6_code 0 = .ok (.aload_n 3, 1) := by decide +kernel
theorem d_L_written_1 : decode method_6_code 1 = .ok (.iconst 0, 1) := by decide +kernel
theorem d_L_written_2 : decode method_6_code 2 = .ok (.aload_n 0, 1) := by decide +kernel
theorem d_L_written_3 : decode method_6_code 3 = .ok (.iload_n 1, 1) := by decide +kernel
theorem d_L_written_4 : decode method_6_code 4 = .ok (.iload_n 2, 1) := by decide +kernel
theorem d_L_written_5 : decode method_6_code 5 = .ok (.invokevirtual 24, 3) := by decide +kernel
theorem d_L_written_8 : decode method_6_code 8 = .ok (.i2l, 1) := by decide +kernel
theorem d_L_written_9 : decode method_6_code 9 = .ok (.lastore, 1) := by decide +kernel
theorem d_L_written_10 : decode method_6_code 10 = .ok (.goto 7, 3) := by decide +kernel
theorem d_L_written_13 : decode method_6_code 13 = .ok (.astore 4, 2) := by decide +kernel
theorem d_L_written_15 : decode method_6_code 15 = .ok (.iconst 1, 1) := by decide +kernel
theorem d_L_written_16 : decode method_6_code 16 = .ok (.ireturn, 1) := by decide +kernel
theorem d_L_written_17 : decode method_6_code 17 = .ok (.iconst 0, 1) := by decide +kernel
theorem d_L_written_18 : decode method_6_code 18 = .ok (.ireturn, 1) := by decide +kernel
set_option maxHeartbeats 2000000 in
theorem h_written (l : Launch) (dC : Nat → ClassId) (dI : Nat → Nat → Nat) (tk : Nat → ClassId) (A : Nat → Prop) (hE : Nat) (LE : Nat → Nat) (LJ : Nat → Nat) (LV : Nat → Nat) (LN : Nat → Nat) (LS : Nat → Nat) (LZ : Nat → Nat) (LQ : Nat → Nat) (hO : Nat) (hM : Nat) (LM : Nat → Nat) (gE : aG) (gJ : aG) (gV : aG) (aV : aA) (gN : aG) (aN : aA) (gS : aG) (gZ : aG) (aZ : aA) (dP : aP) (gQ : aG) (dO : aP) (u : sbS) (nB : Nat) (fO : Nat → Int64) (gM : aG) (aM : aA) (t : List Int32) (ht : sbT t u) (hnB : nB = t.length) (v : Int32) (k : Nat) (hk : k < 60) (b1 b2 : Bool) (w1 w2 : Nat) (hw1 : w1 < 10 ^ 9) (hw2 : w2 < 10 ^ 9) (hb1 : b1 = true → 1 ≤ w1) (hb2 : b2 = true → 1 ≤ w2) (e1 : aN 0 k = sg b1 w1) (e2 : aN 3 k = sg b2 w2) (B0 F : List Int32) (hB0 : bdy [] (aN 1 k) (aN 2 k) (dTw b1 w1) (dTw b2 w2) = B0) (hF : bdy (([] ++ dTw false B0.length) ++ [nI 58]) (aN 1 k) (aN 2 k) (dTw b1 w1) (dTw b2 w2) = F) (hc : F.length ≤ 34) (hasc : ascT F) (kn : Nat) (hgn : gN 5 = nI kn) (hkn : k < kn) (hkn2 : kn ≤ 60) : Met l ⟨"EditorServerLaw", "written", "(LEditorServer;II[J)I"⟩ (Cond.codeWith ⟨"EditorServerLaw", "written", "(LEditorServer;II[J)I"⟩ method_6_code 5 (some .int) [(0, 10, 13, 13)] :: gW) (rmn 9 320 14 476) (va_Pc [.ref hE, .int (nI k), .int v, .ref hO] (Pr dC dI tk A (fWd tk hE LE LJ LV LN LS LZ LQ hO hM LM gE gJ gV aV gN aN gS gZ aZ dP gQ dO u nB fO gM aM))) (QIp dC dI A (fun u2 : sbS => sbT F u2) 0 (fun u2 => (fWd tk hE LE LJ LV LN LS LZ LQ hO hM LM gE gJ gV aV gN aN gS gZ aZ dP gQ dO u2 F.length (vp_updL fO 0 (fchr F v).toInt64) gM aM))) 14 476 A := by
  subst hnB
  refine entW (by decide) (Nat.le_of_ble_eq_true rfl) ?_
  intro p e s m args below meth c hx hb hr hml hown hlk hxt hpl hG hg hst ls hl
  have hl : lv_has ls 5 [(0, .ref hE), (1, .int (nI k)), (2, .int v), (3, .ref hO)] := hl
  refine lv_aload_n hx hb d_L_written_0 rfl (lv_at hl 3 rfl) ?_
  refine lv_iconst (v := 0) hx hb d_L_written_1 (by decide) ?_
  refine lv_aload_n hx hb d_L_written_2 rfl (lv_at hl 0 rfl) ?_
  refine lv_iload_n hx hb d_L_written_3 rfl (lv_at hl 1 rfl) ?_
  refine lv_iload_n hx hb d_L_written_4 rfl (lv_at hl 2 rfl) ?_
  refine bk_i (cm_run (nn := 2) (As := [.int (nI k), .int v]) hx hb hml hown hG hg ((cE_written l dC dI tk A hE LE gE (fun _ _ => 0) LN gN aN u ((oX 2 (LE 0) ksJ spJ tk LJ gJ (fun _ _ => 0)) ++ ((oX 3 (LE 1) ksV spV tk LV gV aV) ++ ((oX 4 (LE 2) ksS spS tk LS gS (fun _ _ => 0)) ++ ((rX 4 (LS 0) 3 tk (fun i => some (dP i).1.1)) ++ ((oX 6 (LS 1) ksT spT tk LZ gZ aZ) ++ ((pF 5 ksD spD 1 tk dP 3) ++ ((oX 7 (LE 3) ksQ spQ tk LQ gQ (fun _ _ => 0)) ++ ((rX 5 (LQ 0) 8 tk (fun i => some (dO i).1.1)) ++ ((pF 8 ksK spK 0 tk dO 8) ++ ([(hO, .inl (tk 6, 1, .inr (.inl fO)))] ++ ((oX 0 hM ksM spM tk LM gM aM) ++ []))))))))))) t ht v k hk b1 b2 w1 w2 hw1 hw2 hb1 hb2 e1 e2 B0 F hB0 hF hc hasc kn hgn hkn hkn2).pmI (wt := (fWd tk hE LE LJ LV LN LS LZ LQ hO hM LM gE gJ gV aV gN aN gS gZ aZ dP gQ dO u t.length fO gM aM)) (wg := fun u2 => (fWd tk hE LE LJ LV LN LS LZ LQ hO hM LM gE gJ gV aV gN aN gS gZ aZ dP gQ dO u2 F.length fO gM aM)) (by unfold fWd srvW; simp only [oW_X, rA, pW, sbW, oL]; letI : DecidableEq (Nat × va_E) := fun a b => Classical.propDecidable (a = b); exact List.perm_iff_count.mpr fun a => by simp only [List.count_append]; omega) (fun u2 => (by unfold fWd srvW; simp only [oW_X, rA, pW, sbW, oL]; letI : DecidableEq (Nat × va_E) := fun a b => Classical.propDecidable (a = b); exact List.perm_iff_count.mpr fun a => by simp only [List.count_append]; omega))) (cw_v 2 hG k_792 k_793 k_794 k_1 k_795 (by decide +kernel) ⟨by decide, by decide⟩) hst cE.1 (q0 := 0) rfl rfl hl.1 rfl (Nat.le_of_ble_eq_true rfl) ⟨by decide, by decide⟩ d_L_written_5) hst (fun u2 H locs ht2 hst => ?_)
  refine W.cs (cells' := 14) (slots' := 476) rfl rfl ?_
  refine lv_i2l hx hb d_L_written_8 rfl ?_
  have hst : St dC dI A s.heap H locs ([(hO, .inl (tk 6, 1, .inr (.inl fO)))] ++ ((oX 1 hE ksE spE tk LE gE (fun _ _ => 0)) ++ ((oX 2 (LE 0) ksJ spJ tk LJ gJ (fun _ _ => 0)) ++ ((oX 3 (LE 1) ksV spV tk LV gV aV) ++ ((oX 9 (LE 4) ksN spN tk LN gN aN) ++ ((oX 4 (LE 2) ksS spS tk LS gS (fun _ _ => 0)) ++ ((rX 4 (LS 0) 3 tk (fun i => some (dP i).1.1)) ++ ((oX 6 (LS 1) ksT spT tk LZ gZ aZ) ++ ((pF 5 ksD spD 1 tk dP 3) ++ ((oX 7 (LE 3) ksQ spQ tk LQ gQ (fun _ _ => 0)) ++ ((rX 5 (LQ 0) 8 tk (fun i => some (dO i).1.1)) ++ ((pF 8 ksK spK 0 tk dO 8) ++ ((sbX (LN 4) tk u2 F.length) ++ ((oX 0 hM ksM spM tk LM gM aM) ++ [])))))))))))))) := hst.pm (by unfold fWd srvW; simp only [oW_X, rA, pW, sbW, oL]; letI : DecidableEq (Nat × va_E) := fun a b => Classical.propDecidable (a = b); exact List.perm_iff_count.mpr fun a => by simp only [List.count_append]; omega)
  refine va_last hx hb hg.2.1 hst.1 hst.2.1 hst.2.2 0 6 rfl rfl (inb_in (by decide)) d_L_written_9 (fun H locs q1 q2 q3 => ?_)
  have hst : St dC dI A s.heap H locs ([(hO, .inl (tk 6, 1, .inr (.inl (vp_updL fO 0 (fchr F v).toInt64))))] ++ ((oX 1 hE ksE spE tk LE gE (fun _ _ => 0)) ++ ((oX 2 (LE 0) ksJ spJ tk LJ gJ (fun _ _ => 0)) ++ ((oX 3 (LE 1) ksV spV tk LV gV aV) ++ ((oX 9 (LE 4) ksN spN tk LN gN aN) ++ ((oX 4 (LE 2) ksS spS tk LS gS (fun _ _ => 0)) ++ ((rX 4 (LS 0) 3 tk (fun i => some (dP i).1.1)) ++ ((oX 6 (LS 1) ksT spT tk LZ gZ aZ) ++ ((pF 5 ksD spD 1 tk dP 3) ++ ((oX 7 (LE 3) ksQ spQ tk LQ gQ (fun _ _ => 0)) ++ ((rX 5 (LQ 0) 8 tk (fun i => some (dO i).1.1)) ++ ((pF 8 ksK spK 0 tk dO 8) ++ ((sbX (LN 4) tk u2 F.length) ++ ((oX 0 hM ksM spM tk LM gM aM) ++ [])))))))))))))) := ⟨q1, q2, q3⟩
  have hst : St dC dI A s.heap H locs (fWd tk hE LE LJ LV LN LS LZ LQ hO hM LM gE gJ gV aV gN aN gS gZ aZ dP gQ dO u2 F.length (vp_updL fO 0 (fchr F v).toInt64) gM aM) := hst.pm (by unfold fWd srvW; simp only [oW_X, rA, pW, sbW, oL]; letI : DecidableEq (Nat × va_E) := fun a b => Classical.propDecidable (a = b); exact List.perm_iff_count.mpr fun a => by simp only [List.count_append]; omega)
  refine lv_goto (tgt := 17) hx hb d_L_written_10 (by decide) ?_
  refine lv_iconst (v := 0) hx hb d_L_written_17 (by decide) ?_
  exact rp_i (u := u2) (wf := fun u2 => (fWd tk hE LE LJ LV LN LS LZ LQ hO hM LM gE gJ gV aV gN aN gS gZ aZ dP gQ dO u2 F.length (vp_updL fO 0 (fchr F v).toInt64) gM aM)) hx hb hr hlk rfl hst ht2 rfl d_L_written_18
set_option maxHeartbeats 2000000 in
theorem h_written_i (l : Launch) (dC : Nat → ClassId) (dI : Nat → Nat → Nat) (tk : Nat → ClassId) (A : Nat → Prop) (hE : Nat) (LE : Nat → Nat) (LJ : Nat → Nat) (LV : Nat → Nat) (LN : Nat → Nat) (LS : Nat → Nat) (LZ : Nat → Nat) (LQ : Nat → Nat) (hO : Nat) (hM : Nat) (LM : Nat → Nat) (gE : aG) (gJ : aG) (gV : aG) (aV : aA) (gN : aG) (aN : aA) (gS : aG) (gZ : aG) (aZ : aA) (dP : aP) (gQ : aG) (dO : aP) (u : sbS) (nB : Nat) (fO : Nat → Int64) (gM : aG) (aM : aA) (v1 : Int32) (v2 : Int32) (hNT : NoTr l) (hm : mE_written_i v1 v2 gE (fun _ _ => 0) gN aN = some ()) : Met l ⟨"EditorServerLaw", "written", "(LEditorServer;II[J)I"⟩ (Cond.codeWith ⟨"EditorServerLaw", "written", "(LEditorServer;II[J)I"⟩ method_6_code 5 (some .int) [(0, 10, 13, 13)] :: gW) (rmn 8 150 1 6) (va_Pc [.ref hE, .int v1, .int v2, .ref hO] (Pr dC dI tk A (fWd tk hE LE LJ LV LN LS LZ LQ hO hM LM gE gJ gV aV gN aN gS gZ aZ dP gQ dO u nB fO gM aM))) (QI dC dI A 1 (fWd tk hE LE LJ LV LN LS LZ LQ hO hM LM gE gJ gV aV gN aN gS gZ aZ dP gQ dO u nB fO gM aM)) 1 6 A := by
  refine entW (by decide) (Nat.le_of_ble_eq_true rfl) ?_
  intro p e s m args below meth c hx hb hr hml hown hlk hxt hpl hG hg hst ls hl
  have hl : lv_has ls 5 [(0, .ref hE), (1, .int v1), (2, .int v2), (3, .ref hO)] := hl
  refine lv_aload_n hx hb d_L_written_0 rfl (lv_at hl 3 rfl) ?_
  refine lv_iconst (v := 0) hx hb d_L_written_1 (by decide) ?_
  refine lv_aload_n hx hb d_L_written_2 rfl (lv_at hl 0 rfl) ?_
  refine lv_iload_n hx hb d_L_written_3 rfl (lv_at hl 1 rfl) ?_
  refine lv_iload_n hx hb d_L_written_4 rfl (lv_at hl 2 rfl) ?_
  obtain ⟨x1, ex, a1, a2, a3, a4⟩ := tb_1 hxt
  have hfd : FndX e s (F0 m 5 ls [.int 0, .ref hO]) c.exceptionTable.toList "java/lang/IndexOutOfBoundsException" 13 := by
    rw [ex]
    have h9 := fnd_1 (e := e) (s := s) (f := F0 m 5 ls [.int 0, .ref hO]) (x := x1) (t := []) (X := "java/lang/IndexOutOfBoundsException") hpl (by simp [covers, a1, a2]) (by rw [a4]; decide) hown (by rw [a4]; exact hG _ k_675)
    rw [a3] at h9
    exact h9
  refine cl_catch (n := 2) (As := [.int v1, .int v2]) hx hb hml hown hG hg ((cE_written_i l hNT dC dI tk A hE LE gE (fun _ _ => 0) LN gN aN ((oX 2 (LE 0) ksJ spJ tk LJ gJ (fun _ _ => 0)) ++ ((oX 3 (LE 1) ksV spV tk LV gV aV) ++ ((oX 4 (LE 2) ksS spS tk LS gS (fun _ _ => 0)) ++ ((rX 4 (LS 0) 3 tk (fun i => some (dP i).1.1)) ++ ((oX 6 (LS 1) ksT spT tk LZ gZ aZ) ++ ((pF 5 ksD spD 1 tk dP 3) ++ ((oX 7 (LE 3) ksQ spQ tk LQ gQ (fun _ _ => 0)) ++ ((rX 5 (LQ 0) 8 tk (fun i => some (dO i).1.1)) ++ ((pF 8 ksK spK 0 tk dO 8) ++ ((sbX (LN 4) tk u nB) ++ ([(hO, .inl (tk 6, 1, .inr (.inl fO)))] ++ ((oX 0 hM ksM spM tk LM gM aM) ++ [])))))))))))) v1 v2 hm).pm (wt := (fWd tk hE LE LJ LV LN LS LZ LQ hO hM LM gE gJ gV aV gN aN gS gZ aZ dP gQ dO u nB fO gM aM)) (by unfold fWd srvW; simp only [oW_X, rA, pW, sbW, oL]; letI : DecidableEq (Nat × va_E) := fun a b => Classical.propDecidable (a = b); exact List.perm_iff_count.mpr fun a => by simp only [List.count_append]; omega)) k_792 k_793 k_794 k_1 k_795 (by decide +kernel) ⟨by decide, by decide⟩ hst cE.1 (q0 := 0) rfl rfl hl.1 rfl (Nat.le_of_ble_eq_true rfl) ⟨by decide, by decide⟩ d_L_written_5 hfd (fun xa H locs hst => ?_)
  refine W.cs (cells' := 1) (slots' := 6) rfl rfl ?_
  refine lv_astore (lv' := [(4, .ref xa), (0, .ref hE), (1, .int v1), (2, .int v2), (3, .ref hO)]) hx hb d_L_written_13 hl (by decide) rfl (fun ls hl => ?_)
  refine lv_iconst (v := 1) hx hb d_L_written_15 (by decide) ?_
  exact rt_i hx hb hr hlk rfl hst rfl d_L_written_16
theorem d_L_document_0 : decode method_7_code 0 = .ok (.aload_n 3, 1) := by decide +kernel
theorem d_L_document_1 : decode method_7_code 1 = .ok (.iconst 0, 1) := by decide +kernel
theorem d_L_document_2 : decode method_7_code 2 = .ok (.aload_n 0, 1) := by decide +kernel
theorem d_L_document_3 : decode method_7_code 3 = .ok (.iload_n 1, 1) := by decide +kernel
theorem d_L_document_4 : decode method_7_code 4 = .ok (.iload_n 2, 1) := by decide +kernel
theorem d_L_document_5 : decode method_7_code 5 = .ok (.invokevirtual 28, 3) := by decide +kernel
theorem d_L_document_8 : decode method_7_code 8 = .ok (.i2l, 1) := by decide +kernel
theorem d_L_document_9 : decode method_7_code 9 = .ok (.lastore, 1) := by decide +kernel
theorem d_L_document_10 : decode method_7_code 10 = .ok (.goto 11, 3) := by decide +kernel
theorem d_L_document_13 : decode method_7_code 13 = .ok (.astore 4, 2) := by decide +kernel
theorem d_L_document_15 : decode method_7_code 15 = .ok (.iconst 1, 1) := by decide +kernel
theorem d_L_document_16 : decode method_7_code 16 = .ok (.ireturn, 1) := by decide +kernel
theorem d_L_document_17 : decode method_7_code 17 = .ok (.astore 4, 2) := by decide +kernel
theorem d_L_document_19 : decode method_7_code 19 = .ok (.iconst 2, 1) := by decide +kernel
theorem d_L_document_20 : decode method_7_code 20 = .ok (.ireturn, 1) := by decide +kernel
theorem d_L_document_21 : decode method_7_code 21 = .ok (.iconst 0, 1) := by decide +kernel
theorem d_L_document_22 : decode method_7_code 22 = .ok (.ireturn, 1) := by decide +kernel
set_option maxHeartbeats 2000000 in
theorem h_document (l : Launch) (dC : Nat → ClassId) (dI : Nat → Nat → Nat) (tk : Nat → ClassId) (A : Nat → Prop) (hE : Nat) (LE : Nat → Nat) (LJ : Nat → Nat) (LV : Nat → Nat) (LN : Nat → Nat) (LS : Nat → Nat) (LZ : Nat → Nat) (LQ : Nat → Nat) (hO : Nat) (hM : Nat) (LM : Nat → Nat) (gE : aG) (gJ : aG) (gV : aG) (aV : aA) (gN : aG) (aN : aA) (gS : aG) (gZ : aG) (aZ : aA) (dP : aP) (gQ : aG) (dO : aP) (u : sbS) (nB : Nat) (fO : Nat → Int64) (gM : aG) (aM : aA) (n : Nat) (v1 : Int32) (v2 : Int32) (r0 : Int32) (hm : mE_document n v1 v2 gE (fun _ _ => 0) gS (fun _ _ => 0) dP = some r0) : Met l ⟨"EditorServerLaw", "document", "(LEditorServer;II[J)I"⟩ (Cond.codeWith ⟨"EditorServerLaw", "document", "(LEditorServer;II[J)I"⟩ method_7_code 5 (some .int) [(0, 10, 13, 13), (0, 10, 17, 22)] :: gW) (rmn 2 45 0 0) (va_Pc [.ref hE, .int v1, .int v2, .ref hO] (Pr dC dI tk A (fWd tk hE LE LJ LV LN LS LZ LQ hO hM LM gE gJ gV aV gN aN gS gZ aZ dP gQ dO u nB fO gM aM))) (QI dC dI A 0 (fWd tk hE LE LJ LV LN LS LZ LQ hO hM LM gE gJ gV aV gN aN gS gZ aZ dP gQ dO u nB (vp_updL fO 0 r0.toInt64) gM aM)) 0 0 A := by
  refine entW (by decide) (Nat.le_of_ble_eq_true rfl) ?_
  intro p e s m args below meth c hx hb hr hml hown hlk hxt hpl hG hg hst ls hl
  have hl : lv_has ls 5 [(0, .ref hE), (1, .int v1), (2, .int v2), (3, .ref hO)] := hl
  refine lv_aload_n hx hb d_L_document_0 rfl (lv_at hl 3 rfl) ?_
  refine lv_iconst (v := 0) hx hb d_L_document_1 (by decide) ?_
  refine lv_aload_n hx hb d_L_document_2 rfl (lv_at hl 0 rfl) ?_
  refine lv_iload_n hx hb d_L_document_3 rfl (lv_at hl 1 rfl) ?_
  refine lv_iload_n hx hb d_L_document_4 rfl (lv_at hl 2 rfl) ?_
  refine cl_vi (As := [.int v1, .int v2]) hx hb hml hown hG hg ((cE_document l dC dI tk A hE LE gE (fun _ _ => 0) LS gS (fun _ _ => 0) dP ((oX 2 (LE 0) ksJ spJ tk LJ gJ (fun _ _ => 0)) ++ ((oX 3 (LE 1) ksV spV tk LV gV aV) ++ ((oX 9 (LE 4) ksN spN tk LN gN aN) ++ ((oX 6 (LS 1) ksT spT tk LZ gZ aZ) ++ ((oX 7 (LE 3) ksQ spQ tk LQ gQ (fun _ _ => 0)) ++ ((rX 5 (LQ 0) 8 tk (fun i => some (dO i).1.1)) ++ ((pF 8 ksK spK 0 tk dO 8) ++ ((sbX (LN 4) tk u nB) ++ ([(hO, .inl (tk 6, 1, .inr (.inl fO)))] ++ ((oX 0 hM ksM spM tk LM gM aM) ++ [])))))))))) n v1 v2 _ hm).pm (wt := (fWd tk hE LE LJ LV LN LS LZ LQ hO hM LM gE gJ gV aV gN aN gS gZ aZ dP gQ dO u nB fO gM aM)) (wt1 := (fWd tk hE LE LJ LV LN LS LZ LQ hO hM LM gE gJ gV aV gN aN gS gZ aZ dP gQ dO u nB fO gM aM)) (by unfold fWd srvW; simp only [oW_X, rA, pW, sbW, oL]; letI : DecidableEq (Nat × va_E) := fun a b => Classical.propDecidable (a = b); exact List.perm_iff_count.mpr fun a => by simp only [List.count_append]; omega) (by unfold fWd srvW; simp only [oW_X, rA, pW, sbW, oL]; letI : DecidableEq (Nat × va_E) := fun a b => Classical.propDecidable (a = b); exact List.perm_iff_count.mpr fun a => by simp only [List.count_append]; omega)) (cw_v 2 hG k_981 k_982 k_983 k_1 k_984 (by decide +kernel) ⟨by decide, by decide⟩) hst cE.1 (q0 := 0) rfl rfl hl.1 rfl (Nat.le_of_ble_eq_true rfl) ⟨Nat.le_refl 0, Nat.le_refl 0⟩ d_L_document_5 (fun H locs hst => ?_)
  refine lv_i2l hx hb d_L_document_8 rfl ?_
  have hst : St dC dI A s.heap H locs ([(hO, .inl (tk 6, 1, .inr (.inl fO)))] ++ ((oX 1 hE ksE spE tk LE gE (fun _ _ => 0)) ++ ((oX 2 (LE 0) ksJ spJ tk LJ gJ (fun _ _ => 0)) ++ ((oX 3 (LE 1) ksV spV tk LV gV aV) ++ ((oX 9 (LE 4) ksN spN tk LN gN aN) ++ ((oX 4 (LE 2) ksS spS tk LS gS (fun _ _ => 0)) ++ ((rX 4 (LS 0) 3 tk (fun i => some (dP i).1.1)) ++ ((oX 6 (LS 1) ksT spT tk LZ gZ aZ) ++ ((pF 5 ksD spD 1 tk dP 3) ++ ((oX 7 (LE 3) ksQ spQ tk LQ gQ (fun _ _ => 0)) ++ ((rX 5 (LQ 0) 8 tk (fun i => some (dO i).1.1)) ++ ((pF 8 ksK spK 0 tk dO 8) ++ ((sbX (LN 4) tk u nB) ++ ((oX 0 hM ksM spM tk LM gM aM) ++ [])))))))))))))) := hst.pm (by unfold fWd srvW; simp only [oW_X, rA, pW, sbW, oL]; letI : DecidableEq (Nat × va_E) := fun a b => Classical.propDecidable (a = b); exact List.perm_iff_count.mpr fun a => by simp only [List.count_append]; omega)
  refine va_last hx hb hg.2.1 hst.1 hst.2.1 hst.2.2 0 6 rfl rfl (inb_in (by decide)) d_L_document_9 (fun H locs q1 q2 q3 => ?_)
  have hst : St dC dI A s.heap H locs ([(hO, .inl (tk 6, 1, .inr (.inl (vp_updL fO 0 r0.toInt64))))] ++ ((oX 1 hE ksE spE tk LE gE (fun _ _ => 0)) ++ ((oX 2 (LE 0) ksJ spJ tk LJ gJ (fun _ _ => 0)) ++ ((oX 3 (LE 1) ksV spV tk LV gV aV) ++ ((oX 9 (LE 4) ksN spN tk LN gN aN) ++ ((oX 4 (LE 2) ksS spS tk LS gS (fun _ _ => 0)) ++ ((rX 4 (LS 0) 3 tk (fun i => some (dP i).1.1)) ++ ((oX 6 (LS 1) ksT spT tk LZ gZ aZ) ++ ((pF 5 ksD spD 1 tk dP 3) ++ ((oX 7 (LE 3) ksQ spQ tk LQ gQ (fun _ _ => 0)) ++ ((rX 5 (LQ 0) 8 tk (fun i => some (dO i).1.1)) ++ ((pF 8 ksK spK 0 tk dO 8) ++ ((sbX (LN 4) tk u nB) ++ ((oX 0 hM ksM spM tk LM gM aM) ++ [])))))))))))))) := ⟨q1, q2, q3⟩
  have hst : St dC dI A s.heap H locs (fWd tk hE LE LJ LV LN LS LZ LQ hO hM LM gE gJ gV aV gN aN gS gZ aZ dP gQ dO u nB (vp_updL fO 0 r0.toInt64) gM aM) := hst.pm (by unfold fWd srvW; simp only [oW_X, rA, pW, sbW, oL]; letI : DecidableEq (Nat × va_E) := fun a b => Classical.propDecidable (a = b); exact List.perm_iff_count.mpr fun a => by simp only [List.count_append]; omega)
  refine lv_goto (tgt := 21) hx hb d_L_document_10 (by decide) ?_
  refine lv_iconst (v := 0) hx hb d_L_document_21 (by decide) ?_
  exact rt_i hx hb hr hlk rfl hst rfl d_L_document_22
set_option maxHeartbeats 2000000 in
theorem h_document_i (l : Launch) (dC : Nat → ClassId) (dI : Nat → Nat → Nat) (tk : Nat → ClassId) (A : Nat → Prop) (hE : Nat) (LE : Nat → Nat) (LJ : Nat → Nat) (LV : Nat → Nat) (LN : Nat → Nat) (LS : Nat → Nat) (LZ : Nat → Nat) (LQ : Nat → Nat) (hO : Nat) (hM : Nat) (LM : Nat → Nat) (gE : aG) (gJ : aG) (gV : aG) (aV : aA) (gN : aG) (aN : aA) (gS : aG) (gZ : aG) (aZ : aA) (dP : aP) (gQ : aG) (dO : aP) (u : sbS) (nB : Nat) (fO : Nat → Int64) (gM : aG) (aM : aA) (v1 : Int32) (v2 : Int32) (hNT : NoTr l) (hm : mE_document_i v1 v2 gE (fun _ _ => 0) gS (fun _ _ => 0) dP = some ()) : Met l ⟨"EditorServerLaw", "document", "(LEditorServer;II[J)I"⟩ (Cond.codeWith ⟨"EditorServerLaw", "document", "(LEditorServer;II[J)I"⟩ method_7_code 5 (some .int) [(0, 10, 13, 13), (0, 10, 17, 22)] :: gW) (rmn 8 150 1 6) (va_Pc [.ref hE, .int v1, .int v2, .ref hO] (Pr dC dI tk A (fWd tk hE LE LJ LV LN LS LZ LQ hO hM LM gE gJ gV aV gN aN gS gZ aZ dP gQ dO u nB fO gM aM))) (QI dC dI A 1 (fWd tk hE LE LJ LV LN LS LZ LQ hO hM LM gE gJ gV aV gN aN gS gZ aZ dP gQ dO u nB fO gM aM)) 1 6 A := by
  refine entW (by decide) (Nat.le_of_ble_eq_true rfl) ?_
  intro p e s m args below meth c hx hb hr hml hown hlk hxt hpl hG hg hst ls hl
  have hl : lv_has ls 5 [(0, .ref hE), (1, .int v1), (2, .int v2), (3, .ref hO)] := hl
  refine lv_aload_n hx hb d_L_document_0 rfl (lv_at hl 3 rfl) ?_
  refine lv_iconst (v := 0) hx hb d_L_document_1 (by decide) ?_
  refine lv_aload_n hx hb d_L_document_2 rfl (lv_at hl 0 rfl) ?_
  refine lv_iload_n hx hb d_L_document_3 rfl (lv_at hl 1 rfl) ?_
  refine lv_iload_n hx hb d_L_document_4 rfl (lv_at hl 2 rfl) ?_
  obtain ⟨x1, x2, ex, ⟨a1, a2, a3, a4⟩, c1, c2, c3, c4⟩ := tb_2 hxt
  have hfd : FndX e s (F0 m 5 ls [.int 0, .ref hO]) c.exceptionTable.toList "java/lang/IndexOutOfBoundsException" 13 := by
    rw [ex]
    have h9 := fnd_1 (e := e) (s := s) (f := F0 m 5 ls [.int 0, .ref hO]) (x := x1) (t := [x2]) (X := "java/lang/IndexOutOfBoundsException") hpl (by simp [covers, a1, a2]) (by rw [a4]; decide) hown (by rw [a4]; exact hG _ k_675)
    rw [a3] at h9
    exact h9
  refine cl_catch (n := 2) (As := [.int v1, .int v2]) hx hb hml hown hG hg ((cE_document_i l hNT dC dI tk A hE LE gE (fun _ _ => 0) LS gS (fun _ _ => 0) dP ((oX 2 (LE 0) ksJ spJ tk LJ gJ (fun _ _ => 0)) ++ ((oX 3 (LE 1) ksV spV tk LV gV aV) ++ ((oX 9 (LE 4) ksN spN tk LN gN aN) ++ ((oX 6 (LS 1) ksT spT tk LZ gZ aZ) ++ ((oX 7 (LE 3) ksQ spQ tk LQ gQ (fun _ _ => 0)) ++ ((rX 5 (LQ 0) 8 tk (fun i => some (dO i).1.1)) ++ ((pF 8 ksK spK 0 tk dO 8) ++ ((sbX (LN 4) tk u nB) ++ ([(hO, .inl (tk 6, 1, .inr (.inl fO)))] ++ ((oX 0 hM ksM spM tk LM gM aM) ++ [])))))))))) v1 v2 hm).pm (wt := (fWd tk hE LE LJ LV LN LS LZ LQ hO hM LM gE gJ gV aV gN aN gS gZ aZ dP gQ dO u nB fO gM aM)) (by unfold fWd srvW; simp only [oW_X, rA, pW, sbW, oL]; letI : DecidableEq (Nat × va_E) := fun a b => Classical.propDecidable (a = b); exact List.perm_iff_count.mpr fun a => by simp only [List.count_append]; omega)) k_981 k_982 k_983 k_1 k_984 (by decide +kernel) ⟨by decide, by decide⟩ hst cE.1 (q0 := 0) rfl rfl hl.1 rfl (Nat.le_of_ble_eq_true rfl) ⟨by decide, by decide⟩ d_L_document_5 hfd (fun xa H locs hst => ?_)
  refine W.cs (cells' := 1) (slots' := 6) rfl rfl ?_
  refine lv_astore (lv' := [(4, .ref xa), (0, .ref hE), (1, .int v1), (2, .int v2), (3, .ref hO)]) hx hb d_L_document_13 hl (by decide) rfl (fun ls hl => ?_)
  refine lv_iconst (v := 1) hx hb d_L_document_15 (by decide) ?_
  exact rt_i hx hb hr hlk rfl hst rfl d_L_document_16
set_option maxHeartbeats 2000000 in
theorem h_document_a (l : Launch) (dC : Nat → ClassId) (dI : Nat → Nat → Nat) (tk : Nat → ClassId) (A : Nat → Prop) (hE : Nat) (LE : Nat → Nat) (LJ : Nat → Nat) (LV : Nat → Nat) (LN : Nat → Nat) (LS : Nat → Nat) (LZ : Nat → Nat) (LQ : Nat → Nat) (hO : Nat) (hM : Nat) (LM : Nat → Nat) (gE : aG) (gJ : aG) (gV : aG) (aV : aA) (gN : aG) (aN : aA) (gS : aG) (gZ : aG) (aZ : aA) (dP : aP) (gQ : aG) (dO : aP) (u : sbS) (nB : Nat) (fO : Nat → Int64) (gM : aG) (aM : aA) (v1 : Int32) (v2 : Int32) (hNT : NoTr l) (hm : mE_document_a v1 v2 gE (fun _ _ => 0) gS (fun _ _ => 0) dP = some ()) : Met l ⟨"EditorServerLaw", "document", "(LEditorServer;II[J)I"⟩ (Cond.codeWith ⟨"EditorServerLaw", "document", "(LEditorServer;II[J)I"⟩ method_7_code 5 (some .int) [(0, 10, 13, 13), (0, 10, 17, 22)] :: gW) (rmn 8 150 1 6) (va_Pc [.ref hE, .int v1, .int v2, .ref hO] (Pr dC dI tk A (fWd tk hE LE LJ LV LN LS LZ LQ hO hM LM gE gJ gV aV gN aN gS gZ aZ dP gQ dO u nB fO gM aM))) (QI dC dI A 2 (fWd tk hE LE LJ LV LN LS LZ LQ hO hM LM gE gJ gV aV gN aN gS gZ aZ dP gQ dO u nB fO gM aM)) 1 6 A := by
  refine entW (by decide) (Nat.le_of_ble_eq_true rfl) ?_
  intro p e s m args below meth c hx hb hr hml hown hlk hxt hpl hG hg hst ls hl
  have hl : lv_has ls 5 [(0, .ref hE), (1, .int v1), (2, .int v2), (3, .ref hO)] := hl
  refine lv_aload_n hx hb d_L_document_0 rfl (lv_at hl 3 rfl) ?_
  refine lv_iconst (v := 0) hx hb d_L_document_1 (by decide) ?_
  refine lv_aload_n hx hb d_L_document_2 rfl (lv_at hl 0 rfl) ?_
  refine lv_iload_n hx hb d_L_document_3 rfl (lv_at hl 1 rfl) ?_
  refine lv_iload_n hx hb d_L_document_4 rfl (lv_at hl 2 rfl) ?_
  obtain ⟨x1, x2, ex, ⟨a1, a2, a3, a4⟩, c1, c2, c3, c4⟩ := tb_2 hxt
  have hfd : FndX e s (F0 m 5 ls [.int 0, .ref hO]) c.exceptionTable.toList "java/lang/IllegalArgumentException" 17 := by
    rw [ex]
    have h9 := fnd_2 (e := e) (s := s) (f := F0 m 5 ls [.int 0, .ref hO]) (x1 := x1) (x2 := x2) (t := []) (X1 := "java/lang/IndexOutOfBoundsException") (X2 := "java/lang/IllegalArgumentException") hpl (by simp [covers, a1, a2]) (by rw [a4]; decide) (by simp [covers, c1, c2]) (by rw [c4]; decide) hown (by rw [a4]; exact hG _ k_675) (by rw [c4]; exact hG _ k_769) hg.2.2.2.2.2.2.2.2.2.2.2.2.2.2
    rw [c3] at h9
    exact h9
  refine cl_catch (n := 2) (As := [.int v1, .int v2]) hx hb hml hown hG hg ((cE_document_a l hNT dC dI tk A hE LE gE (fun _ _ => 0) LS gS (fun _ _ => 0) dP ((oX 2 (LE 0) ksJ spJ tk LJ gJ (fun _ _ => 0)) ++ ((oX 3 (LE 1) ksV spV tk LV gV aV) ++ ((oX 9 (LE 4) ksN spN tk LN gN aN) ++ ((oX 6 (LS 1) ksT spT tk LZ gZ aZ) ++ ((oX 7 (LE 3) ksQ spQ tk LQ gQ (fun _ _ => 0)) ++ ((rX 5 (LQ 0) 8 tk (fun i => some (dO i).1.1)) ++ ((pF 8 ksK spK 0 tk dO 8) ++ ((sbX (LN 4) tk u nB) ++ ([(hO, .inl (tk 6, 1, .inr (.inl fO)))] ++ ((oX 0 hM ksM spM tk LM gM aM) ++ [])))))))))) v1 v2 hm).pm (wt := (fWd tk hE LE LJ LV LN LS LZ LQ hO hM LM gE gJ gV aV gN aN gS gZ aZ dP gQ dO u nB fO gM aM)) (by unfold fWd srvW; simp only [oW_X, rA, pW, sbW, oL]; letI : DecidableEq (Nat × va_E) := fun a b => Classical.propDecidable (a = b); exact List.perm_iff_count.mpr fun a => by simp only [List.count_append]; omega)) k_981 k_982 k_983 k_1 k_984 (by decide +kernel) ⟨by decide, by decide⟩ hst cE.1 (q0 := 0) rfl rfl hl.1 rfl (Nat.le_of_ble_eq_true rfl) ⟨by decide, by decide⟩ d_L_document_5 hfd (fun xa H locs hst => ?_)
  refine W.cs (cells' := 1) (slots' := 6) rfl rfl ?_
  refine lv_astore (lv' := [(4, .ref xa), (0, .ref hE), (1, .int v1), (2, .int v2), (3, .ref hO)]) hx hb d_L_document_17 hl (by decide) rfl (fun ls hl => ?_)
  refine lv_iconst (v := 2) hx hb d_L_document_19 (by decide) ?_
  exact rt_i hx hb hr hlk rfl hst rfl d_L_document_20
theorem d_L_text_0 : decode method_8_code 0 = .ok (.aload_n 3, 1) := by decide +kernel
theorem d_L_text_1 : decode method_8_code 1 = .ok (.iconst 0, 1) := by decide +kernel
theorem d_L_text_2 : decode method_8_code 2 = .ok (.aload_n 0, 1) := by decide +kernel
theorem d_L_text_3 : decode method_8_code 3 = .ok (.iload_n 1, 1) := by decide +kernel
theorem d_L_text_4 : decode method_8_code 4 = .ok (.iload_n 2, 1) := by decide +kernel
theorem d_L_text_5 : decode method_8_code 5 = .ok (.invokevirtual 31, 3) := by decide +kernel
theorem d_L_text_8 : decode method_8_code 8 = .ok (.i2l, 1) := by decide +kernel
theorem d_L_text_9 : decode method_8_code 9 = .ok (.lastore, 1) := by decide +kernel
theorem d_L_text_10 : decode method_8_code 10 = .ok (.goto 7, 3) := by decide +kernel
theorem d_L_text_13 : decode method_8_code 13 = .ok (.astore 4, 2) := by decide +kernel
theorem d_L_text_15 : decode method_8_code 15 = .ok (.iconst 1, 1) := by decide +kernel
theorem d_L_text_16 : decode method_8_code 16 = .ok (.ireturn, 1) := by decide +kernel
theorem d_L_text_17 : decode method_8_code 17 = .ok (.iconst 0, 1) := by decide +kernel
theorem d_L_text_18 : decode method_8_code 18 = .ok (.ireturn, 1) := by decide +kernel
set_option maxHeartbeats 2000000 in
theorem h_text (l : Launch) (dC : Nat → ClassId) (dI : Nat → Nat → Nat) (tk : Nat → ClassId) (A : Nat → Prop) (hE : Nat) (LE : Nat → Nat) (LJ : Nat → Nat) (LV : Nat → Nat) (LN : Nat → Nat) (LS : Nat → Nat) (LZ : Nat → Nat) (LQ : Nat → Nat) (hO : Nat) (hM : Nat) (LM : Nat → Nat) (gE : aG) (gJ : aG) (gV : aG) (aV : aA) (gN : aG) (aN : aA) (gS : aG) (gZ : aG) (aZ : aA) (dP : aP) (gQ : aG) (dO : aP) (u : sbS) (nB : Nat) (fO : Nat → Int64) (gM : aG) (aM : aA) (n : Nat) (v1 : Int32) (v2 : Int32) (r0 : Int32) (hm : mE_text n v1 v2 gE (fun _ _ => 0) gS (fun _ _ => 0) dP = some r0) : Met l ⟨"EditorServerLaw", "text", "(LEditorServer;II[J)I"⟩ (Cond.codeWith ⟨"EditorServerLaw", "text", "(LEditorServer;II[J)I"⟩ method_8_code 5 (some .int) [(0, 10, 13, 13)] :: gW) (rmn 1 22 0 0) (va_Pc [.ref hE, .int v1, .int v2, .ref hO] (Pr dC dI tk A (fWd tk hE LE LJ LV LN LS LZ LQ hO hM LM gE gJ gV aV gN aN gS gZ aZ dP gQ dO u nB fO gM aM))) (QI dC dI A 0 (fWd tk hE LE LJ LV LN LS LZ LQ hO hM LM gE gJ gV aV gN aN gS gZ aZ dP gQ dO u nB (vp_updL fO 0 r0.toInt64) gM aM)) 0 0 A := by
  refine entW (by decide) (Nat.le_of_ble_eq_true rfl) ?_
  intro p e s m args below meth c hx hb hr hml hown hlk hxt hpl hG hg hst ls hl
  have hl : lv_has ls 5 [(0, .ref hE), (1, .int v1), (2, .int v2), (3, .ref hO)] := hl
  refine lv_aload_n hx hb d_L_text_0 rfl (lv_at hl 3 rfl) ?_
  refine lv_iconst (v := 0) hx hb d_L_text_1 (by decide) ?_
  refine lv_aload_n hx hb d_L_text_2 rfl (lv_at hl 0 rfl) ?_
  refine lv_iload_n hx hb d_L_text_3 rfl (lv_at hl 1 rfl) ?_
  refine lv_iload_n hx hb d_L_text_4 rfl (lv_at hl 2 rfl) ?_
  refine cl_vi (As := [.int v1, .int v2]) hx hb hml hown hG hg ((cE_text l dC dI tk A hE LE gE (fun _ _ => 0) LS gS (fun _ _ => 0) dP ((oX 2 (LE 0) ksJ spJ tk LJ gJ (fun _ _ => 0)) ++ ((oX 3 (LE 1) ksV spV tk LV gV aV) ++ ((oX 9 (LE 4) ksN spN tk LN gN aN) ++ ((oX 6 (LS 1) ksT spT tk LZ gZ aZ) ++ ((oX 7 (LE 3) ksQ spQ tk LQ gQ (fun _ _ => 0)) ++ ((rX 5 (LQ 0) 8 tk (fun i => some (dO i).1.1)) ++ ((pF 8 ksK spK 0 tk dO 8) ++ ((sbX (LN 4) tk u nB) ++ ([(hO, .inl (tk 6, 1, .inr (.inl fO)))] ++ ((oX 0 hM ksM spM tk LM gM aM) ++ [])))))))))) n v1 v2 _ hm).pm (wt := (fWd tk hE LE LJ LV LN LS LZ LQ hO hM LM gE gJ gV aV gN aN gS gZ aZ dP gQ dO u nB fO gM aM)) (wt1 := (fWd tk hE LE LJ LV LN LS LZ LQ hO hM LM gE gJ gV aV gN aN gS gZ aZ dP gQ dO u nB fO gM aM)) (by unfold fWd srvW; simp only [oW_X, rA, pW, sbW, oL]; letI : DecidableEq (Nat × va_E) := fun a b => Classical.propDecidable (a = b); exact List.perm_iff_count.mpr fun a => by simp only [List.count_append]; omega) (by unfold fWd srvW; simp only [oW_X, rA, pW, sbW, oL]; letI : DecidableEq (Nat × va_E) := fun a b => Classical.propDecidable (a = b); exact List.perm_iff_count.mpr fun a => by simp only [List.count_append]; omega)) (cw_v 2 hG k_989 k_990 k_991 k_1 k_992 (by decide +kernel) ⟨by decide, by decide⟩) hst cE.1 (q0 := 0) rfl rfl hl.1 rfl (Nat.le_of_ble_eq_true rfl) ⟨Nat.le_refl 0, Nat.le_refl 0⟩ d_L_text_5 (fun H locs hst => ?_)
  refine lv_i2l hx hb d_L_text_8 rfl ?_
  have hst : St dC dI A s.heap H locs ([(hO, .inl (tk 6, 1, .inr (.inl fO)))] ++ ((oX 1 hE ksE spE tk LE gE (fun _ _ => 0)) ++ ((oX 2 (LE 0) ksJ spJ tk LJ gJ (fun _ _ => 0)) ++ ((oX 3 (LE 1) ksV spV tk LV gV aV) ++ ((oX 9 (LE 4) ksN spN tk LN gN aN) ++ ((oX 4 (LE 2) ksS spS tk LS gS (fun _ _ => 0)) ++ ((rX 4 (LS 0) 3 tk (fun i => some (dP i).1.1)) ++ ((oX 6 (LS 1) ksT spT tk LZ gZ aZ) ++ ((pF 5 ksD spD 1 tk dP 3) ++ ((oX 7 (LE 3) ksQ spQ tk LQ gQ (fun _ _ => 0)) ++ ((rX 5 (LQ 0) 8 tk (fun i => some (dO i).1.1)) ++ ((pF 8 ksK spK 0 tk dO 8) ++ ((sbX (LN 4) tk u nB) ++ ((oX 0 hM ksM spM tk LM gM aM) ++ [])))))))))))))) := hst.pm (by unfold fWd srvW; simp only [oW_X, rA, pW, sbW, oL]; letI : DecidableEq (Nat × va_E) := fun a b => Classical.propDecidable (a = b); exact List.perm_iff_count.mpr fun a => by simp only [List.count_append]; omega)
  refine va_last hx hb hg.2.1 hst.1 hst.2.1 hst.2.2 0 6 rfl rfl (inb_in (by decide)) d_L_text_9 (fun H locs q1 q2 q3 => ?_)
  have hst : St dC dI A s.heap H locs ([(hO, .inl (tk 6, 1, .inr (.inl (vp_updL fO 0 r0.toInt64))))] ++ ((oX 1 hE ksE spE tk LE gE (fun _ _ => 0)) ++ ((oX 2 (LE 0) ksJ spJ tk LJ gJ (fun _ _ => 0)) ++ ((oX 3 (LE 1) ksV spV tk LV gV aV) ++ ((oX 9 (LE 4) ksN spN tk LN gN aN) ++ ((oX 4 (LE 2) ksS spS tk LS gS (fun _ _ => 0)) ++ ((rX 4 (LS 0) 3 tk (fun i => some (dP i).1.1)) ++ ((oX 6 (LS 1) ksT spT tk LZ gZ aZ) ++ ((pF 5 ksD spD 1 tk dP 3) ++ ((oX 7 (LE 3) ksQ spQ tk LQ gQ (fun _ _ => 0)) ++ ((rX 5 (LQ 0) 8 tk (fun i => some (dO i).1.1)) ++ ((pF 8 ksK spK 0 tk dO 8) ++ ((sbX (LN 4) tk u nB) ++ ((oX 0 hM ksM spM tk LM gM aM) ++ [])))))))))))))) := ⟨q1, q2, q3⟩
  have hst : St dC dI A s.heap H locs (fWd tk hE LE LJ LV LN LS LZ LQ hO hM LM gE gJ gV aV gN aN gS gZ aZ dP gQ dO u nB (vp_updL fO 0 r0.toInt64) gM aM) := hst.pm (by unfold fWd srvW; simp only [oW_X, rA, pW, sbW, oL]; letI : DecidableEq (Nat × va_E) := fun a b => Classical.propDecidable (a = b); exact List.perm_iff_count.mpr fun a => by simp only [List.count_append]; omega)
  refine lv_goto (tgt := 17) hx hb d_L_text_10 (by decide) ?_
  refine lv_iconst (v := 0) hx hb d_L_text_17 (by decide) ?_
  exact rt_i hx hb hr hlk rfl hst rfl d_L_text_18
set_option maxHeartbeats 2000000 in
theorem h_text_i (l : Launch) (dC : Nat → ClassId) (dI : Nat → Nat → Nat) (tk : Nat → ClassId) (A : Nat → Prop) (hE : Nat) (LE : Nat → Nat) (LJ : Nat → Nat) (LV : Nat → Nat) (LN : Nat → Nat) (LS : Nat → Nat) (LZ : Nat → Nat) (LQ : Nat → Nat) (hO : Nat) (hM : Nat) (LM : Nat → Nat) (gE : aG) (gJ : aG) (gV : aG) (aV : aA) (gN : aG) (aN : aA) (gS : aG) (gZ : aG) (aZ : aA) (dP : aP) (gQ : aG) (dO : aP) (u : sbS) (nB : Nat) (fO : Nat → Int64) (gM : aG) (aM : aA) (v1 : Int32) (v2 : Int32) (hNT : NoTr l) (hm : mE_text_i v1 v2 gE (fun _ _ => 0) gS (fun _ _ => 0) dP = some ()) : Met l ⟨"EditorServerLaw", "text", "(LEditorServer;II[J)I"⟩ (Cond.codeWith ⟨"EditorServerLaw", "text", "(LEditorServer;II[J)I"⟩ method_8_code 5 (some .int) [(0, 10, 13, 13)] :: gW) (rmn 8 150 1 6) (va_Pc [.ref hE, .int v1, .int v2, .ref hO] (Pr dC dI tk A (fWd tk hE LE LJ LV LN LS LZ LQ hO hM LM gE gJ gV aV gN aN gS gZ aZ dP gQ dO u nB fO gM aM))) (QI dC dI A 1 (fWd tk hE LE LJ LV LN LS LZ LQ hO hM LM gE gJ gV aV gN aN gS gZ aZ dP gQ dO u nB fO gM aM)) 1 6 A := by
  refine entW (by decide) (Nat.le_of_ble_eq_true rfl) ?_
  intro p e s m args below meth c hx hb hr hml hown hlk hxt hpl hG hg hst ls hl
  have hl : lv_has ls 5 [(0, .ref hE), (1, .int v1), (2, .int v2), (3, .ref hO)] := hl
  refine lv_aload_n hx hb d_L_text_0 rfl (lv_at hl 3 rfl) ?_
  refine lv_iconst (v := 0) hx hb d_L_text_1 (by decide) ?_
  refine lv_aload_n hx hb d_L_text_2 rfl (lv_at hl 0 rfl) ?_
  refine lv_iload_n hx hb d_L_text_3 rfl (lv_at hl 1 rfl) ?_
  refine lv_iload_n hx hb d_L_text_4 rfl (lv_at hl 2 rfl) ?_
  obtain ⟨x1, ex, a1, a2, a3, a4⟩ := tb_1 hxt
  have hfd : FndX e s (F0 m 5 ls [.int 0, .ref hO]) c.exceptionTable.toList "java/lang/IndexOutOfBoundsException" 13 := by
    rw [ex]
    have h9 := fnd_1 (e := e) (s := s) (f := F0 m 5 ls [.int 0, .ref hO]) (x := x1) (t := []) (X := "java/lang/IndexOutOfBoundsException") hpl (by simp [covers, a1, a2]) (by rw [a4]; decide) hown (by rw [a4]; exact hG _ k_675)
    rw [a3] at h9
    exact h9
  refine cl_catch (n := 2) (As := [.int v1, .int v2]) hx hb hml hown hG hg ((cE_text_i l hNT dC dI tk A hE LE gE (fun _ _ => 0) LS gS (fun _ _ => 0) dP ((oX 2 (LE 0) ksJ spJ tk LJ gJ (fun _ _ => 0)) ++ ((oX 3 (LE 1) ksV spV tk LV gV aV) ++ ((oX 9 (LE 4) ksN spN tk LN gN aN) ++ ((oX 6 (LS 1) ksT spT tk LZ gZ aZ) ++ ((oX 7 (LE 3) ksQ spQ tk LQ gQ (fun _ _ => 0)) ++ ((rX 5 (LQ 0) 8 tk (fun i => some (dO i).1.1)) ++ ((pF 8 ksK spK 0 tk dO 8) ++ ((sbX (LN 4) tk u nB) ++ ([(hO, .inl (tk 6, 1, .inr (.inl fO)))] ++ ((oX 0 hM ksM spM tk LM gM aM) ++ [])))))))))) v1 v2 hm).pm (wt := (fWd tk hE LE LJ LV LN LS LZ LQ hO hM LM gE gJ gV aV gN aN gS gZ aZ dP gQ dO u nB fO gM aM)) (by unfold fWd srvW; simp only [oW_X, rA, pW, sbW, oL]; letI : DecidableEq (Nat × va_E) := fun a b => Classical.propDecidable (a = b); exact List.perm_iff_count.mpr fun a => by simp only [List.count_append]; omega)) k_989 k_990 k_991 k_1 k_992 (by decide +kernel) ⟨by decide, by decide⟩ hst cE.1 (q0 := 0) rfl rfl hl.1 rfl (Nat.le_of_ble_eq_true rfl) ⟨by decide, by decide⟩ d_L_text_5 hfd (fun xa H locs hst => ?_)
  refine W.cs (cells' := 1) (slots' := 6) rfl rfl ?_
  refine lv_astore (lv' := [(4, .ref xa), (0, .ref hE), (1, .int v1), (2, .int v2), (3, .ref hO)]) hx hb d_L_text_13 hl (by decide) rfl (fun ls hl => ?_)
  refine lv_iconst (v := 1) hx hb d_L_text_15 (by decide) ?_
  exact rt_i hx hb hr hlk rfl hst rfl d_L_text_16
theorem d_L_name_0 : decode method_9_code 0 = .ok (.aload_n 3, 1) := by decide +kernel
theorem d_L_name_1 : decode method_9_code 1 = .ok (.iconst 0, 1) := by decide +kernel
theorem d_L_name_2 : decode method_9_code 2 = .ok (.aload_n 0, 1) := by decide +kernel
theorem d_L_name_3 : decode method_9_code 3 = .ok (.iload_n 1, 1) := by decide +kernel
theorem d_L_name_4 : decode method_9_code 4 = .ok (.iload_n 2, 1) := by decide +kernel
theorem d_L_name_5 : decode method_9_code 5 = .ok (.invokevirtual 34, 3) := by decide +kernel
theorem d_L_name_8 : decode method_9_code 8 = .ok (.i2l, 1) := by decide +kernel
theorem d_L_name_9 : decode method_9_code 9 = .ok (.lastore, 1) := by decide +kernel
theorem d_L_name_10 : decode method_9_code 10 = .ok (.goto 7, 3) := by decide +kernel
theorem d_L_name_13 : decode method_9_code 13 = .ok (.astore 4, 2) := by decide +kernel
theorem d_L_name_15 : decode method_9_code 15 = .ok (.iconst 1, 1) := by decide +kernel
theorem d_L_name_16 : decode method_9_code 16 = .ok (.ireturn, 1) := by decide +kernel
theorem d_L_name_17 : decode method_9_code 17 = .ok (.iconst 0, 1) := by decide +kernel
theorem d_L_name_18 : decode method_9_code 18 = .ok (.ireturn, 1) := by decide +kernel
set_option maxHeartbeats 2000000 in
theorem h_name (l : Launch) (dC : Nat → ClassId) (dI : Nat → Nat → Nat) (tk : Nat → ClassId) (A : Nat → Prop) (hE : Nat) (LE : Nat → Nat) (LJ : Nat → Nat) (LV : Nat → Nat) (LN : Nat → Nat) (LS : Nat → Nat) (LZ : Nat → Nat) (LQ : Nat → Nat) (hO : Nat) (hM : Nat) (LM : Nat → Nat) (gE : aG) (gJ : aG) (gV : aG) (aV : aA) (gN : aG) (aN : aA) (gS : aG) (gZ : aG) (aZ : aA) (dP : aP) (gQ : aG) (dO : aP) (u : sbS) (nB : Nat) (fO : Nat → Int64) (gM : aG) (aM : aA) (n : Nat) (v1 : Int32) (v2 : Int32) (r0 : Int32) (hm : mE_name n v1 v2 gE (fun _ _ => 0) gS (fun _ _ => 0) dP = some r0) : Met l ⟨"EditorServerLaw", "name", "(LEditorServer;II[J)I"⟩ (Cond.codeWith ⟨"EditorServerLaw", "name", "(LEditorServer;II[J)I"⟩ method_9_code 5 (some .int) [(0, 10, 13, 13)] :: gW) (rmn 1 22 0 0) (va_Pc [.ref hE, .int v1, .int v2, .ref hO] (Pr dC dI tk A (fWd tk hE LE LJ LV LN LS LZ LQ hO hM LM gE gJ gV aV gN aN gS gZ aZ dP gQ dO u nB fO gM aM))) (QI dC dI A 0 (fWd tk hE LE LJ LV LN LS LZ LQ hO hM LM gE gJ gV aV gN aN gS gZ aZ dP gQ dO u nB (vp_updL fO 0 r0.toInt64) gM aM)) 0 0 A := by
  refine entW (by decide) (Nat.le_of_ble_eq_true rfl) ?_
  intro p e s m args below meth c hx hb hr hml hown hlk hxt hpl hG hg hst ls hl
  have hl : lv_has ls 5 [(0, .ref hE), (1, .int v1), (2, .int v2), (3, .ref hO)] := hl
  refine lv_aload_n hx hb d_L_name_0 rfl (lv_at hl 3 rfl) ?_
  refine lv_iconst (v := 0) hx hb d_L_name_1 (by decide) ?_
  refine lv_aload_n hx hb d_L_name_2 rfl (lv_at hl 0 rfl) ?_
  refine lv_iload_n hx hb d_L_name_3 rfl (lv_at hl 1 rfl) ?_
  refine lv_iload_n hx hb d_L_name_4 rfl (lv_at hl 2 rfl) ?_
  refine cl_vi (As := [.int v1, .int v2]) hx hb hml hown hG hg ((cE_name l dC dI tk A hE LE gE (fun _ _ => 0) LS gS (fun _ _ => 0) dP ((oX 2 (LE 0) ksJ spJ tk LJ gJ (fun _ _ => 0)) ++ ((oX 3 (LE 1) ksV spV tk LV gV aV) ++ ((oX 9 (LE 4) ksN spN tk LN gN aN) ++ ((oX 6 (LS 1) ksT spT tk LZ gZ aZ) ++ ((oX 7 (LE 3) ksQ spQ tk LQ gQ (fun _ _ => 0)) ++ ((rX 5 (LQ 0) 8 tk (fun i => some (dO i).1.1)) ++ ((pF 8 ksK spK 0 tk dO 8) ++ ((sbX (LN 4) tk u nB) ++ ([(hO, .inl (tk 6, 1, .inr (.inl fO)))] ++ ((oX 0 hM ksM spM tk LM gM aM) ++ [])))))))))) n v1 v2 _ hm).pm (wt := (fWd tk hE LE LJ LV LN LS LZ LQ hO hM LM gE gJ gV aV gN aN gS gZ aZ dP gQ dO u nB fO gM aM)) (wt1 := (fWd tk hE LE LJ LV LN LS LZ LQ hO hM LM gE gJ gV aV gN aN gS gZ aZ dP gQ dO u nB fO gM aM)) (by unfold fWd srvW; simp only [oW_X, rA, pW, sbW, oL]; letI : DecidableEq (Nat × va_E) := fun a b => Classical.propDecidable (a = b); exact List.perm_iff_count.mpr fun a => by simp only [List.count_append]; omega) (by unfold fWd srvW; simp only [oW_X, rA, pW, sbW, oL]; letI : DecidableEq (Nat × va_E) := fun a b => Classical.propDecidable (a = b); exact List.perm_iff_count.mpr fun a => by simp only [List.count_append]; omega)) (cw_v 2 hG k_996 k_997 k_998 k_1 k_999 (by decide +kernel) ⟨by decide, by decide⟩) hst cE.1 (q0 := 0) rfl rfl hl.1 rfl (Nat.le_of_ble_eq_true rfl) ⟨Nat.le_refl 0, Nat.le_refl 0⟩ d_L_name_5 (fun H locs hst => ?_)
  refine lv_i2l hx hb d_L_name_8 rfl ?_
  have hst : St dC dI A s.heap H locs ([(hO, .inl (tk 6, 1, .inr (.inl fO)))] ++ ((oX 1 hE ksE spE tk LE gE (fun _ _ => 0)) ++ ((oX 2 (LE 0) ksJ spJ tk LJ gJ (fun _ _ => 0)) ++ ((oX 3 (LE 1) ksV spV tk LV gV aV) ++ ((oX 9 (LE 4) ksN spN tk LN gN aN) ++ ((oX 4 (LE 2) ksS spS tk LS gS (fun _ _ => 0)) ++ ((rX 4 (LS 0) 3 tk (fun i => some (dP i).1.1)) ++ ((oX 6 (LS 1) ksT spT tk LZ gZ aZ) ++ ((pF 5 ksD spD 1 tk dP 3) ++ ((oX 7 (LE 3) ksQ spQ tk LQ gQ (fun _ _ => 0)) ++ ((rX 5 (LQ 0) 8 tk (fun i => some (dO i).1.1)) ++ ((pF 8 ksK spK 0 tk dO 8) ++ ((sbX (LN 4) tk u nB) ++ ((oX 0 hM ksM spM tk LM gM aM) ++ [])))))))))))))) := hst.pm (by unfold fWd srvW; simp only [oW_X, rA, pW, sbW, oL]; letI : DecidableEq (Nat × va_E) := fun a b => Classical.propDecidable (a = b); exact List.perm_iff_count.mpr fun a => by simp only [List.count_append]; omega)
  refine va_last hx hb hg.2.1 hst.1 hst.2.1 hst.2.2 0 6 rfl rfl (inb_in (by decide)) d_L_name_9 (fun H locs q1 q2 q3 => ?_)
  have hst : St dC dI A s.heap H locs ([(hO, .inl (tk 6, 1, .inr (.inl (vp_updL fO 0 r0.toInt64))))] ++ ((oX 1 hE ksE spE tk LE gE (fun _ _ => 0)) ++ ((oX 2 (LE 0) ksJ spJ tk LJ gJ (fun _ _ => 0)) ++ ((oX 3 (LE 1) ksV spV tk LV gV aV) ++ ((oX 9 (LE 4) ksN spN tk LN gN aN) ++ ((oX 4 (LE 2) ksS spS tk LS gS (fun _ _ => 0)) ++ ((rX 4 (LS 0) 3 tk (fun i => some (dP i).1.1)) ++ ((oX 6 (LS 1) ksT spT tk LZ gZ aZ) ++ ((pF 5 ksD spD 1 tk dP 3) ++ ((oX 7 (LE 3) ksQ spQ tk LQ gQ (fun _ _ => 0)) ++ ((rX 5 (LQ 0) 8 tk (fun i => some (dO i).1.1)) ++ ((pF 8 ksK spK 0 tk dO 8) ++ ((sbX (LN 4) tk u nB) ++ ((oX 0 hM ksM spM tk LM gM aM) ++ [])))))))))))))) := ⟨q1, q2, q3⟩
  have hst : St dC dI A s.heap H locs (fWd tk hE LE LJ LV LN LS LZ LQ hO hM LM gE gJ gV aV gN aN gS gZ aZ dP gQ dO u nB (vp_updL fO 0 r0.toInt64) gM aM) := hst.pm (by unfold fWd srvW; simp only [oW_X, rA, pW, sbW, oL]; letI : DecidableEq (Nat × va_E) := fun a b => Classical.propDecidable (a = b); exact List.perm_iff_count.mpr fun a => by simp only [List.count_append]; omega)
  refine lv_goto (tgt := 17) hx hb d_L_name_10 (by decide) ?_
  refine lv_iconst (v := 0) hx hb d_L_name_17 (by decide) ?_
  exact rt_i hx hb hr hlk rfl hst rfl d_L_name_18
set_option maxHeartbeats 2000000 in
theorem h_name_i (l : Launch) (dC : Nat → ClassId) (dI : Nat → Nat → Nat) (tk : Nat → ClassId) (A : Nat → Prop) (hE : Nat) (LE : Nat → Nat) (LJ : Nat → Nat) (LV : Nat → Nat) (LN : Nat → Nat) (LS : Nat → Nat) (LZ : Nat → Nat) (LQ : Nat → Nat) (hO : Nat) (hM : Nat) (LM : Nat → Nat) (gE : aG) (gJ : aG) (gV : aG) (aV : aA) (gN : aG) (aN : aA) (gS : aG) (gZ : aG) (aZ : aA) (dP : aP) (gQ : aG) (dO : aP) (u : sbS) (nB : Nat) (fO : Nat → Int64) (gM : aG) (aM : aA) (v1 : Int32) (v2 : Int32) (hNT : NoTr l) (hm : mE_name_i v1 v2 gE (fun _ _ => 0) gS (fun _ _ => 0) dP = some ()) : Met l ⟨"EditorServerLaw", "name", "(LEditorServer;II[J)I"⟩ (Cond.codeWith ⟨"EditorServerLaw", "name", "(LEditorServer;II[J)I"⟩ method_9_code 5 (some .int) [(0, 10, 13, 13)] :: gW) (rmn 8 150 1 6) (va_Pc [.ref hE, .int v1, .int v2, .ref hO] (Pr dC dI tk A (fWd tk hE LE LJ LV LN LS LZ LQ hO hM LM gE gJ gV aV gN aN gS gZ aZ dP gQ dO u nB fO gM aM))) (QI dC dI A 1 (fWd tk hE LE LJ LV LN LS LZ LQ hO hM LM gE gJ gV aV gN aN gS gZ aZ dP gQ dO u nB fO gM aM)) 1 6 A := by
  refine entW (by decide) (Nat.le_of_ble_eq_true rfl) ?_
  intro p e s m args below meth c hx hb hr hml hown hlk hxt hpl hG hg hst ls hl
  have hl : lv_has ls 5 [(0, .ref hE), (1, .int v1), (2, .int v2), (3, .ref hO)] := hl
  refine lv_aload_n hx hb d_L_name_0 rfl (lv_at hl 3 rfl) ?_
  refine lv_iconst (v := 0) hx hb d_L_name_1 (by decide) ?_
  refine lv_aload_n hx hb d_L_name_2 rfl (lv_at hl 0 rfl) ?_
  refine lv_iload_n hx hb d_L_name_3 rfl (lv_at hl 1 rfl) ?_
  refine lv_iload_n hx hb d_L_name_4 rfl (lv_at hl 2 rfl) ?_
  obtain ⟨x1, ex, a1, a2, a3, a4⟩ := tb_1 hxt
  have hfd : FndX e s (F0 m 5 ls [.int 0, .ref hO]) c.exceptionTable.toList "java/lang/IndexOutOfBoundsException" 13 := by
    rw [ex]
    have h9 := fnd_1 (e := e) (s := s) (f := F0 m 5 ls [.int 0, .ref hO]) (x := x1) (t := []) (X := "java/lang/IndexOutOfBoundsException") hpl (by simp [covers, a1, a2]) (by rw [a4]; decide) hown (by rw [a4]; exact hG _ k_675)
    rw [a3] at h9
    exact h9
  refine cl_catch (n := 2) (As := [.int v1, .int v2]) hx hb hml hown hG hg ((cE_name_i l hNT dC dI tk A hE LE gE (fun _ _ => 0) LS gS (fun _ _ => 0) dP ((oX 2 (LE 0) ksJ spJ tk LJ gJ (fun _ _ => 0)) ++ ((oX 3 (LE 1) ksV spV tk LV gV aV) ++ ((oX 9 (LE 4) ksN spN tk LN gN aN) ++ ((oX 6 (LS 1) ksT spT tk LZ gZ aZ) ++ ((oX 7 (LE 3) ksQ spQ tk LQ gQ (fun _ _ => 0)) ++ ((rX 5 (LQ 0) 8 tk (fun i => some (dO i).1.1)) ++ ((pF 8 ksK spK 0 tk dO 8) ++ ((sbX (LN 4) tk u nB) ++ ([(hO, .inl (tk 6, 1, .inr (.inl fO)))] ++ ((oX 0 hM ksM spM tk LM gM aM) ++ [])))))))))) v1 v2 hm).pm (wt := (fWd tk hE LE LJ LV LN LS LZ LQ hO hM LM gE gJ gV aV gN aN gS gZ aZ dP gQ dO u nB fO gM aM)) (by unfold fWd srvW; simp only [oW_X, rA, pW, sbW, oL]; letI : DecidableEq (Nat × va_E) := fun a b => Classical.propDecidable (a = b); exact List.perm_iff_count.mpr fun a => by simp only [List.count_append]; omega)) k_996 k_997 k_998 k_1 k_999 (by decide +kernel) ⟨by decide, by decide⟩ hst cE.1 (q0 := 0) rfl rfl hl.1 rfl (Nat.le_of_ble_eq_true rfl) ⟨by decide, by decide⟩ d_L_name_5 hfd (fun xa H locs hst => ?_)
  refine W.cs (cells' := 1) (slots' := 6) rfl rfl ?_
  refine lv_astore (lv' := [(4, .ref xa), (0, .ref hE), (1, .int v1), (2, .int v2), (3, .ref hO)]) hx hb d_L_name_13 hl (by decide) rfl (fun ls hl => ?_)
  refine lv_iconst (v := 1) hx hb d_L_name_15 (by decide) ?_
  exact rt_i hx hb hr hlk rfl hst rfl d_L_name_16
theorem d_L_place_0 : decode method_10_code 0 = .ok (.aload 4, 2) := by decide +kernel
theorem d_L_place_2 : decode method_10_code 2 = .ok (.iconst 0, 1) := by decide +kernel
theorem d_L_place_3 : decode method_10_code 3 = .ok (.aload_n 0, 1) := by decide +kernel
theorem d_L_place_4 : decode method_10_code 4 = .ok (.iload_n 1, 1) := by decide +kernel
theorem d_L_place_5 : decode method_10_code 5 = .ok (.iload_n 2, 1) := by decide +kernel
theorem d_L_place_6 : decode method_10_code 6 = .ok (.iload_n 3, 1) := by decide +kernel
theorem d_L_place_7 : decode method_10_code 7 = .ok (.invokevirtual 37, 3) := by decide +kernel
theorem d_L_place_10 : decode method_10_code 10 = .ok (.i2l, 1) := by decide +kernel
theorem d_L_place_11 : decode method_10_code 11 = .ok (.lastore, 1) := by decide +kernel
theorem d_L_place_12 : decode method_10_code 12 = .ok (.goto 7, 3) := by decide +kernel
theorem d_L_place_15 : decode method_10_code 15 = .ok (.astore 5, 2) := by decide +kernel
theorem d_L_place_17 : decode method_10_code 17 = .ok (.iconst 1, 1) := by decide +kernel
theorem d_L_place_18 : decode method_10_code 18 = .ok (.ireturn, 1) := by decide +kernel
theorem d_L_place_19 : decode method_10_code 19 = .ok (.iconst 0, 1) := by decide +kernel
theorem d_L_place_20 : decode method_10_code 20 = .ok (.ireturn, 1) := by decide +kernel
set_option maxHeartbeats 2000000 in
theorem h_place (l : Launch) (dC : Nat → ClassId) (dI : Nat → Nat → Nat) (tk : Nat → ClassId) (A : Nat → Prop) (hE : Nat) (LE : Nat → Nat) (LJ : Nat → Nat) (LV : Nat → Nat) (LN : Nat → Nat) (LS : Nat → Nat) (LZ : Nat → Nat) (LQ : Nat → Nat) (hO : Nat) (hM : Nat) (LM : Nat → Nat) (gE : aG) (gJ : aG) (gV : aG) (aV : aA) (gN : aG) (aN : aA) (gS : aG) (gZ : aG) (aZ : aA) (dP : aP) (gQ : aG) (dO : aP) (u : sbS) (nB : Nat) (fO : Nat → Int64) (gM : aG) (aM : aA) (n : Nat) (v1 : Int32) (v2 : Int32) (v3 : Int32) (r0 : Int32) (hm : mE_place n v1 v2 v3 gE (fun _ _ => 0) gS (fun _ _ => 0) dP = some r0) : Met l ⟨"EditorServerLaw", "place", "(LEditorServer;III[J)I"⟩ (Cond.codeWith ⟨"EditorServerLaw", "place", "(LEditorServer;III[J)I"⟩ method_10_code 6 (some .int) [(0, 12, 15, 13)] :: gW) (rmn 3 70 0 0) (va_Pc [.ref hE, .int v1, .int v2, .int v3, .ref hO] (Pr dC dI tk A (fWd tk hE LE LJ LV LN LS LZ LQ hO hM LM gE gJ gV aV gN aN gS gZ aZ dP gQ dO u nB fO gM aM))) (QI dC dI A 0 (fWd tk hE LE LJ LV LN LS LZ LQ hO hM LM gE gJ gV aV gN aN gS gZ aZ dP gQ dO u nB (vp_updL fO 0 r0.toInt64) gM aM)) 0 0 A := by
  refine entW (by decide) (Nat.le_of_ble_eq_true rfl) ?_
  intro p e s m args below meth c hx hb hr hml hown hlk hxt hpl hG hg hst ls hl
  have hl : lv_has ls 6 [(0, .ref hE), (1, .int v1), (2, .int v2), (3, .int v3), (4, .ref hO)] := hl
  refine lv_aload hx hb d_L_place_0 (lv_at hl 4 rfl) ?_
  refine lv_iconst (v := 0) hx hb d_L_place_2 (by decide) ?_
  refine lv_aload_n hx hb d_L_place_3 rfl (lv_at hl 0 rfl) ?_
  refine lv_iload_n hx hb d_L_place_4 rfl (lv_at hl 1 rfl) ?_
  refine lv_iload_n hx hb d_L_place_5 rfl (lv_at hl 2 rfl) ?_
  refine lv_iload_n hx hb d_L_place_6 rfl (lv_at hl 3 rfl) ?_
  refine cl_vi (As := [.int v1, .int v2, .int v3]) hx hb hml hown hG hg ((cE_place l dC dI tk A hE LE gE (fun _ _ => 0) LS gS (fun _ _ => 0) dP ((oX 2 (LE 0) ksJ spJ tk LJ gJ (fun _ _ => 0)) ++ ((oX 3 (LE 1) ksV spV tk LV gV aV) ++ ((oX 9 (LE 4) ksN spN tk LN gN aN) ++ ((oX 6 (LS 1) ksT spT tk LZ gZ aZ) ++ ((oX 7 (LE 3) ksQ spQ tk LQ gQ (fun _ _ => 0)) ++ ((rX 5 (LQ 0) 8 tk (fun i => some (dO i).1.1)) ++ ((pF 8 ksK spK 0 tk dO 8) ++ ((sbX (LN 4) tk u nB) ++ ([(hO, .inl (tk 6, 1, .inr (.inl fO)))] ++ ((oX 0 hM ksM spM tk LM gM aM) ++ [])))))))))) n v1 v2 v3 _ hm).pm (wt := (fWd tk hE LE LJ LV LN LS LZ LQ hO hM LM gE gJ gV aV gN aN gS gZ aZ dP gQ dO u nB fO gM aM)) (wt1 := (fWd tk hE LE LJ LV LN LS LZ LQ hO hM LM gE gJ gV aV gN aN gS gZ aZ dP gQ dO u nB fO gM aM)) (by unfold fWd srvW; simp only [oW_X, rA, pW, sbW, oL]; letI : DecidableEq (Nat × va_E) := fun a b => Classical.propDecidable (a = b); exact List.perm_iff_count.mpr fun a => by simp only [List.count_append]; omega) (by unfold fWd srvW; simp only [oW_X, rA, pW, sbW, oL]; letI : DecidableEq (Nat × va_E) := fun a b => Classical.propDecidable (a = b); exact List.perm_iff_count.mpr fun a => by simp only [List.count_append]; omega)) (cw_v 3 hG k_1003 k_1004 k_1005 k_1 k_1006 (by decide +kernel) ⟨by decide, by decide⟩) hst cE.1 (q0 := 0) rfl rfl hl.1 rfl (Nat.le_of_ble_eq_true rfl) ⟨Nat.le_refl 0, Nat.le_refl 0⟩ d_L_place_7 (fun H locs hst => ?_)
  refine lv_i2l hx hb d_L_place_10 rfl ?_
  have hst : St dC dI A s.heap H locs ([(hO, .inl (tk 6, 1, .inr (.inl fO)))] ++ ((oX 1 hE ksE spE tk LE gE (fun _ _ => 0)) ++ ((oX 2 (LE 0) ksJ spJ tk LJ gJ (fun _ _ => 0)) ++ ((oX 3 (LE 1) ksV spV tk LV gV aV) ++ ((oX 9 (LE 4) ksN spN tk LN gN aN) ++ ((oX 4 (LE 2) ksS spS tk LS gS (fun _ _ => 0)) ++ ((rX 4 (LS 0) 3 tk (fun i => some (dP i).1.1)) ++ ((oX 6 (LS 1) ksT spT tk LZ gZ aZ) ++ ((pF 5 ksD spD 1 tk dP 3) ++ ((oX 7 (LE 3) ksQ spQ tk LQ gQ (fun _ _ => 0)) ++ ((rX 5 (LQ 0) 8 tk (fun i => some (dO i).1.1)) ++ ((pF 8 ksK spK 0 tk dO 8) ++ ((sbX (LN 4) tk u nB) ++ ((oX 0 hM ksM spM tk LM gM aM) ++ [])))))))))))))) := hst.pm (by unfold fWd srvW; simp only [oW_X, rA, pW, sbW, oL]; letI : DecidableEq (Nat × va_E) := fun a b => Classical.propDecidable (a = b); exact List.perm_iff_count.mpr fun a => by simp only [List.count_append]; omega)
  refine va_last hx hb hg.2.1 hst.1 hst.2.1 hst.2.2 0 6 rfl rfl (inb_in (by decide)) d_L_place_11 (fun H locs q1 q2 q3 => ?_)
  have hst : St dC dI A s.heap H locs ([(hO, .inl (tk 6, 1, .inr (.inl (vp_updL fO 0 r0.toInt64))))] ++ ((oX 1 hE ksE spE tk LE gE (fun _ _ => 0)) ++ ((oX 2 (LE 0) ksJ spJ tk LJ gJ (fun _ _ => 0)) ++ ((oX 3 (LE 1) ksV spV tk LV gV aV) ++ ((oX 9 (LE 4) ksN spN tk LN gN aN) ++ ((oX 4 (LE 2) ksS spS tk LS gS (fun _ _ => 0)) ++ ((rX 4 (LS 0) 3 tk (fun i => some (dP i).1.1)) ++ ((oX 6 (LS 1) ksT spT tk LZ gZ aZ) ++ ((pF 5 ksD spD 1 tk dP 3) ++ ((oX 7 (LE 3) ksQ spQ tk LQ gQ (fun _ _ => 0)) ++ ((rX 5 (LQ 0) 8 tk (fun i => some (dO i).1.1)) ++ ((pF 8 ksK spK 0 tk dO 8) ++ ((sbX (LN 4) tk u nB) ++ ((oX 0 hM ksM spM tk LM gM aM) ++ [])))))))))))))) := ⟨q1, q2, q3⟩
  have hst : St dC dI A s.heap H locs (fWd tk hE LE LJ LV LN LS LZ LQ hO hM LM gE gJ gV aV gN aN gS gZ aZ dP gQ dO u nB (vp_updL fO 0 r0.toInt64) gM aM) := hst.pm (by unfold fWd srvW; simp only [oW_X, rA, pW, sbW, oL]; letI : DecidableEq (Nat × va_E) := fun a b => Classical.propDecidable (a = b); exact List.perm_iff_count.mpr fun a => by simp only [List.count_append]; omega)
  refine lv_goto (tgt := 19) hx hb d_L_place_12 (by decide) ?_
  refine lv_iconst (v := 0) hx hb d_L_place_19 (by decide) ?_
  exact rt_i hx hb hr hlk rfl hst rfl d_L_place_20
set_option maxHeartbeats 2000000 in
theorem h_place_i (l : Launch) (dC : Nat → ClassId) (dI : Nat → Nat → Nat) (tk : Nat → ClassId) (A : Nat → Prop) (hE : Nat) (LE : Nat → Nat) (LJ : Nat → Nat) (LV : Nat → Nat) (LN : Nat → Nat) (LS : Nat → Nat) (LZ : Nat → Nat) (LQ : Nat → Nat) (hO : Nat) (hM : Nat) (LM : Nat → Nat) (gE : aG) (gJ : aG) (gV : aG) (aV : aA) (gN : aG) (aN : aA) (gS : aG) (gZ : aG) (aZ : aA) (dP : aP) (gQ : aG) (dO : aP) (u : sbS) (nB : Nat) (fO : Nat → Int64) (gM : aG) (aM : aA) (v1 : Int32) (v2 : Int32) (v3 : Int32) (hNT : NoTr l) (hm : mE_place_i v1 v2 v3 gE (fun _ _ => 0) gS (fun _ _ => 0) dP = some ()) : Met l ⟨"EditorServerLaw", "place", "(LEditorServer;III[J)I"⟩ (Cond.codeWith ⟨"EditorServerLaw", "place", "(LEditorServer;III[J)I"⟩ method_10_code 6 (some .int) [(0, 12, 15, 13)] :: gW) (rmn 8 150 1 6) (va_Pc [.ref hE, .int v1, .int v2, .int v3, .ref hO] (Pr dC dI tk A (fWd tk hE LE LJ LV LN LS LZ LQ hO hM LM gE gJ gV aV gN aN gS gZ aZ dP gQ dO u nB fO gM aM))) (QI dC dI A 1 (fWd tk hE LE LJ LV LN LS LZ LQ hO hM LM gE gJ gV aV gN aN gS gZ aZ dP gQ dO u nB fO gM aM)) 1 6 A := by
  refine entW (by decide) (Nat.le_of_ble_eq_true rfl) ?_
  intro p e s m args below meth c hx hb hr hml hown hlk hxt hpl hG hg hst ls hl
  have hl : lv_has ls 6 [(0, .ref hE), (1, .int v1), (2, .int v2), (3, .int v3), (4, .ref hO)] := hl
  refine lv_aload hx hb d_L_place_0 (lv_at hl 4 rfl) ?_
  refine lv_iconst (v := 0) hx hb d_L_place_2 (by decide) ?_
  refine lv_aload_n hx hb d_L_place_3 rfl (lv_at hl 0 rfl) ?_
  refine lv_iload_n hx hb d_L_place_4 rfl (lv_at hl 1 rfl) ?_
  refine lv_iload_n hx hb d_L_place_5 rfl (lv_at hl 2 rfl) ?_
  refine lv_iload_n hx hb d_L_place_6 rfl (lv_at hl 3 rfl) ?_
  obtain ⟨x1, ex, a1, a2, a3, a4⟩ := tb_1 hxt
  have hfd : FndX e s (F0 m 7 ls [.int 0, .ref hO]) c.exceptionTable.toList "java/lang/IndexOutOfBoundsException" 15 := by
    rw [ex]
    have h9 := fnd_1 (e := e) (s := s) (f := F0 m 7 ls [.int 0, .ref hO]) (x := x1) (t := []) (X := "java/lang/IndexOutOfBoundsException") hpl (by simp [covers, a1, a2]) (by rw [a4]; decide) hown (by rw [a4]; exact hG _ k_675)
    rw [a3] at h9
    exact h9
  refine cl_catch (n := 3) (As := [.int v1, .int v2, .int v3]) hx hb hml hown hG hg ((cE_place_i l hNT dC dI tk A hE LE gE (fun _ _ => 0) LS gS (fun _ _ => 0) dP ((oX 2 (LE 0) ksJ spJ tk LJ gJ (fun _ _ => 0)) ++ ((oX 3 (LE 1) ksV spV tk LV gV aV) ++ ((oX 9 (LE 4) ksN spN tk LN gN aN) ++ ((oX 6 (LS 1) ksT spT tk LZ gZ aZ) ++ ((oX 7 (LE 3) ksQ spQ tk LQ gQ (fun _ _ => 0)) ++ ((rX 5 (LQ 0) 8 tk (fun i => some (dO i).1.1)) ++ ((pF 8 ksK spK 0 tk dO 8) ++ ((sbX (LN 4) tk u nB) ++ ([(hO, .inl (tk 6, 1, .inr (.inl fO)))] ++ ((oX 0 hM ksM spM tk LM gM aM) ++ [])))))))))) v1 v2 v3 hm).pm (wt := (fWd tk hE LE LJ LV LN LS LZ LQ hO hM LM gE gJ gV aV gN aN gS gZ aZ dP gQ dO u nB fO gM aM)) (by unfold fWd srvW; simp only [oW_X, rA, pW, sbW, oL]; letI : DecidableEq (Nat × va_E) := fun a b => Classical.propDecidable (a = b); exact List.perm_iff_count.mpr fun a => by simp only [List.count_append]; omega)) k_1003 k_1004 k_1005 k_1 k_1006 (by decide +kernel) ⟨by decide, by decide⟩ hst cE.1 (q0 := 0) rfl rfl hl.1 rfl (Nat.le_of_ble_eq_true rfl) ⟨by decide, by decide⟩ d_L_place_7 hfd (fun xa H locs hst => ?_)
  refine W.cs (cells' := 1) (slots' := 6) rfl rfl ?_
  refine lv_astore (lv' := [(5, .ref xa), (0, .ref hE), (1, .int v1), (2, .int v2), (3, .int v3), (4, .ref hO)]) hx hb d_L_place_15 hl (by decide) rfl (fun ls hl => ?_)
  refine lv_iconst (v := 1) hx hb d_L_place_17 (by decide) ?_
  exact rt_i hx hb hr hlk rfl hst rfl d_L_place_18
