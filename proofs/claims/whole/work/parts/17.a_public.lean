def mE_request (n : Nat) (v1 : Int32) (gE : aG) (aE : aA) (gQ : aG) (aQ : aA) (dO : aP) : Option (Int32) := if v1 < 0 then (none) else (if v1 < (gQ 1) then (gd (inb v1 8) (some (((dO v1.toNatClampNeg).2.1 1)))) else (none))
theorem d_E_request_0 : decode prog_1_method_6_code 0 = .ok (.iload_n 1, 1) := by decide +kernel
theorem d_E_request_1 : decode prog_1_method_6_code 1 = .ok (.ifCond .lt 14, 3) := by decide +kernel
theorem d_E_request_4 : decode prog_1_method_6_code 4 = .ok (.iload_n 1, 1) := by decide +kernel
theorem d_E_request_5 : decode prog_1_method_6_code 5 = .ok (.aload_n 0, 1) := by decide +kernel
theorem d_E_request_6 : decode prog_1_method_6_code 6 = .ok (.getfield 39, 3) := by decide +kernel
theorem d_E_request_9 : decode prog_1_method_6_code 9 = .ok (.getfield 78, 3) := by decide +kernel
theorem d_E_request_12 : decode prog_1_method_6_code 12 = .ok (.if_icmp .lt 11, 3) := by decide +kernel
theorem d_E_request_15 : decode prog_1_method_6_code 15 = .ok (.new 81, 3) := by decide +kernel
theorem d_E_request_18 : decode prog_1_method_6_code 18 = .ok (.dup, 1) := by decide +kernel
theorem d_E_request_19 : decode prog_1_method_6_code 19 = .ok (.invokespecial 83, 3) := by decide +kernel
theorem d_E_request_22 : decode prog_1_method_6_code 22 = .ok (.athrow, 1) := by decide +kernel
theorem d_E_request_23 : decode prog_1_method_6_code 23 = .ok (.aload_n 0, 1) := by decide +kernel
theorem d_E_request_24 : decode prog_1_method_6_code 24 = .ok (.getfield 39, 3) := by decide +kernel
theorem d_E_request_27 : decode prog_1_method_6_code 27 = .ok (.getfield 84, 3) := by decide +kernel
theorem d_E_request_30 : decode prog_1_method_6_code 30 = .ok (.iload_n 1, 1) := by decide +kernel
theorem d_E_request_31 : decode prog_1_method_6_code 31 = .ok (.aaload, 1) := by decide +kernel
theorem d_E_request_32 : decode prog_1_method_6_code 32 = .ok (.getfield 88, 3) := by decide +kernel
theorem d_E_request_35 : decode prog_1_method_6_code 35 = .ok (.ireturn, 1) := by decide +kernel
set_option maxHeartbeats 4000000 in
set_option maxRecDepth 100000 in
theorem cE_request (l : Launch) (dC : Nat → ClassId) (dI : Nat → Nat → Nat) (tk : Nat → ClassId) (A : Nat → Prop) (hE : Nat) (LE : Nat → Nat) (gE : aG) (aE : aA) (LQ : Nat → Nat) (gQ : aG) (aQ : aA) (dO : aP) (rw : va_W) (n : Nat) (v1 : Int32) (r0 : Int32) (hm : mE_request n v1 gE aE gQ aQ dO = some r0) : CtI l dC dI tk A ⟨"EditorServer", "request", "(I)I"⟩ prog_1_method_6_code 2 (some .int) 0 0 [.ref hE, .int v1] (oW 1 hE ksE spE tk LE gE aE (oW 7 (LE 3) ksQ spQ tk LQ gQ aQ (rA 5 (LQ 0) 8 tk (fun i => some (dO i).1.1) (pW 8 ksK spK 0 tk dO 8 rw)))) r0 (oW 1 hE ksE spE tk LE gE aE (oW 7 (LE 3) ksQ spQ tk LQ gQ aQ (rA 5 (LQ 0) 8 tk (fun i => some (dO i).1.1) (pW 8 ksK spK 0 tk dO 8 rw)))) := by
  refine ent (by decide) (Nat.le_of_ble_eq_true rfl) ?_
  intro p e s m args below meth c hx hb hr hml hown hlk hG hg hst ls hl
  unfold mE_request at hm
  have hl : lv_has ls 2 [(0, .ref hE), (1, .int v1)] := hl
  obtain ⟨H, hH⟩ : ∃ H, H = s.heap := ⟨_, rfl⟩
  obtain ⟨locs, hlc⟩ : ∃ locs : List Loc, locs = [] := ⟨_, rfl⟩
  have hst : St dC dI A s.heap H locs (oW 1 hE ksE spE tk LE gE aE (oW 7 (LE 3) ksQ spQ tk LQ gQ aQ (rA 5 (LQ 0) 8 tk (fun i => some (dO i).1.1) (pW 8 ksK spK 0 tk dO 8 rw)))) := by rw [hH, hlc]; exact hst
  suffices hw : W p l e (rmo 0 0) s m args below meth c H locs 0 0 (MQ below (QI dC dI A r0 (oW 1 hE ksE spE tk LE gE aE (oW 7 (LE 3) ksQ spQ tk LQ gQ aQ (rA 5 (LQ 0) 8 tk (fun i => some (dO i).1.1) (pW 8 ksK spK 0 tk dO 8 rw))))) args s 0 0 A) (F0 m 0 ls []) by rw [hH, hlc] at hw; exact hw
  refine lv_iload_n hx hb d_E_request_0 rfl (lv_at hl 1 rfl) ?_
  refine lv_if_lt (tgt := 15) hx hb d_E_request_1 (by decide) (fun h1 => ?_) (fun h1 => ?_)
  · have hm := it_t hm h1
    cases hm
  · have hm := it_f hm h1
    refine lv_iload_n hx hb d_E_request_4 rfl (lv_at hl 1 rfl) ?_
    refine lv_aload_n hx hb d_E_request_5 rfl (lv_at hl 0 rfl) ?_
    refine ro_geta hx hb hown hG hg cE hst 3 3 (by decide) rfl rfl k_287 d_E_request_6 ?_
    have hst : St dC dI A s.heap H locs (oW 7 (LE 3) ksQ spQ tk LQ gQ aQ (oW 1 hE ksE spE tk LE gE aE (rA 5 (LQ 0) 8 tk (fun i => some (dO i).1.1) (pW 8 ksK spK 0 tk dO 8 rw)))) := gr1 (a := (oX 1 hE ksE spE tk LE gE aE)) (b := (oX 7 (LE 3) ksQ spQ tk LQ gQ aQ)) (r := (rA 5 (LQ 0) 8 tk (fun i => some (dO i).1.1) (pW 8 ksK spK 0 tk dO 8 rw))) hst
    refine rn_geti hx hb hown hG hg cQ hst 1 (by decide) rfl rfl t_215 d_E_request_9 ?_
    refine lv_icmp_lt (tgt := 23) hx hb d_E_request_12 (by decide) (fun h2 => ?_) (fun h2 => ?_)
    · have hm := it_t hm h2
      refine lv_aload_n hx hb d_E_request_23 rfl (lv_at hl 0 rfl) ?_
      have hst : St dC dI A s.heap H locs (oW 1 hE ksE spE tk LE gE aE (oW 7 (LE 3) ksQ spQ tk LQ gQ aQ (rA 5 (LQ 0) 8 tk (fun i => some (dO i).1.1) (pW 8 ksK spK 0 tk dO 8 rw)))) := gr1 (a := (oX 7 (LE 3) ksQ spQ tk LQ gQ aQ)) (b := (oX 1 hE ksE spE tk LE gE aE)) (r := (rA 5 (LQ 0) 8 tk (fun i => some (dO i).1.1) (pW 8 ksK spK 0 tk dO 8 rw))) hst
      refine ro_geta hx hb hown hG hg cE hst 3 3 (by decide) rfl rfl k_287 d_E_request_24 ?_
      have hst : St dC dI A s.heap H locs (oW 7 (LE 3) ksQ spQ tk LQ gQ aQ (oW 1 hE ksE spE tk LE gE aE (rA 5 (LQ 0) 8 tk (fun i => some (dO i).1.1) (pW 8 ksK spK 0 tk dO 8 rw)))) := gr1 (a := (oX 1 hE ksE spE tk LE gE aE)) (b := (oX 7 (LE 3) ksQ spQ tk LQ gQ aQ)) (r := (rA 5 (LQ 0) 8 tk (fun i => some (dO i).1.1) (pW 8 ksK spK 0 tk dO 8 rw))) hst
      refine rn_geta hx hb hown hG hg cQ hst 0 0 (by decide) rfl rfl t_213 d_E_request_27 ?_
      refine lv_iload_n hx hb d_E_request_30 rfl (lv_at hl 1 rfl) ?_
      obtain ⟨hn3, hm⟩ := gd_u hm
      have hst : St dC dI A s.heap H locs (rA 5 (LQ 0) 8 tk (fun i => some (dO i).1.1) (oW 7 (LE 3) ksQ spQ tk LQ gQ aQ (oW 1 hE ksE spE tk LE gE aE (pW 8 ksK spK 0 tk dO 8 rw)))) := gr2 (a := (oX 7 (LE 3) ksQ spQ tk LQ gQ aQ)) (b := (oX 1 hE ksE spE tk LE gE aE)) (x := (rX 5 (LQ 0) 8 tk (fun i => some (dO i).1.1))) (r := (pW 8 ksK spK 0 tk dO 8 rw)) hst
      refine ro_aald (a := (dO v1.toNatClampNeg).1.1) hx hb hg hst rfl hn3 rfl d_E_request_31 ?_
      have hst : St dC dI A s.heap H locs (pW 8 ksK spK 0 tk dO 8 (rA 5 (LQ 0) 8 tk (fun i => some (dO i).1.1) (oW 7 (LE 3) ksQ spQ tk LQ gQ aQ (oW 1 hE ksE spE tk LE gE aE rw)))) := gr3 (a := (rX 5 (LQ 0) 8 tk (fun i => some (dO i).1.1))) (b := (oX 7 (LE 3) ksQ spQ tk LQ gQ aQ)) (x := (oX 1 hE ksE spE tk LE gE aE)) (y := (pF 8 ksK spK 0 tk dO 8)) (r := rw) hst
      have hst := foc (d := v1.toNatClampNeg) hst (inb_lt hn3)
      refine rn_geti hx hb hown hG hg cK hst 1 (by decide) rfl rfl t_193 d_E_request_32 ?_
      have hst := unf0 (d := v1.toNatClampNeg) hst (inb_lt hn3)
      have hst : St dC dI A s.heap H locs (rA 5 (LQ 0) 8 tk (fun i => some (dO i).1.1) (pW 8 ksK spK 0 tk dO 8 (oW 7 (LE 3) ksQ spQ tk LQ gQ aQ (oW 1 hE ksE spE tk LE gE aE rw)))) := gr1 (a := (pF 8 ksK spK 0 tk dO 8)) (b := (rX 5 (LQ 0) 8 tk (fun i => some (dO i).1.1))) (r := (oW 7 (LE 3) ksQ spQ tk LQ gQ aQ (oW 1 hE ksE spE tk LE gE aE rw))) hst
      have hst : St dC dI A s.heap H locs (oW 7 (LE 3) ksQ spQ tk LQ gQ aQ (rA 5 (LQ 0) 8 tk (fun i => some (dO i).1.1) (pW 8 ksK spK 0 tk dO 8 (oW 1 hE ksE spE tk LE gE aE rw)))) := gr2 (a := (rX 5 (LQ 0) 8 tk (fun i => some (dO i).1.1))) (b := (pF 8 ksK spK 0 tk dO 8)) (x := (oX 7 (LE 3) ksQ spQ tk LQ gQ aQ)) (r := (oW 1 hE ksE spE tk LE gE aE rw)) hst
      have hst : St dC dI A s.heap H locs (oW 1 hE ksE spE tk LE gE aE (oW 7 (LE 3) ksQ spQ tk LQ gQ aQ (rA 5 (LQ 0) 8 tk (fun i => some (dO i).1.1) (pW 8 ksK spK 0 tk dO 8 rw)))) := gr3 (a := (oX 7 (LE 3) ksQ spQ tk LQ gQ aQ)) (b := (rX 5 (LQ 0) 8 tk (fun i => some (dO i).1.1))) (x := (pF 8 ksK spK 0 tk dO 8)) (y := (oX 1 hE ksE spE tk LE gE aE)) (r := rw) hst
      have hst9 := hst
      have he := (Option.some.inj hm)
      cases he
      exact rt_i hx hb hr hlk rfl hst9 rfl d_E_request_35
    · have hm := it_f hm h2
      cases hm
def mE_run (n : Nat) (v1 : Int32) (gE : aG) (aE : aA) (gN : aG) (aN : aA) (gQ : aG) (aQ : aA) (dO : aP) : Option (Int32 × aG × aA × aG × aP) := if v1 < 0 then (none) else (if v1 < (gQ 1) then (bd (mQ_takeOut n v1 gQ dO) (fun q6 => bd (mK_workOut n ((q6.2.2 q6.1).2.1) ((q6.2.2 q6.1).2.2.1) ((q6.2.2 q6.1).2.2.2.1) ((q6.2.2 q6.1).2.2.2.2)) (fun x8 => if x8 = (-1) then (bd (mN_addError n ((q6.2.2 q6.1).2.1 1) (-32603) gN aN) (fun q19 => some ((((q6.2.2 q6.1).2.1 1), q19.1, q19.2, q6.2.1, q6.2.2)))) else (bd (mN_addResult n ((q6.2.2 q6.1).2.1 1) x8 gN aN) (fun q15 => some ((((q6.2.2 q6.1).2.1 1), q15.1, q15.2, q6.2.1, q6.2.2))))))) else (none))
theorem d_E_run_0 : decode prog_1_method_7_code 0 = .ok (.iload_n 1, 1) := by decide +kernel
theorem d_E_run_1 : decode prog_1_method_7_code 1 = .ok (.ifCond .lt 14, 3) := by decide +kernel
theorem d_E_run_4 : decode prog_1_method_7_code 4 = .ok (.iload_n 1, 1) := by decide +kernel
theorem d_E_run_5 : decode prog_1_method_7_code 5 = .ok (.aload_n 0, 1) := by decide +kernel
theorem d_E_run_6 : decode prog_1_method_7_code 6 = .ok (.getfield 39, 3) := by decide +kernel
theorem d_E_run_9 : decode prog_1_method_7_code 9 = .ok (.getfield 78, 3) := by decide +kernel
theorem d_E_run_12 : decode prog_1_method_7_code 12 = .ok (.if_icmp .lt 11, 3) := by decide +kernel
theorem d_E_run_15 : decode prog_1_method_7_code 15 = .ok (.new 81, 3) := by decide +kernel
theorem d_E_run_18 : decode prog_1_method_7_code 18 = .ok (.dup, 1) := by decide +kernel
theorem d_E_run_19 : decode prog_1_method_7_code 19 = .ok (.invokespecial 83, 3) := by decide +kernel
theorem d_E_run_22 : decode prog_1_method_7_code 22 = .ok (.athrow, 1) := by decide +kernel
theorem d_E_run_23 : decode prog_1_method_7_code 23 = .ok (.aload_n 0, 1) := by decide +kernel
theorem d_E_run_24 : decode prog_1_method_7_code 24 = .ok (.getfield 39, 3) := by decide +kernel
theorem d_E_run_27 : decode prog_1_method_7_code 27 = .ok (.iload_n 1, 1) := by decide +kernel
theorem d_E_run_28 : decode prog_1_method_7_code 28 = .ok (.invokevirtual 93, 3) := by decide +kernel
theorem d_E_run_31 : decode prog_1_method_7_code 31 = .ok (.astore_n 2, 1) := by decide +kernel
theorem d_E_run_32 : decode prog_1_method_7_code 32 = .ok (.aload_n 2, 1) := by decide +kernel
theorem d_E_run_33 : decode prog_1_method_7_code 33 = .ok (.invokevirtual 97, 3) := by decide +kernel
theorem d_E_run_36 : decode prog_1_method_7_code 36 = .ok (.istore_n 3, 1) := by decide +kernel
theorem d_E_run_37 : decode prog_1_method_7_code 37 = .ok (.iload_n 3, 1) := by decide +kernel
theorem d_E_run_38 : decode prog_1_method_7_code 38 = .ok (.iconst (-1), 1) := by decide +kernel
theorem d_E_run_39 : decode prog_1_method_7_code 39 = .ok (.if_icmp .ne 20, 3) := by decide +kernel
theorem d_E_run_42 : decode prog_1_method_7_code 42 = .ok (.aload_n 0, 1) := by decide +kernel
theorem d_E_run_43 : decode prog_1_method_7_code 43 = .ok (.getfield 46, 3) := by decide +kernel
theorem d_E_run_46 : decode prog_1_method_7_code 46 = .ok (.aload_n 2, 1) := by decide +kernel
theorem d_E_run_47 : decode prog_1_method_7_code 47 = .ok (.getfield 88, 3) := by decide +kernel
theorem d_E_run_50 : decode prog_1_method_7_code 50 = .ok (.sipush (-32603), 3) := by decide +kernel
theorem d_E_run_53 : decode prog_1_method_7_code 53 = .ok (.invokevirtual 101, 3) := by decide +kernel
theorem d_E_run_56 : decode prog_1_method_7_code 56 = .ok (.goto 15, 3) := by decide +kernel
theorem d_E_run_59 : decode prog_1_method_7_code 59 = .ok (.aload_n 0, 1) := by decide +kernel
theorem d_E_run_60 : decode prog_1_method_7_code 60 = .ok (.getfield 46, 3) := by decide +kernel
theorem d_E_run_63 : decode prog_1_method_7_code 63 = .ok (.aload_n 2, 1) := by decide +kernel
theorem d_E_run_64 : decode prog_1_method_7_code 64 = .ok (.getfield 88, 3) := by decide +kernel
theorem d_E_run_67 : decode prog_1_method_7_code 67 = .ok (.iload_n 3, 1) := by decide +kernel
theorem d_E_run_68 : decode prog_1_method_7_code 68 = .ok (.invokevirtual 105, 3) := by decide +kernel
theorem d_E_run_71 : decode prog_1_method_7_code 71 = .ok (.aload_n 2, 1) := by decide +kernel
theorem d_E_run_72 : decode prog_1_method_7_code 72 = .ok (.getfield 88, 3) := by decide +kernel
theorem d_E_run_75 : decode prog_1_method_7_code 75 = .ok (.ireturn, 1) := by decide +kernel
set_option maxHeartbeats 4000000 in
set_option maxRecDepth 100000 in
theorem cE_run (l : Launch) (dC : Nat → ClassId) (dI : Nat → Nat → Nat) (tk : Nat → ClassId) (A : Nat → Prop) (hE : Nat) (LE : Nat → Nat) (gE : aG) (aE : aA) (LN : Nat → Nat) (gN : aG) (aN : aA) (LQ : Nat → Nat) (gQ : aG) (aQ : aA) (dO : aP) (rw : va_W) (n : Nat) (v1 : Int32) (r0 : Int32) (ogN : aG) (oaN : aA) (ogQ : aG) (odO : aP) (hm : mE_run n v1 gE aE gN aN gQ aQ dO = some (r0, ogN, oaN, ogQ, odO)) : CtI l dC dI tk A ⟨"EditorServer", "run", "(I)I"⟩ prog_1_method_7_code 4 (some .int) 3 67 [.ref hE, .int v1] (oW 1 hE ksE spE tk LE gE aE (oW 9 (LE 4) ksN spN tk LN gN aN (oW 7 (LE 3) ksQ spQ tk LQ gQ aQ (rA 5 (LQ 0) 8 tk (fun i => some (dO i).1.1) (pW 8 ksK spK 0 tk dO 8 rw))))) r0 (oW 1 hE ksE spE tk LE gE aE (oW 9 (LE 4) ksN spN tk LN ogN oaN (oW 7 (LE 3) ksQ spQ tk LQ ogQ aQ (rA 5 (LQ 0) 8 tk (fun i => some (odO i).1.1) (pW 8 ksK spK 0 tk odO 8 rw))))) := by
  refine ent (by decide) (Nat.le_of_ble_eq_true rfl) ?_
  intro p e s m args below meth c hx hb hr hml hown hlk hG hg hst ls hl
  unfold mE_run at hm
  have hl : lv_has ls 4 [(0, .ref hE), (1, .int v1)] := hl
  obtain ⟨H, hH⟩ : ∃ H, H = s.heap := ⟨_, rfl⟩
  obtain ⟨locs, hlc⟩ : ∃ locs : List Loc, locs = [] := ⟨_, rfl⟩
  have hst : St dC dI A s.heap H locs (oW 1 hE ksE spE tk LE gE aE (oW 9 (LE 4) ksN spN tk LN gN aN (oW 7 (LE 3) ksQ spQ tk LQ gQ aQ (rA 5 (LQ 0) 8 tk (fun i => some (dO i).1.1) (pW 8 ksK spK 0 tk dO 8 rw))))) := by rw [hH, hlc]; exact hst
  suffices hw : W p l e (rmo 3 67) s m args below meth c H locs 0 0 (MQ below (QI dC dI A r0 (oW 1 hE ksE spE tk LE gE aE (oW 9 (LE 4) ksN spN tk LN ogN oaN (oW 7 (LE 3) ksQ spQ tk LQ ogQ aQ (rA 5 (LQ 0) 8 tk (fun i => some (odO i).1.1) (pW 8 ksK spK 0 tk odO 8 rw)))))) args s 0 0 A) (F0 m 0 ls []) by rw [hH, hlc] at hw; exact hw
  refine lv_iload_n hx hb d_E_run_0 rfl (lv_at hl 1 rfl) ?_
  refine lv_if_lt (tgt := 15) hx hb d_E_run_1 (by decide) (fun h1 => ?_) (fun h1 => ?_)
  · have hm := it_t hm h1
    cases hm
  · have hm := it_f hm h1
    refine lv_iload_n hx hb d_E_run_4 rfl (lv_at hl 1 rfl) ?_
    refine lv_aload_n hx hb d_E_run_5 rfl (lv_at hl 0 rfl) ?_
    refine ro_geta hx hb hown hG hg cE hst 3 3 (by decide) rfl rfl k_287 d_E_run_6 ?_
    have hst : St dC dI A s.heap H locs (oW 7 (LE 3) ksQ spQ tk LQ gQ aQ (oW 1 hE ksE spE tk LE gE aE (oW 9 (LE 4) ksN spN tk LN gN aN (rA 5 (LQ 0) 8 tk (fun i => some (dO i).1.1) (pW 8 ksK spK 0 tk dO 8 rw))))) := gr2 (a := (oX 1 hE ksE spE tk LE gE aE)) (b := (oX 9 (LE 4) ksN spN tk LN gN aN)) (x := (oX 7 (LE 3) ksQ spQ tk LQ gQ aQ)) (r := (rA 5 (LQ 0) 8 tk (fun i => some (dO i).1.1) (pW 8 ksK spK 0 tk dO 8 rw))) hst
    refine rn_geti hx hb hown hG hg cQ hst 1 (by decide) rfl rfl t_215 d_E_run_9 ?_
    refine lv_icmp_lt (tgt := 23) hx hb d_E_run_12 (by decide) (fun h2 => ?_) (fun h2 => ?_)
    · have hm := it_t hm h2
      refine lv_aload_n hx hb d_E_run_23 rfl (lv_at hl 0 rfl) ?_
      have hst : St dC dI A s.heap H locs (oW 1 hE ksE spE tk LE gE aE (oW 7 (LE 3) ksQ spQ tk LQ gQ aQ (oW 9 (LE 4) ksN spN tk LN gN aN (rA 5 (LQ 0) 8 tk (fun i => some (dO i).1.1) (pW 8 ksK spK 0 tk dO 8 rw))))) := gr1 (a := (oX 7 (LE 3) ksQ spQ tk LQ gQ aQ)) (b := (oX 1 hE ksE spE tk LE gE aE)) (r := (oW 9 (LE 4) ksN spN tk LN gN aN (rA 5 (LQ 0) 8 tk (fun i => some (dO i).1.1) (pW 8 ksK spK 0 tk dO 8 rw)))) hst
      refine ro_geta hx hb hown hG hg cE hst 3 3 (by decide) rfl rfl k_287 d_E_run_24 ?_
      refine lv_iload_n hx hb d_E_run_27 rfl (lv_at hl 1 rfl) ?_
      have hst : St dC dI A s.heap H locs (pW 8 ksK spK 0 tk dO 8 (oW 1 hE ksE spE tk LE gE aE (oW 7 (LE 3) ksQ spQ tk LQ gQ aQ (oW 9 (LE 4) ksN spN tk LN gN aN (rA 5 (LQ 0) 8 tk (fun i => some (dO i).1.1) rw))))) := gr4 (a := (oX 1 hE ksE spE tk LE gE aE)) (b := (oX 7 (LE 3) ksQ spQ tk LQ gQ aQ)) (x := (oX 9 (LE 4) ksN spN tk LN gN aN)) (y := (rX 5 (LQ 0) 8 tk (fun i => some (dO i).1.1))) (z := (pF 8 ksK spK 0 tk dO 8)) (r := rw) hst
      have hst : St dC dI A s.heap H locs (rA 5 (LQ 0) 8 tk (fun i => some (dO i).1.1) (pW 8 ksK spK 0 tk dO 8 (oW 1 hE ksE spE tk LE gE aE (oW 7 (LE 3) ksQ spQ tk LQ gQ aQ (oW 9 (LE 4) ksN spN tk LN gN aN rw))))) := gr4 (a := (pF 8 ksK spK 0 tk dO 8)) (b := (oX 1 hE ksE spE tk LE gE aE)) (x := (oX 7 (LE 3) ksQ spQ tk LQ gQ aQ)) (y := (oX 9 (LE 4) ksN spN tk LN gN aN)) (z := (rX 5 (LQ 0) 8 tk (fun i => some (dO i).1.1))) (r := rw) hst
      have hst : St dC dI A s.heap H locs (oW 7 (LE 3) ksQ spQ tk LQ gQ aQ (rA 5 (LQ 0) 8 tk (fun i => some (dO i).1.1) (pW 8 ksK spK 0 tk dO 8 (oW 1 hE ksE spE tk LE gE aE (oW 9 (LE 4) ksN spN tk LN gN aN rw))))) := gr3 (a := (rX 5 (LQ 0) 8 tk (fun i => some (dO i).1.1))) (b := (pF 8 ksK spK 0 tk dO 8)) (x := (oX 1 hE ksE spE tk LE gE aE)) (y := (oX 7 (LE 3) ksQ spQ tk LQ gQ aQ)) (r := (oW 9 (LE 4) ksN spN tk LN gN aN rw)) hst
      obtain ⟨⟨z3, g4, d7⟩, hc5, hm⟩ := bd_u hm
      dsimp only at hm
      refine cl_vr hx hb hml hown hG hg (cQ_takeOut l dC dI tk A (LE 3) LQ gQ aQ dO (oW 1 hE ksE spE tk LE gE aE (oW 9 (LE 4) ksN spN tk LN gN aN rw)) n v1 _ _ _ hc5) (cw_v 1 hG k_639 k_640 k_641 k_7 k_642 (by decide +kernel) ⟨by decide, by decide⟩) hst rfl oW_0 rfl hl.1 rfl (Nat.le_of_ble_eq_true rfl) ⟨Nat.le_refl 0, Nat.le_refl 0⟩ d_E_run_28 (fun H locs hst => ?_)
      refine lv_astore_n (lv' := [(2, .ref (d7 z3).1.1), (0, .ref hE), (1, .int v1)]) hx hb d_E_run_31 rfl hl (by decide) rfl (fun ls hl => ?_)
      refine lv_aload_n hx hb d_E_run_32 rfl (lv_at hl 0 rfl) ?_
      have hst : St dC dI A s.heap H locs (pW 8 ksK spK 0 tk d7 8 (oW 7 (LE 3) ksQ spQ tk LQ g4 aQ (rA 5 (LQ 0) 8 tk (fun i => some (d7 i).1.1) (oW 1 hE ksE spE tk LE gE aE (oW 9 (LE 4) ksN spN tk LN gN aN rw))))) := gr2 (a := (oX 7 (LE 3) ksQ spQ tk LQ g4 aQ)) (b := (rX 5 (LQ 0) 8 tk (fun i => some (d7 i).1.1))) (x := (pF 8 ksK spK 0 tk d7 8)) (r := (oW 1 hE ksE spE tk LE gE aE (oW 9 (LE 4) ksN spN tk LN gN aN rw))) hst
      have hst := foc (d := z3) hst (takeOut_lt hc5)
      obtain ⟨x8, hc9, hm⟩ := bd_u hm
      refine cl_vi hx hb hml hown hG hg (cK_workOut l dC dI tk A (d7 z3).1.1 (d7 z3).1.2.1 ((d7 z3).2.1) ((d7 z3).2.2.1) (d7 z3).1.2.2 ((d7 z3).2.2.2.1) ((d7 z3).2.2.2.2) (pO 8 ksK spK 0 tk d7 8 z3 (oW 7 (LE 3) ksQ spQ tk LQ g4 aQ (rA 5 (LQ 0) 8 tk (fun i => some (d7 i).1.1) (oW 1 hE ksE spE tk LE gE aE (oW 9 (LE 4) ksN spN tk LN gN aN rw))))) n _ hc9) (cw_v 0 hG k_749 k_750 k_751 k_8 k_752 (by decide +kernel) ⟨by decide, by decide⟩) hst rfl oW_0 rfl hl.1 rfl (Nat.le_of_ble_eq_true rfl) ⟨Nat.le_refl 0, Nat.le_refl 0⟩ d_E_run_33 (fun H locs hst => ?_)
      refine lv_istore_n (lv' := [(3, .int x8), (2, .ref (d7 z3).1.1), (0, .ref hE), (1, .int v1)]) hx hb d_E_run_36 rfl hl (by decide) rfl (fun ls hl => ?_)
      refine lv_iload_n hx hb d_E_run_37 rfl (lv_at hl 0 rfl) ?_
      refine lv_iconst (v := (-1)) hx hb d_E_run_38 (by decide) ?_
      refine lv_icmp_ne (tgt := 59) hx hb d_E_run_39 (by decide) (fun h11 => ?_) (fun h11 => ?_)
      · have hm := it_f hm h11
        refine lv_aload_n hx hb d_E_run_59 rfl (lv_at hl 2 rfl) ?_
        have hst : St dC dI A s.heap H locs (oW 1 hE ksE spE tk LE gE aE (oW 8 (d7 z3).1.1 ksK spK tk (d7 z3).1.2.1 (d7 z3).2.1 (d7 z3).2.2.1 (oW 6 ((d7 z3).1.2.1 0) ksT spT tk (d7 z3).1.2.2 (d7 z3).2.2.2.1 (d7 z3).2.2.2.2 (pO 8 ksK spK 0 tk d7 8 z3 (oW 7 (LE 3) ksQ spQ tk LQ g4 aQ (rA 5 (LQ 0) 8 tk (fun i => some (d7 i).1.1) (oW 9 (LE 4) ksN spN tk LN gN aN rw))))))) := gr5 (a := (oX 8 (d7 z3).1.1 ksK spK tk (d7 z3).1.2.1 (d7 z3).2.1 (d7 z3).2.2.1)) (b := (oX 6 ((d7 z3).1.2.1 0) ksT spT tk (d7 z3).1.2.2 (d7 z3).2.2.2.1 (d7 z3).2.2.2.2)) (x := (pG 8 ksK spK 0 tk d7 8 z3)) (y := (oX 7 (LE 3) ksQ spQ tk LQ g4 aQ)) (z := (rX 5 (LQ 0) 8 tk (fun i => some (d7 i).1.1))) (u := (oX 1 hE ksE spE tk LE gE aE)) (r := (oW 9 (LE 4) ksN spN tk LN gN aN rw)) hst
        refine ro_geta hx hb hown hG hg cE hst 4 4 (by decide) rfl rfl k_288 d_E_run_60 ?_
        refine lv_aload_n hx hb d_E_run_63 rfl (lv_at hl 1 rfl) ?_
        have hst : St dC dI A s.heap H locs (oW 8 (d7 z3).1.1 ksK spK tk (d7 z3).1.2.1 (d7 z3).2.1 (d7 z3).2.2.1 (oW 1 hE ksE spE tk LE gE aE (oW 6 ((d7 z3).1.2.1 0) ksT spT tk (d7 z3).1.2.2 (d7 z3).2.2.2.1 (d7 z3).2.2.2.2 (pO 8 ksK spK 0 tk d7 8 z3 (oW 7 (LE 3) ksQ spQ tk LQ g4 aQ (rA 5 (LQ 0) 8 tk (fun i => some (d7 i).1.1) (oW 9 (LE 4) ksN spN tk LN gN aN rw))))))) := gr1 (a := (oX 1 hE ksE spE tk LE gE aE)) (b := (oX 8 (d7 z3).1.1 ksK spK tk (d7 z3).1.2.1 (d7 z3).2.1 (d7 z3).2.2.1)) (r := (oW 6 ((d7 z3).1.2.1 0) ksT spT tk (d7 z3).1.2.2 (d7 z3).2.2.2.1 (d7 z3).2.2.2.2 (pO 8 ksK spK 0 tk d7 8 z3 (oW 7 (LE 3) ksQ spQ tk LQ g4 aQ (rA 5 (LQ 0) 8 tk (fun i => some (d7 i).1.1) (oW 9 (LE 4) ksN spN tk LN gN aN rw)))))) hst
        refine rn_geti hx hb hown hG hg cK hst 1 (by decide) rfl rfl t_193 d_E_run_64 ?_
        refine lv_iload_n hx hb d_E_run_67 rfl (lv_at hl 0 rfl) ?_
        obtain ⟨⟨g12, a13⟩, hc14, hm⟩ := bd_u hm
        dsimp only at hm
        have hst : St dC dI A s.heap H locs (oW 9 (LE 4) ksN spN tk LN gN aN (oW 8 (d7 z3).1.1 ksK spK tk (d7 z3).1.2.1 (d7 z3).2.1 (d7 z3).2.2.1 (oW 1 hE ksE spE tk LE gE aE (oW 6 ((d7 z3).1.2.1 0) ksT spT tk (d7 z3).1.2.2 (d7 z3).2.2.2.1 (d7 z3).2.2.2.2 (pO 8 ksK spK 0 tk d7 8 z3 (oW 7 (LE 3) ksQ spQ tk LQ g4 aQ (rA 5 (LQ 0) 8 tk (fun i => some (d7 i).1.1) rw))))))) := gr6 (a := (oX 8 (d7 z3).1.1 ksK spK tk (d7 z3).1.2.1 (d7 z3).2.1 (d7 z3).2.2.1)) (b := (oX 1 hE ksE spE tk LE gE aE)) (x := (oX 6 ((d7 z3).1.2.1 0) ksT spT tk (d7 z3).1.2.2 (d7 z3).2.2.2.1 (d7 z3).2.2.2.2)) (y := (pG 8 ksK spK 0 tk d7 8 z3)) (z := (oX 7 (LE 3) ksQ spQ tk LQ g4 aQ)) (u := (rX 5 (LQ 0) 8 tk (fun i => some (d7 i).1.1))) (v := (oX 9 (LE 4) ksN spN tk LN gN aN)) (r := rw) hst
        refine cl_vv hx hb hml hown hG hg (cN_addResult l dC dI tk A (LE 4) LN gN aN (oW 8 (d7 z3).1.1 ksK spK tk (d7 z3).1.2.1 (d7 z3).2.1 (d7 z3).2.2.1 (oW 1 hE ksE spE tk LE gE aE (oW 6 ((d7 z3).1.2.1 0) ksT spT tk (d7 z3).1.2.2 (d7 z3).2.2.2.1 (d7 z3).2.2.2.2 (pO 8 ksK spK 0 tk d7 8 z3 (oW 7 (LE 3) ksQ spQ tk LQ g4 aQ (rA 5 (LQ 0) 8 tk (fun i => some (d7 i).1.1) rw)))))) n ((d7 z3).2.1 1) x8 _ _ hc14) (cw_v 2 hG k_556 k_557 k_558 k_9 k_559 (by decide +kernel) ⟨by decide, by decide⟩) hst rfl oW_0 rfl hl.1 rfl (Nat.le_of_ble_eq_true rfl) ⟨Nat.le_refl 0, Nat.le_refl 0⟩ d_E_run_68 (fun H locs hst => ?_)
        refine lv_aload_n hx hb d_E_run_71 rfl (lv_at hl 1 rfl) ?_
        have hst : St dC dI A s.heap H locs (oW 8 (d7 z3).1.1 ksK spK tk (d7 z3).1.2.1 (d7 z3).2.1 (d7 z3).2.2.1 (oW 9 (LE 4) ksN spN tk LN g12 a13 (oW 1 hE ksE spE tk LE gE aE (oW 6 ((d7 z3).1.2.1 0) ksT spT tk (d7 z3).1.2.2 (d7 z3).2.2.2.1 (d7 z3).2.2.2.2 (pO 8 ksK spK 0 tk d7 8 z3 (oW 7 (LE 3) ksQ spQ tk LQ g4 aQ (rA 5 (LQ 0) 8 tk (fun i => some (d7 i).1.1) rw))))))) := gr1 (a := (oX 9 (LE 4) ksN spN tk LN g12 a13)) (b := (oX 8 (d7 z3).1.1 ksK spK tk (d7 z3).1.2.1 (d7 z3).2.1 (d7 z3).2.2.1)) (r := (oW 1 hE ksE spE tk LE gE aE (oW 6 ((d7 z3).1.2.1 0) ksT spT tk (d7 z3).1.2.2 (d7 z3).2.2.2.1 (d7 z3).2.2.2.2 (pO 8 ksK spK 0 tk d7 8 z3 (oW 7 (LE 3) ksQ spQ tk LQ g4 aQ (rA 5 (LQ 0) 8 tk (fun i => some (d7 i).1.1) rw)))))) hst
        refine rn_geti hx hb hown hG hg cK hst 1 (by decide) rfl rfl t_193 d_E_run_72 ?_
        have hst : St dC dI A s.heap H locs (pO 8 ksK spK 0 tk d7 8 z3 (oW 8 (d7 z3).1.1 ksK spK tk (d7 z3).1.2.1 (d7 z3).2.1 (d7 z3).2.2.1 (oW 9 (LE 4) ksN spN tk LN g12 a13 (oW 1 hE ksE spE tk LE gE aE (oW 6 ((d7 z3).1.2.1 0) ksT spT tk (d7 z3).1.2.2 (d7 z3).2.2.2.1 (d7 z3).2.2.2.2 (oW 7 (LE 3) ksQ spQ tk LQ g4 aQ (rA 5 (LQ 0) 8 tk (fun i => some (d7 i).1.1) rw))))))) := gr4 (a := (oX 8 (d7 z3).1.1 ksK spK tk (d7 z3).1.2.1 (d7 z3).2.1 (d7 z3).2.2.1)) (b := (oX 9 (LE 4) ksN spN tk LN g12 a13)) (x := (oX 1 hE ksE spE tk LE gE aE)) (y := (oX 6 ((d7 z3).1.2.1 0) ksT spT tk (d7 z3).1.2.2 (d7 z3).2.2.2.1 (d7 z3).2.2.2.2)) (z := (pG 8 ksK spK 0 tk d7 8 z3)) (r := (oW 7 (LE 3) ksQ spQ tk LQ g4 aQ (rA 5 (LQ 0) 8 tk (fun i => some (d7 i).1.1) rw))) hst
        have hst : St dC dI A s.heap H locs (oW 6 ((d7 z3).1.2.1 0) ksT spT tk (d7 z3).1.2.2 (d7 z3).2.2.2.1 (d7 z3).2.2.2.2 (pO 8 ksK spK 0 tk d7 8 z3 (oW 8 (d7 z3).1.1 ksK spK tk (d7 z3).1.2.1 (d7 z3).2.1 (d7 z3).2.2.1 (oW 9 (LE 4) ksN spN tk LN g12 a13 (oW 1 hE ksE spE tk LE gE aE (oW 7 (LE 3) ksQ spQ tk LQ g4 aQ (rA 5 (LQ 0) 8 tk (fun i => some (d7 i).1.1) rw))))))) := gr4 (a := (pG 8 ksK spK 0 tk d7 8 z3)) (b := (oX 8 (d7 z3).1.1 ksK spK tk (d7 z3).1.2.1 (d7 z3).2.1 (d7 z3).2.2.1)) (x := (oX 9 (LE 4) ksN spN tk LN g12 a13)) (y := (oX 1 hE ksE spE tk LE gE aE)) (z := (oX 6 ((d7 z3).1.2.1 0) ksT spT tk (d7 z3).1.2.2 (d7 z3).2.2.2.1 (d7 z3).2.2.2.2)) (r := (oW 7 (LE 3) ksQ spQ tk LQ g4 aQ (rA 5 (LQ 0) 8 tk (fun i => some (d7 i).1.1) rw))) hst
        have hst : St dC dI A s.heap H locs (oW 8 (d7 z3).1.1 ksK spK tk (d7 z3).1.2.1 (d7 z3).2.1 (d7 z3).2.2.1 (oW 6 ((d7 z3).1.2.1 0) ksT spT tk (d7 z3).1.2.2 (d7 z3).2.2.2.1 (d7 z3).2.2.2.2 (pO 8 ksK spK 0 tk d7 8 z3 (oW 9 (LE 4) ksN spN tk LN g12 a13 (oW 1 hE ksE spE tk LE gE aE (oW 7 (LE 3) ksQ spQ tk LQ g4 aQ (rA 5 (LQ 0) 8 tk (fun i => some (d7 i).1.1) rw))))))) := gr2 (a := (oX 6 ((d7 z3).1.2.1 0) ksT spT tk (d7 z3).1.2.2 (d7 z3).2.2.2.1 (d7 z3).2.2.2.2)) (b := (pG 8 ksK spK 0 tk d7 8 z3)) (x := (oX 8 (d7 z3).1.1 ksK spK tk (d7 z3).1.2.1 (d7 z3).2.1 (d7 z3).2.2.1)) (r := (oW 9 (LE 4) ksN spN tk LN g12 a13 (oW 1 hE ksE spE tk LE gE aE (oW 7 (LE 3) ksQ spQ tk LQ g4 aQ (rA 5 (LQ 0) 8 tk (fun i => some (d7 i).1.1) rw))))) hst
        have hst := unf0 (d := z3) hst (takeOut_lt hc5)
        have hst : St dC dI A s.heap H locs (rA 5 (LQ 0) 8 tk (fun i => some (d7 i).1.1) (pW 8 ksK spK 0 tk d7 8 (oW 9 (LE 4) ksN spN tk LN g12 a13 (oW 1 hE ksE spE tk LE gE aE (oW 7 (LE 3) ksQ spQ tk LQ g4 aQ rw))))) := gr4 (a := (pF 8 ksK spK 0 tk d7 8)) (b := (oX 9 (LE 4) ksN spN tk LN g12 a13)) (x := (oX 1 hE ksE spE tk LE gE aE)) (y := (oX 7 (LE 3) ksQ spQ tk LQ g4 aQ)) (z := (rX 5 (LQ 0) 8 tk (fun i => some (d7 i).1.1))) (r := rw) hst
        have hst : St dC dI A s.heap H locs (oW 7 (LE 3) ksQ spQ tk LQ g4 aQ (rA 5 (LQ 0) 8 tk (fun i => some (d7 i).1.1) (pW 8 ksK spK 0 tk d7 8 (oW 9 (LE 4) ksN spN tk LN g12 a13 (oW 1 hE ksE spE tk LE gE aE rw))))) := gr4 (a := (rX 5 (LQ 0) 8 tk (fun i => some (d7 i).1.1))) (b := (pF 8 ksK spK 0 tk d7 8)) (x := (oX 9 (LE 4) ksN spN tk LN g12 a13)) (y := (oX 1 hE ksE spE tk LE gE aE)) (z := (oX 7 (LE 3) ksQ spQ tk LQ g4 aQ)) (r := rw) hst
        have hst : St dC dI A s.heap H locs (oW 9 (LE 4) ksN spN tk LN g12 a13 (oW 7 (LE 3) ksQ spQ tk LQ g4 aQ (rA 5 (LQ 0) 8 tk (fun i => some (d7 i).1.1) (pW 8 ksK spK 0 tk d7 8 (oW 1 hE ksE spE tk LE gE aE rw))))) := gr3 (a := (oX 7 (LE 3) ksQ spQ tk LQ g4 aQ)) (b := (rX 5 (LQ 0) 8 tk (fun i => some (d7 i).1.1))) (x := (pF 8 ksK spK 0 tk d7 8)) (y := (oX 9 (LE 4) ksN spN tk LN g12 a13)) (r := (oW 1 hE ksE spE tk LE gE aE rw)) hst
        have hst : St dC dI A s.heap H locs (oW 1 hE ksE spE tk LE gE aE (oW 9 (LE 4) ksN spN tk LN g12 a13 (oW 7 (LE 3) ksQ spQ tk LQ g4 aQ (rA 5 (LQ 0) 8 tk (fun i => some (d7 i).1.1) (pW 8 ksK spK 0 tk d7 8 rw))))) := gr4 (a := (oX 9 (LE 4) ksN spN tk LN g12 a13)) (b := (oX 7 (LE 3) ksQ spQ tk LQ g4 aQ)) (x := (rX 5 (LQ 0) 8 tk (fun i => some (d7 i).1.1))) (y := (pF 8 ksK spK 0 tk d7 8)) (z := (oX 1 hE ksE spE tk LE gE aE)) (r := rw) hst
        have hst9 := hst
        have he := (Option.some.inj hm)
        cases he
        exact rt_i hx hb hr hlk rfl hst9 rfl d_E_run_75
      · have hm := it_t hm h11
        refine lv_aload_n hx hb d_E_run_42 rfl (lv_at hl 2 rfl) ?_
        have hst : St dC dI A s.heap H locs (oW 1 hE ksE spE tk LE gE aE (oW 8 (d7 z3).1.1 ksK spK tk (d7 z3).1.2.1 (d7 z3).2.1 (d7 z3).2.2.1 (oW 6 ((d7 z3).1.2.1 0) ksT spT tk (d7 z3).1.2.2 (d7 z3).2.2.2.1 (d7 z3).2.2.2.2 (pO 8 ksK spK 0 tk d7 8 z3 (oW 7 (LE 3) ksQ spQ tk LQ g4 aQ (rA 5 (LQ 0) 8 tk (fun i => some (d7 i).1.1) (oW 9 (LE 4) ksN spN tk LN gN aN rw))))))) := gr5 (a := (oX 8 (d7 z3).1.1 ksK spK tk (d7 z3).1.2.1 (d7 z3).2.1 (d7 z3).2.2.1)) (b := (oX 6 ((d7 z3).1.2.1 0) ksT spT tk (d7 z3).1.2.2 (d7 z3).2.2.2.1 (d7 z3).2.2.2.2)) (x := (pG 8 ksK spK 0 tk d7 8 z3)) (y := (oX 7 (LE 3) ksQ spQ tk LQ g4 aQ)) (z := (rX 5 (LQ 0) 8 tk (fun i => some (d7 i).1.1))) (u := (oX 1 hE ksE spE tk LE gE aE)) (r := (oW 9 (LE 4) ksN spN tk LN gN aN rw)) hst
        refine ro_geta hx hb hown hG hg cE hst 4 4 (by decide) rfl rfl k_288 d_E_run_43 ?_
        refine lv_aload_n hx hb d_E_run_46 rfl (lv_at hl 1 rfl) ?_
        have hst : St dC dI A s.heap H locs (oW 8 (d7 z3).1.1 ksK spK tk (d7 z3).1.2.1 (d7 z3).2.1 (d7 z3).2.2.1 (oW 1 hE ksE spE tk LE gE aE (oW 6 ((d7 z3).1.2.1 0) ksT spT tk (d7 z3).1.2.2 (d7 z3).2.2.2.1 (d7 z3).2.2.2.2 (pO 8 ksK spK 0 tk d7 8 z3 (oW 7 (LE 3) ksQ spQ tk LQ g4 aQ (rA 5 (LQ 0) 8 tk (fun i => some (d7 i).1.1) (oW 9 (LE 4) ksN spN tk LN gN aN rw))))))) := gr1 (a := (oX 1 hE ksE spE tk LE gE aE)) (b := (oX 8 (d7 z3).1.1 ksK spK tk (d7 z3).1.2.1 (d7 z3).2.1 (d7 z3).2.2.1)) (r := (oW 6 ((d7 z3).1.2.1 0) ksT spT tk (d7 z3).1.2.2 (d7 z3).2.2.2.1 (d7 z3).2.2.2.2 (pO 8 ksK spK 0 tk d7 8 z3 (oW 7 (LE 3) ksQ spQ tk LQ g4 aQ (rA 5 (LQ 0) 8 tk (fun i => some (d7 i).1.1) (oW 9 (LE 4) ksN spN tk LN gN aN rw)))))) hst
        refine rn_geti hx hb hown hG hg cK hst 1 (by decide) rfl rfl t_193 d_E_run_47 ?_
        refine lv_sipush (v := (-32603)) hx hb d_E_run_50 (by decide) ?_
        obtain ⟨⟨g16, a17⟩, hc18, hm⟩ := bd_u hm
        dsimp only at hm
        have hst : St dC dI A s.heap H locs (oW 9 (LE 4) ksN spN tk LN gN aN (oW 8 (d7 z3).1.1 ksK spK tk (d7 z3).1.2.1 (d7 z3).2.1 (d7 z3).2.2.1 (oW 1 hE ksE spE tk LE gE aE (oW 6 ((d7 z3).1.2.1 0) ksT spT tk (d7 z3).1.2.2 (d7 z3).2.2.2.1 (d7 z3).2.2.2.2 (pO 8 ksK spK 0 tk d7 8 z3 (oW 7 (LE 3) ksQ spQ tk LQ g4 aQ (rA 5 (LQ 0) 8 tk (fun i => some (d7 i).1.1) rw))))))) := gr6 (a := (oX 8 (d7 z3).1.1 ksK spK tk (d7 z3).1.2.1 (d7 z3).2.1 (d7 z3).2.2.1)) (b := (oX 1 hE ksE spE tk LE gE aE)) (x := (oX 6 ((d7 z3).1.2.1 0) ksT spT tk (d7 z3).1.2.2 (d7 z3).2.2.2.1 (d7 z3).2.2.2.2)) (y := (pG 8 ksK spK 0 tk d7 8 z3)) (z := (oX 7 (LE 3) ksQ spQ tk LQ g4 aQ)) (u := (rX 5 (LQ 0) 8 tk (fun i => some (d7 i).1.1))) (v := (oX 9 (LE 4) ksN spN tk LN gN aN)) (r := rw) hst
        refine cl_vv hx hb hml hown hG hg (cN_addError l dC dI tk A (LE 4) LN gN aN (oW 8 (d7 z3).1.1 ksK spK tk (d7 z3).1.2.1 (d7 z3).2.1 (d7 z3).2.2.1 (oW 1 hE ksE spE tk LE gE aE (oW 6 ((d7 z3).1.2.1 0) ksT spT tk (d7 z3).1.2.2 (d7 z3).2.2.2.1 (d7 z3).2.2.2.2 (pO 8 ksK spK 0 tk d7 8 z3 (oW 7 (LE 3) ksQ spQ tk LQ g4 aQ (rA 5 (LQ 0) 8 tk (fun i => some (d7 i).1.1) rw)))))) n ((d7 z3).2.1 1) (-32603) _ _ hc18) (cw_v 2 hG k_524 k_525 k_526 k_9 k_527 (by decide +kernel) ⟨by decide, by decide⟩) hst rfl oW_0 rfl hl.1 rfl (Nat.le_of_ble_eq_true rfl) ⟨Nat.le_refl 0, Nat.le_refl 0⟩ d_E_run_53 (fun H locs hst => ?_)
        refine lv_goto (tgt := 71) hx hb d_E_run_56 (by decide) ?_
        refine lv_aload_n hx hb d_E_run_71 rfl (lv_at hl 1 rfl) ?_
        have hst : St dC dI A s.heap H locs (oW 8 (d7 z3).1.1 ksK spK tk (d7 z3).1.2.1 (d7 z3).2.1 (d7 z3).2.2.1 (oW 9 (LE 4) ksN spN tk LN g16 a17 (oW 1 hE ksE spE tk LE gE aE (oW 6 ((d7 z3).1.2.1 0) ksT spT tk (d7 z3).1.2.2 (d7 z3).2.2.2.1 (d7 z3).2.2.2.2 (pO 8 ksK spK 0 tk d7 8 z3 (oW 7 (LE 3) ksQ spQ tk LQ g4 aQ (rA 5 (LQ 0) 8 tk (fun i => some (d7 i).1.1) rw))))))) := gr1 (a := (oX 9 (LE 4) ksN spN tk LN g16 a17)) (b := (oX 8 (d7 z3).1.1 ksK spK tk (d7 z3).1.2.1 (d7 z3).2.1 (d7 z3).2.2.1)) (r := (oW 1 hE ksE spE tk LE gE aE (oW 6 ((d7 z3).1.2.1 0) ksT spT tk (d7 z3).1.2.2 (d7 z3).2.2.2.1 (d7 z3).2.2.2.2 (pO 8 ksK spK 0 tk d7 8 z3 (oW 7 (LE 3) ksQ spQ tk LQ g4 aQ (rA 5 (LQ 0) 8 tk (fun i => some (d7 i).1.1) rw)))))) hst
        refine rn_geti hx hb hown hG hg cK hst 1 (by decide) rfl rfl t_193 d_E_run_72 ?_
        have hst : St dC dI A s.heap H locs (pO 8 ksK spK 0 tk d7 8 z3 (oW 8 (d7 z3).1.1 ksK spK tk (d7 z3).1.2.1 (d7 z3).2.1 (d7 z3).2.2.1 (oW 9 (LE 4) ksN spN tk LN g16 a17 (oW 1 hE ksE spE tk LE gE aE (oW 6 ((d7 z3).1.2.1 0) ksT spT tk (d7 z3).1.2.2 (d7 z3).2.2.2.1 (d7 z3).2.2.2.2 (oW 7 (LE 3) ksQ spQ tk LQ g4 aQ (rA 5 (LQ 0) 8 tk (fun i => some (d7 i).1.1) rw))))))) := gr4 (a := (oX 8 (d7 z3).1.1 ksK spK tk (d7 z3).1.2.1 (d7 z3).2.1 (d7 z3).2.2.1)) (b := (oX 9 (LE 4) ksN spN tk LN g16 a17)) (x := (oX 1 hE ksE spE tk LE gE aE)) (y := (oX 6 ((d7 z3).1.2.1 0) ksT spT tk (d7 z3).1.2.2 (d7 z3).2.2.2.1 (d7 z3).2.2.2.2)) (z := (pG 8 ksK spK 0 tk d7 8 z3)) (r := (oW 7 (LE 3) ksQ spQ tk LQ g4 aQ (rA 5 (LQ 0) 8 tk (fun i => some (d7 i).1.1) rw))) hst
        have hst : St dC dI A s.heap H locs (oW 6 ((d7 z3).1.2.1 0) ksT spT tk (d7 z3).1.2.2 (d7 z3).2.2.2.1 (d7 z3).2.2.2.2 (pO 8 ksK spK 0 tk d7 8 z3 (oW 8 (d7 z3).1.1 ksK spK tk (d7 z3).1.2.1 (d7 z3).2.1 (d7 z3).2.2.1 (oW 9 (LE 4) ksN spN tk LN g16 a17 (oW 1 hE ksE spE tk LE gE aE (oW 7 (LE 3) ksQ spQ tk LQ g4 aQ (rA 5 (LQ 0) 8 tk (fun i => some (d7 i).1.1) rw))))))) := gr4 (a := (pG 8 ksK spK 0 tk d7 8 z3)) (b := (oX 8 (d7 z3).1.1 ksK spK tk (d7 z3).1.2.1 (d7 z3).2.1 (d7 z3).2.2.1)) (x := (oX 9 (LE 4) ksN spN tk LN g16 a17)) (y := (oX 1 hE ksE spE tk LE gE aE)) (z := (oX 6 ((d7 z3).1.2.1 0) ksT spT tk (d7 z3).1.2.2 (d7 z3).2.2.2.1 (d7 z3).2.2.2.2)) (r := (oW 7 (LE 3) ksQ spQ tk LQ g4 aQ (rA 5 (LQ 0) 8 tk (fun i => some (d7 i).1.1) rw))) hst
        have hst : St dC dI A s.heap H locs (oW 8 (d7 z3).1.1 ksK spK tk (d7 z3).1.2.1 (d7 z3).2.1 (d7 z3).2.2.1 (oW 6 ((d7 z3).1.2.1 0) ksT spT tk (d7 z3).1.2.2 (d7 z3).2.2.2.1 (d7 z3).2.2.2.2 (pO 8 ksK spK 0 tk d7 8 z3 (oW 9 (LE 4) ksN spN tk LN g16 a17 (oW 1 hE ksE spE tk LE gE aE (oW 7 (LE 3) ksQ spQ tk LQ g4 aQ (rA 5 (LQ 0) 8 tk (fun i => some (d7 i).1.1) rw))))))) := gr2 (a := (oX 6 ((d7 z3).1.2.1 0) ksT spT tk (d7 z3).1.2.2 (d7 z3).2.2.2.1 (d7 z3).2.2.2.2)) (b := (pG 8 ksK spK 0 tk d7 8 z3)) (x := (oX 8 (d7 z3).1.1 ksK spK tk (d7 z3).1.2.1 (d7 z3).2.1 (d7 z3).2.2.1)) (r := (oW 9 (LE 4) ksN spN tk LN g16 a17 (oW 1 hE ksE spE tk LE gE aE (oW 7 (LE 3) ksQ spQ tk LQ g4 aQ (rA 5 (LQ 0) 8 tk (fun i => some (d7 i).1.1) rw))))) hst
        have hst := unf0 (d := z3) hst (takeOut_lt hc5)
        have hst : St dC dI A s.heap H locs (rA 5 (LQ 0) 8 tk (fun i => some (d7 i).1.1) (pW 8 ksK spK 0 tk d7 8 (oW 9 (LE 4) ksN spN tk LN g16 a17 (oW 1 hE ksE spE tk LE gE aE (oW 7 (LE 3) ksQ spQ tk LQ g4 aQ rw))))) := gr4 (a := (pF 8 ksK spK 0 tk d7 8)) (b := (oX 9 (LE 4) ksN spN tk LN g16 a17)) (x := (oX 1 hE ksE spE tk LE gE aE)) (y := (oX 7 (LE 3) ksQ spQ tk LQ g4 aQ)) (z := (rX 5 (LQ 0) 8 tk (fun i => some (d7 i).1.1))) (r := rw) hst
        have hst : St dC dI A s.heap H locs (oW 7 (LE 3) ksQ spQ tk LQ g4 aQ (rA 5 (LQ 0) 8 tk (fun i => some (d7 i).1.1) (pW 8 ksK spK 0 tk d7 8 (oW 9 (LE 4) ksN spN tk LN g16 a17 (oW 1 hE ksE spE tk LE gE aE rw))))) := gr4 (a := (rX 5 (LQ 0) 8 tk (fun i => some (d7 i).1.1))) (b := (pF 8 ksK spK 0 tk d7 8)) (x := (oX 9 (LE 4) ksN spN tk LN g16 a17)) (y := (oX 1 hE ksE spE tk LE gE aE)) (z := (oX 7 (LE 3) ksQ spQ tk LQ g4 aQ)) (r := rw) hst
        have hst : St dC dI A s.heap H locs (oW 9 (LE 4) ksN spN tk LN g16 a17 (oW 7 (LE 3) ksQ spQ tk LQ g4 aQ (rA 5 (LQ 0) 8 tk (fun i => some (d7 i).1.1) (pW 8 ksK spK 0 tk d7 8 (oW 1 hE ksE spE tk LE gE aE rw))))) := gr3 (a := (oX 7 (LE 3) ksQ spQ tk LQ g4 aQ)) (b := (rX 5 (LQ 0) 8 tk (fun i => some (d7 i).1.1))) (x := (pF 8 ksK spK 0 tk d7 8)) (y := (oX 9 (LE 4) ksN spN tk LN g16 a17)) (r := (oW 1 hE ksE spE tk LE gE aE rw)) hst
        have hst : St dC dI A s.heap H locs (oW 1 hE ksE spE tk LE gE aE (oW 9 (LE 4) ksN spN tk LN g16 a17 (oW 7 (LE 3) ksQ spQ tk LQ g4 aQ (rA 5 (LQ 0) 8 tk (fun i => some (d7 i).1.1) (pW 8 ksK spK 0 tk d7 8 rw))))) := gr4 (a := (oX 9 (LE 4) ksN spN tk LN g16 a17)) (b := (oX 7 (LE 3) ksQ spQ tk LQ g4 aQ)) (x := (rX 5 (LQ 0) 8 tk (fun i => some (d7 i).1.1))) (y := (pF 8 ksK spK 0 tk d7 8)) (z := (oX 1 hE ksE spE tk LE gE aE)) (r := rw) hst
        have hst9 := hst
        have he := (Option.some.inj hm)
        cases he
        exact rt_i hx hb hr hlk rfl hst9 rfl d_E_run_75
    · have hm := it_f hm h2
      cases hm
def mE_response (n : Nat) (v1 : Int32) (v2 : Int32) (gE : aG) (aE : aA) (gN : aG) (aN : aA) : Option (Int32) := if v1 < 0 then (none) else (if v1 < (gN 5) then (if v2 = 0 then (gd (inb v1 60) (lt (aN 0 v1.toNatClampNeg) (fun x5 => some (x5)))) else (if v2 = 1 then (gd (inb v1 60) (lt (aN 1 v1.toNatClampNeg) (fun x8 => if x8 = 0 then (some (0)) else (some (1))))) else (if v2 = 2 then (gd (inb v1 60) (lt (aN 2 v1.toNatClampNeg) (fun x12 => if x12 = 0 then (some (0)) else (some (1))))) else (if v2 = 3 then (gd (inb v1 60) (lt (aN 3 v1.toNatClampNeg) (fun x16 => some (x16)))) else (none))))) else (none))
theorem d_E_response_0 : decode prog_1_method_9_code 0 = .ok (.iload_n 1, 1) := by decide +kernel
theorem d_E_response_1 : decode prog_1_method_9_code 1 = .ok (.ifCond .lt 14, 3) := by decide +kernel
theorem d_E_response_4 : decode prog_1_method_9_code 4 = .ok (.iload_n 1, 1) := by decide +kernel
theorem d_E_response_5 : decode prog_1_method_9_code 5 = .ok (.aload_n 0, 1) := by decide +kernel
theorem d_E_response_6 : decode prog_1_method_9_code 6 = .ok (.getfield 46, 3) := by decide +kernel
theorem d_E_response_9 : decode prog_1_method_9_code 9 = .ok (.getfield 108, 3) := by decide +kernel
theorem d_E_response_12 : decode prog_1_method_9_code 12 = .ok (.if_icmp .lt 11, 3) := by decide +kernel
theorem d_E_response_15 : decode prog_1_method_9_code 15 = .ok (.new 81, 3) := by decide +kernel
theorem d_E_response_18 : decode prog_1_method_9_code 18 = .ok (.dup, 1) := by decide +kernel
theorem d_E_response_19 : decode prog_1_method_9_code 19 = .ok (.invokespecial 83, 3) := by decide +kernel
theorem d_E_response_22 : decode prog_1_method_9_code 22 = .ok (.athrow, 1) := by decide +kernel
theorem d_E_response_23 : decode prog_1_method_9_code 23 = .ok (.iload_n 2, 1) := by decide +kernel
theorem d_E_response_24 : decode prog_1_method_9_code 24 = .ok (.tableswitch 88 0 3 #[32, 42, 60, 78], 32) := by decide +kernel
theorem d_E_response_56 : decode prog_1_method_9_code 56 = .ok (.aload_n 0, 1) := by decide +kernel
theorem d_E_response_57 : decode prog_1_method_9_code 57 = .ok (.getfield 46, 3) := by decide +kernel
theorem d_E_response_60 : decode prog_1_method_9_code 60 = .ok (.getfield 109, 3) := by decide +kernel
theorem d_E_response_63 : decode prog_1_method_9_code 63 = .ok (.iload_n 1, 1) := by decide +kernel
theorem d_E_response_64 : decode prog_1_method_9_code 64 = .ok (.iaload, 1) := by decide +kernel
theorem d_E_response_65 : decode prog_1_method_9_code 65 = .ok (.ireturn, 1) := by decide +kernel
theorem d_E_response_66 : decode prog_1_method_9_code 66 = .ok (.aload_n 0, 1) := by decide +kernel
theorem d_E_response_67 : decode prog_1_method_9_code 67 = .ok (.getfield 46, 3) := by decide +kernel
theorem d_E_response_70 : decode prog_1_method_9_code 70 = .ok (.getfield 113, 3) := by decide +kernel
theorem d_E_response_73 : decode prog_1_method_9_code 73 = .ok (.iload_n 1, 1) := by decide +kernel
theorem d_E_response_74 : decode prog_1_method_9_code 74 = .ok (.baload, 1) := by decide +kernel
theorem d_E_response_75 : decode prog_1_method_9_code 75 = .ok (.ifCond .eq 7, 3) := by decide +kernel
theorem d_E_response_78 : decode prog_1_method_9_code 78 = .ok (.iconst 1, 1) := by decide +kernel
theorem d_E_response_79 : decode prog_1_method_9_code 79 = .ok (.goto 4, 3) := by decide +kernel
theorem d_E_response_82 : decode prog_1_method_9_code 82 = .ok (.iconst 0, 1) := by decide +kernel
theorem d_E_response_83 : decode prog_1_method_9_code 83 = .ok (.ireturn, 1) := by decide +kernel
theorem d_E_response_84 : decode prog_1_method_9_code 84 = .ok (.aload_n 0, 1) := by decide +kernel
theorem d_E_response_85 : decode prog_1_method_9_code 85 = .ok (.getfield 46, 3) := by decide +kernel
theorem d_E_response_88 : decode prog_1_method_9_code 88 = .ok (.getfield 117, 3) := by decide +kernel
theorem d_E_response_91 : decode prog_1_method_9_code 91 = .ok (.iload_n 1, 1) := by decide +kernel
theorem d_E_response_92 : decode prog_1_method_9_code 92 = .ok (.baload, 1) := by decide +kernel
theorem d_E_response_93 : decode prog_1_method_9_code 93 = .ok (.ifCond .eq 7, 3) := by decide +kernel
theorem d_E_response_96 : decode prog_1_method_9_code 96 = .ok (.iconst 1, 1) := by decide +kernel
theorem d_E_response_97 : decode prog_1_method_9_code 97 = .ok (.goto 4, 3) := by decide +kernel
theorem d_E_response_100 : decode prog_1_method_9_code 100 = .ok (.iconst 0, 1) := by decide +kernel
theorem d_E_response_101 : decode prog_1_method_9_code 101 = .ok (.ireturn, 1) := by decide +kernel
theorem d_E_response_102 : decode prog_1_method_9_code 102 = .ok (.aload_n 0, 1) := by decide +kernel
theorem d_E_response_103 : decode prog_1_method_9_code 103 = .ok (.getfield 46, 3) := by decide +kernel
theorem d_E_response_106 : decode prog_1_method_9_code 106 = .ok (.getfield 120, 3) := by decide +kernel
theorem d_E_response_109 : decode prog_1_method_9_code 109 = .ok (.iload_n 1, 1) := by decide +kernel
theorem d_E_response_110 : decode prog_1_method_9_code 110 = .ok (.iaload, 1) := by decide +kernel
theorem d_E_response_111 : decode prog_1_method_9_code 111 = .ok (.ireturn, 1) := by decide +kernel
theorem d_E_response_112 : decode prog_1_method_9_code 112 = .ok (.new 123, 3) := by decide +kernel
theorem d_E_response_115 : decode prog_1_method_9_code 115 = .ok (.dup, 1) := by decide +kernel
theorem d_E_response_116 : decode prog_1_method_9_code 116 = .ok (.invokespecial 125, 3) := by decide +kernel
theorem d_E_response_119 : decode prog_1_method_9_code 119 = .ok (.athrow, 1) := by decide +kernel
set_option maxHeartbeats 4000000 in
set_option maxRecDepth 100000 in
theorem cE_response (l : Launch) (dC : Nat → ClassId) (dI : Nat → Nat → Nat) (tk : Nat → ClassId) (A : Nat → Prop) (hE : Nat) (LE : Nat → Nat) (gE : aG) (aE : aA) (LN : Nat → Nat) (gN : aG) (aN : aA) (rw : va_W) (n : Nat) (v1 : Int32) (v2 : Int32) (r0 : Int32) (hm : mE_response n v1 v2 gE aE gN aN = some r0) : CtI l dC dI tk A ⟨"EditorServer", "response", "(II)I"⟩ prog_1_method_9_code 3 (some .int) 0 0 [.ref hE, .int v1, .int v2] (oW 1 hE ksE spE tk LE gE aE (oW 9 (LE 4) ksN spN tk LN gN aN rw)) r0 (oW 1 hE ksE spE tk LE gE aE (oW 9 (LE 4) ksN spN tk LN gN aN rw)) := by
  refine ent (by decide) (Nat.le_of_ble_eq_true rfl) ?_
  intro p e s m args below meth c hx hb hr hml hown hlk hG hg hst ls hl
  unfold mE_response at hm
  have hl : lv_has ls 3 [(0, .ref hE), (1, .int v1), (2, .int v2)] := hl
  obtain ⟨H, hH⟩ : ∃ H, H = s.heap := ⟨_, rfl⟩
  obtain ⟨locs, hlc⟩ : ∃ locs : List Loc, locs = [] := ⟨_, rfl⟩
  have hst : St dC dI A s.heap H locs (oW 1 hE ksE spE tk LE gE aE (oW 9 (LE 4) ksN spN tk LN gN aN rw)) := by rw [hH, hlc]; exact hst
  suffices hw : W p l e (rmo 0 0) s m args below meth c H locs 0 0 (MQ below (QI dC dI A r0 (oW 1 hE ksE spE tk LE gE aE (oW 9 (LE 4) ksN spN tk LN gN aN rw))) args s 0 0 A) (F0 m 0 ls []) by rw [hH, hlc] at hw; exact hw
  refine lv_iload_n hx hb d_E_response_0 rfl (lv_at hl 1 rfl) ?_
  refine lv_if_lt (tgt := 15) hx hb d_E_response_1 (by decide) (fun h1 => ?_) (fun h1 => ?_)
  · have hm := it_t hm h1
    cases hm
  · have hm := it_f hm h1
    refine lv_iload_n hx hb d_E_response_4 rfl (lv_at hl 1 rfl) ?_
    refine lv_aload_n hx hb d_E_response_5 rfl (lv_at hl 0 rfl) ?_
    refine ro_geta hx hb hown hG hg cE hst 4 4 (by decide) rfl rfl k_288 d_E_response_6 ?_
    have hst : St dC dI A s.heap H locs (oW 9 (LE 4) ksN spN tk LN gN aN (oW 1 hE ksE spE tk LE gE aE rw)) := gr1 (a := (oX 1 hE ksE spE tk LE gE aE)) (b := (oX 9 (LE 4) ksN spN tk LN gN aN)) (r := rw) hst
    refine rn_geti hx hb hown hG hg cN hst 5 (by decide) rfl rfl t_270 d_E_response_9 ?_
    refine lv_icmp_lt (tgt := 23) hx hb d_E_response_12 (by decide) (fun h2 => ?_) (fun h2 => ?_)
    · have hm := it_t hm h2
      refine lv_iload_n hx hb d_E_response_23 rfl (lv_at hl 2 rfl) ?_
      by_cases h3 : v2 = 0
      · have hm := it_t hm h3
        refine lv_tableIn (off := 32) (tgt := 56) hx hb d_E_response_24 (by rw [h3]; decide) (by rw [h3]; decide) (by rw [h3]; rfl) (by decide) ?_
        refine lv_aload_n hx hb d_E_response_56 rfl (lv_at hl 0 rfl) ?_
        have hst : St dC dI A s.heap H locs (oW 1 hE ksE spE tk LE gE aE (oW 9 (LE 4) ksN spN tk LN gN aN rw)) := gr1 (a := (oX 9 (LE 4) ksN spN tk LN gN aN)) (b := (oX 1 hE ksE spE tk LE gE aE)) (r := rw) hst
        refine ro_geta hx hb hown hG hg cE hst 4 4 (by decide) rfl rfl k_288 d_E_response_57 ?_
        have hst : St dC dI A s.heap H locs (oW 9 (LE 4) ksN spN tk LN gN aN (oW 1 hE ksE spE tk LE gE aE rw)) := gr1 (a := (oX 1 hE ksE spE tk LE gE aE)) (b := (oX 9 (LE 4) ksN spN tk LN gN aN)) (r := rw) hst
        refine rn_geta hx hb hown hG hg cN hst 0 0 (by decide) rfl rfl t_261 d_E_response_60 ?_
        refine lv_iload_n hx hb d_E_response_63 rfl (lv_at hl 1 rfl) ?_
        obtain ⟨hn4, hm⟩ := gd_u hm
        refine ro_iald hx hb hg hst 0 rfl hn4 d_E_response_64 ?_
        refine lv_topi (fun x5 ex5 => ?_)
        have hm := lt_u hm x5 ex5
        have hst : St dC dI A s.heap H locs (oW 1 hE ksE spE tk LE gE aE (oW 9 (LE 4) ksN spN tk LN gN aN rw)) := gr1 (a := (oX 9 (LE 4) ksN spN tk LN gN aN)) (b := (oX 1 hE ksE spE tk LE gE aE)) (r := rw) hst
        have hst9 := hst
        have he := (Option.some.inj hm)
        cases he
        exact rt_i hx hb hr hlk rfl hst9 rfl d_E_response_65
      have hm := it_f hm h3
      by_cases h6 : v2 = 1
      · have hm := it_t hm h6
        refine lv_tableIn (off := 42) (tgt := 66) hx hb d_E_response_24 (by rw [h6]; decide) (by rw [h6]; decide) (by rw [h6]; rfl) (by decide) ?_
        refine lv_aload_n hx hb d_E_response_66 rfl (lv_at hl 0 rfl) ?_
        have hst : St dC dI A s.heap H locs (oW 1 hE ksE spE tk LE gE aE (oW 9 (LE 4) ksN spN tk LN gN aN rw)) := gr1 (a := (oX 9 (LE 4) ksN spN tk LN gN aN)) (b := (oX 1 hE ksE spE tk LE gE aE)) (r := rw) hst
        refine ro_geta hx hb hown hG hg cE hst 4 4 (by decide) rfl rfl k_288 d_E_response_67 ?_
        have hst : St dC dI A s.heap H locs (oW 9 (LE 4) ksN spN tk LN gN aN (oW 1 hE ksE spE tk LE gE aE rw)) := gr1 (a := (oX 1 hE ksE spE tk LE gE aE)) (b := (oX 9 (LE 4) ksN spN tk LN gN aN)) (r := rw) hst
        refine rn_geta hx hb hown hG hg cN hst 1 1 (by decide) rfl rfl t_263 d_E_response_70 ?_
        refine lv_iload_n hx hb d_E_response_73 rfl (lv_at hl 1 rfl) ?_
        obtain ⟨hn7, hm⟩ := gd_u hm
        refine ro_zald hx hb hg hst 1 rfl hn7 d_E_response_74 ?_
        refine lv_topi (fun x8 ex8 => ?_)
        have hm := lt_u hm x8 ex8
        refine lv_if_eq (tgt := 82) hx hb d_E_response_75 (by decide) (fun h9 => ?_) (fun h9 => ?_)
        · have hm := it_t hm h9
          refine lv_iconst (v := 0) hx hb d_E_response_82 (by decide) ?_
          have hst : St dC dI A s.heap H locs (oW 1 hE ksE spE tk LE gE aE (oW 9 (LE 4) ksN spN tk LN gN aN rw)) := gr1 (a := (oX 9 (LE 4) ksN spN tk LN gN aN)) (b := (oX 1 hE ksE spE tk LE gE aE)) (r := rw) hst
          have hst9 := hst
          have he := (Option.some.inj hm)
          cases he
          exact rt_i hx hb hr hlk rfl hst9 rfl d_E_response_83
        · have hm := it_f hm h9
          refine lv_iconst (v := 1) hx hb d_E_response_78 (by decide) ?_
          refine lv_goto (tgt := 83) hx hb d_E_response_79 (by decide) ?_
          have hst : St dC dI A s.heap H locs (oW 1 hE ksE spE tk LE gE aE (oW 9 (LE 4) ksN spN tk LN gN aN rw)) := gr1 (a := (oX 9 (LE 4) ksN spN tk LN gN aN)) (b := (oX 1 hE ksE spE tk LE gE aE)) (r := rw) hst
          have hst9 := hst
          have he := (Option.some.inj hm)
          cases he
          exact rt_i hx hb hr hlk rfl hst9 rfl d_E_response_83
      have hm := it_f hm h6
      by_cases h10 : v2 = 2
      · have hm := it_t hm h10
        refine lv_tableIn (off := 60) (tgt := 84) hx hb d_E_response_24 (by rw [h10]; decide) (by rw [h10]; decide) (by rw [h10]; rfl) (by decide) ?_
        refine lv_aload_n hx hb d_E_response_84 rfl (lv_at hl 0 rfl) ?_
        have hst : St dC dI A s.heap H locs (oW 1 hE ksE spE tk LE gE aE (oW 9 (LE 4) ksN spN tk LN gN aN rw)) := gr1 (a := (oX 9 (LE 4) ksN spN tk LN gN aN)) (b := (oX 1 hE ksE spE tk LE gE aE)) (r := rw) hst
        refine ro_geta hx hb hown hG hg cE hst 4 4 (by decide) rfl rfl k_288 d_E_response_85 ?_
        have hst : St dC dI A s.heap H locs (oW 9 (LE 4) ksN spN tk LN gN aN (oW 1 hE ksE spE tk LE gE aE rw)) := gr1 (a := (oX 1 hE ksE spE tk LE gE aE)) (b := (oX 9 (LE 4) ksN spN tk LN gN aN)) (r := rw) hst
        refine rn_geta hx hb hown hG hg cN hst 2 2 (by decide) rfl rfl t_265 d_E_response_88 ?_
        refine lv_iload_n hx hb d_E_response_91 rfl (lv_at hl 1 rfl) ?_
        obtain ⟨hn11, hm⟩ := gd_u hm
        refine ro_zald hx hb hg hst 2 rfl hn11 d_E_response_92 ?_
        refine lv_topi (fun x12 ex12 => ?_)
        have hm := lt_u hm x12 ex12
        refine lv_if_eq (tgt := 100) hx hb d_E_response_93 (by decide) (fun h13 => ?_) (fun h13 => ?_)
        · have hm := it_t hm h13
          refine lv_iconst (v := 0) hx hb d_E_response_100 (by decide) ?_
          have hst : St dC dI A s.heap H locs (oW 1 hE ksE spE tk LE gE aE (oW 9 (LE 4) ksN spN tk LN gN aN rw)) := gr1 (a := (oX 9 (LE 4) ksN spN tk LN gN aN)) (b := (oX 1 hE ksE spE tk LE gE aE)) (r := rw) hst
          have hst9 := hst
          have he := (Option.some.inj hm)
          cases he
          exact rt_i hx hb hr hlk rfl hst9 rfl d_E_response_101
        · have hm := it_f hm h13
          refine lv_iconst (v := 1) hx hb d_E_response_96 (by decide) ?_
          refine lv_goto (tgt := 101) hx hb d_E_response_97 (by decide) ?_
          have hst : St dC dI A s.heap H locs (oW 1 hE ksE spE tk LE gE aE (oW 9 (LE 4) ksN spN tk LN gN aN rw)) := gr1 (a := (oX 9 (LE 4) ksN spN tk LN gN aN)) (b := (oX 1 hE ksE spE tk LE gE aE)) (r := rw) hst
          have hst9 := hst
          have he := (Option.some.inj hm)
          cases he
          exact rt_i hx hb hr hlk rfl hst9 rfl d_E_response_101
      have hm := it_f hm h10
      by_cases h14 : v2 = 3
      · have hm := it_t hm h14
        refine lv_tableIn (off := 78) (tgt := 102) hx hb d_E_response_24 (by rw [h14]; decide) (by rw [h14]; decide) (by rw [h14]; rfl) (by decide) ?_
        refine lv_aload_n hx hb d_E_response_102 rfl (lv_at hl 0 rfl) ?_
        have hst : St dC dI A s.heap H locs (oW 1 hE ksE spE tk LE gE aE (oW 9 (LE 4) ksN spN tk LN gN aN rw)) := gr1 (a := (oX 9 (LE 4) ksN spN tk LN gN aN)) (b := (oX 1 hE ksE spE tk LE gE aE)) (r := rw) hst
        refine ro_geta hx hb hown hG hg cE hst 4 4 (by decide) rfl rfl k_288 d_E_response_103 ?_
        have hst : St dC dI A s.heap H locs (oW 9 (LE 4) ksN spN tk LN gN aN (oW 1 hE ksE spE tk LE gE aE rw)) := gr1 (a := (oX 1 hE ksE spE tk LE gE aE)) (b := (oX 9 (LE 4) ksN spN tk LN gN aN)) (r := rw) hst
        refine rn_geta hx hb hown hG hg cN hst 3 3 (by decide) rfl rfl t_267 d_E_response_106 ?_
        refine lv_iload_n hx hb d_E_response_109 rfl (lv_at hl 1 rfl) ?_
        obtain ⟨hn15, hm⟩ := gd_u hm
        refine ro_iald hx hb hg hst 3 rfl hn15 d_E_response_110 ?_
        refine lv_topi (fun x16 ex16 => ?_)
        have hm := lt_u hm x16 ex16
        have hst : St dC dI A s.heap H locs (oW 1 hE ksE spE tk LE gE aE (oW 9 (LE 4) ksN spN tk LN gN aN rw)) := gr1 (a := (oX 9 (LE 4) ksN spN tk LN gN aN)) (b := (oX 1 hE ksE spE tk LE gE aE)) (r := rw) hst
        have hst9 := hst
        have he := (Option.some.inj hm)
        cases he
        exact rt_i hx hb hr hlk rfl hst9 rfl d_E_response_111
      have hm := it_f hm h14
      refine lv_tableOut (tgt := 112) hx hb d_E_response_24 (sw_out4 h3 h6 h10 h14) (by decide) ?_
      cases hm
    · have hm := it_f hm h2
      cases hm
def mE_document (n : Nat) (v1 : Int32) (v2 : Int32) (gE : aG) (aE : aA) (gS : aG) (aS : aA) (dP : aP) : Option (Int32) := if v1 < 0 then (none) else (if v1 < (gS 2) then (gd (inb v1 3) (if v2 = 0 then (some (((dP v1.toNatClampNeg).2.1 3))) else (if v2 = 1 then (some (((dP v1.toNatClampNeg).2.2.2.1 1))) else (if v2 = 2 then (some (((dP v1.toNatClampNeg).2.1 2))) else (if v2 = 3 then (bd (mT_lineCount n ((dP v1.toNatClampNeg).2.2.2.1) ((dP v1.toNatClampNeg).2.2.2.2)) (fun x8 => some (x8))) else (none)))))) else (none))
theorem d_E_document_0 : decode prog_1_method_13_code 0 = .ok (.iload_n 1, 1) := by decide +kernel
theorem d_E_document_1 : decode prog_1_method_13_code 1 = .ok (.ifCond .lt 14, 3) := by decide +kernel
theorem d_E_document_4 : decode prog_1_method_13_code 4 = .ok (.iload_n 1, 1) := by decide +kernel
theorem d_E_document_5 : decode prog_1_method_13_code 5 = .ok (.aload_n 0, 1) := by decide +kernel
theorem d_E_document_6 : decode prog_1_method_13_code 6 = .ok (.getfield 32, 3) := by decide +kernel
theorem d_E_document_9 : decode prog_1_method_13_code 9 = .ok (.getfield 133, 3) := by decide +kernel
theorem d_E_document_12 : decode prog_1_method_13_code 12 = .ok (.if_icmp .lt 11, 3) := by decide +kernel
theorem d_E_document_15 : decode prog_1_method_13_code 15 = .ok (.new 81, 3) := by decide +kernel
theorem d_E_document_18 : decode prog_1_method_13_code 18 = .ok (.dup, 1) := by decide +kernel
theorem d_E_document_19 : decode prog_1_method_13_code 19 = .ok (.invokespecial 83, 3) := by decide +kernel
theorem d_E_document_22 : decode prog_1_method_13_code 22 = .ok (.athrow, 1) := by decide +kernel
theorem d_E_document_23 : decode prog_1_method_13_code 23 = .ok (.aload_n 0, 1) := by decide +kernel
theorem d_E_document_24 : decode prog_1_method_13_code 24 = .ok (.getfield 32, 3) := by decide +kernel
theorem d_E_document_27 : decode prog_1_method_13_code 27 = .ok (.getfield 134, 3) := by decide +kernel
theorem d_E_document_30 : decode prog_1_method_13_code 30 = .ok (.iload_n 1, 1) := by decide +kernel
theorem d_E_document_31 : decode prog_1_method_13_code 31 = .ok (.aaload, 1) := by decide +kernel
theorem d_E_document_32 : decode prog_1_method_13_code 32 = .ok (.astore_n 3, 1) := by decide +kernel
theorem d_E_document_33 : decode prog_1_method_13_code 33 = .ok (.iload_n 2, 1) := by decide +kernel
theorem d_E_document_34 : decode prog_1_method_13_code 34 = .ok (.tableswitch 56 0 3 #[30, 35, 43, 48], 30) := by decide +kernel
theorem d_E_document_64 : decode prog_1_method_13_code 64 = .ok (.aload_n 3, 1) := by decide +kernel
theorem d_E_document_65 : decode prog_1_method_13_code 65 = .ok (.getfield 137, 3) := by decide +kernel
theorem d_E_document_68 : decode prog_1_method_13_code 68 = .ok (.ireturn, 1) := by decide +kernel
theorem d_E_document_69 : decode prog_1_method_13_code 69 = .ok (.aload_n 3, 1) := by decide +kernel
theorem d_E_document_70 : decode prog_1_method_13_code 70 = .ok (.getfield 142, 3) := by decide +kernel
theorem d_E_document_73 : decode prog_1_method_13_code 73 = .ok (.getfield 146, 3) := by decide +kernel
theorem d_E_document_76 : decode prog_1_method_13_code 76 = .ok (.ireturn, 1) := by decide +kernel
theorem d_E_document_77 : decode prog_1_method_13_code 77 = .ok (.aload_n 3, 1) := by decide +kernel
theorem d_E_document_78 : decode prog_1_method_13_code 78 = .ok (.getfield 151, 3) := by decide +kernel
theorem d_E_document_81 : decode prog_1_method_13_code 81 = .ok (.ireturn, 1) := by decide +kernel
theorem d_E_document_82 : decode prog_1_method_13_code 82 = .ok (.aload_n 3, 1) := by decide +kernel
theorem d_E_document_83 : decode prog_1_method_13_code 83 = .ok (.getfield 142, 3) := by decide +kernel
theorem d_E_document_86 : decode prog_1_method_13_code 86 = .ok (.invokevirtual 154, 3) := by decide +kernel
theorem d_E_document_89 : decode prog_1_method_13_code 89 = .ok (.ireturn, 1) := by decide +kernel
theorem d_E_document_90 : decode prog_1_method_13_code 90 = .ok (.new 123, 3) := by decide +kernel
theorem d_E_document_93 : decode prog_1_method_13_code 93 = .ok (.dup, 1) := by decide +kernel
theorem d_E_document_94 : decode prog_1_method_13_code 94 = .ok (.invokespecial 125, 3) := by decide +kernel
theorem d_E_document_97 : decode prog_1_method_13_code 97 = .ok (.athrow, 1) := by decide +kernel
set_option maxHeartbeats 4000000 in
set_option maxRecDepth 100000 in
theorem cE_document (l : Launch) (dC : Nat → ClassId) (dI : Nat → Nat → Nat) (tk : Nat → ClassId) (A : Nat → Prop) (hE : Nat) (LE : Nat → Nat) (gE : aG) (aE : aA) (LS : Nat → Nat) (gS : aG) (aS : aA) (dP : aP) (rw : va_W) (n : Nat) (v1 : Int32) (v2 : Int32) (r0 : Int32) (hm : mE_document n v1 v2 gE aE gS aS dP = some r0) : CtI l dC dI tk A ⟨"EditorServer", "document", "(II)I"⟩ prog_1_method_13_code 4 (some .int) 1 22 [.ref hE, .int v1, .int v2] (oW 1 hE ksE spE tk LE gE aE (oW 4 (LE 2) ksS spS tk LS gS aS (rA 4 (LS 0) 3 tk (fun i => some (dP i).1.1) (pW 5 ksD spD 1 tk dP 3 rw)))) r0 (oW 1 hE ksE spE tk LE gE aE (oW 4 (LE 2) ksS spS tk LS gS aS (rA 4 (LS 0) 3 tk (fun i => some (dP i).1.1) (pW 5 ksD spD 1 tk dP 3 rw)))) := by
  refine ent (by decide) (Nat.le_of_ble_eq_true rfl) ?_
  intro p e s m args below meth c hx hb hr hml hown hlk hG hg hst ls hl
  unfold mE_document at hm
  have hl : lv_has ls 4 [(0, .ref hE), (1, .int v1), (2, .int v2)] := hl
  obtain ⟨H, hH⟩ : ∃ H, H = s.heap := ⟨_, rfl⟩
  obtain ⟨locs, hlc⟩ : ∃ locs : List Loc, locs = [] := ⟨_, rfl⟩
  have hst : St dC dI A s.heap H locs (oW 1 hE ksE spE tk LE gE aE (oW 4 (LE 2) ksS spS tk LS gS aS (rA 4 (LS 0) 3 tk (fun i => some (dP i).1.1) (pW 5 ksD spD 1 tk dP 3 rw)))) := by rw [hH, hlc]; exact hst
  suffices hw : W p l e (rmo 1 22) s m args below meth c H locs 0 0 (MQ below (QI dC dI A r0 (oW 1 hE ksE spE tk LE gE aE (oW 4 (LE 2) ksS spS tk LS gS aS (rA 4 (LS 0) 3 tk (fun i => some (dP i).1.1) (pW 5 ksD spD 1 tk dP 3 rw))))) args s 0 0 A) (F0 m 0 ls []) by rw [hH, hlc] at hw; exact hw
  refine lv_iload_n hx hb d_E_document_0 rfl (lv_at hl 1 rfl) ?_
  refine lv_if_lt (tgt := 15) hx hb d_E_document_1 (by decide) (fun h1 => ?_) (fun h1 => ?_)
  · have hm := it_t hm h1
    cases hm
  · have hm := it_f hm h1
    refine lv_iload_n hx hb d_E_document_4 rfl (lv_at hl 1 rfl) ?_
    refine lv_aload_n hx hb d_E_document_5 rfl (lv_at hl 0 rfl) ?_
    refine ro_geta hx hb hown hG hg cE hst 2 2 (by decide) rfl rfl k_286 d_E_document_6 ?_
    have hst : St dC dI A s.heap H locs (oW 4 (LE 2) ksS spS tk LS gS aS (oW 1 hE ksE spE tk LE gE aE (rA 4 (LS 0) 3 tk (fun i => some (dP i).1.1) (pW 5 ksD spD 1 tk dP 3 rw)))) := gr1 (a := (oX 1 hE ksE spE tk LE gE aE)) (b := (oX 4 (LE 2) ksS spS tk LS gS aS)) (r := (rA 4 (LS 0) 3 tk (fun i => some (dP i).1.1) (pW 5 ksD spD 1 tk dP 3 rw))) hst
    refine rn_geti hx hb hown hG hg cS hst 2 (by decide) rfl rfl t_167 d_E_document_9 ?_
    refine lv_icmp_lt (tgt := 23) hx hb d_E_document_12 (by decide) (fun h2 => ?_) (fun h2 => ?_)
    · have hm := it_t hm h2
      refine lv_aload_n hx hb d_E_document_23 rfl (lv_at hl 0 rfl) ?_
      have hst : St dC dI A s.heap H locs (oW 1 hE ksE spE tk LE gE aE (oW 4 (LE 2) ksS spS tk LS gS aS (rA 4 (LS 0) 3 tk (fun i => some (dP i).1.1) (pW 5 ksD spD 1 tk dP 3 rw)))) := gr1 (a := (oX 4 (LE 2) ksS spS tk LS gS aS)) (b := (oX 1 hE ksE spE tk LE gE aE)) (r := (rA 4 (LS 0) 3 tk (fun i => some (dP i).1.1) (pW 5 ksD spD 1 tk dP 3 rw))) hst
      refine ro_geta hx hb hown hG hg cE hst 2 2 (by decide) rfl rfl k_286 d_E_document_24 ?_
      have hst : St dC dI A s.heap H locs (oW 4 (LE 2) ksS spS tk LS gS aS (oW 1 hE ksE spE tk LE gE aE (rA 4 (LS 0) 3 tk (fun i => some (dP i).1.1) (pW 5 ksD spD 1 tk dP 3 rw)))) := gr1 (a := (oX 1 hE ksE spE tk LE gE aE)) (b := (oX 4 (LE 2) ksS spS tk LS gS aS)) (r := (rA 4 (LS 0) 3 tk (fun i => some (dP i).1.1) (pW 5 ksD spD 1 tk dP 3 rw))) hst
      refine rn_geta hx hb hown hG hg cS hst 0 0 (by decide) rfl rfl t_164 d_E_document_27 ?_
      refine lv_iload_n hx hb d_E_document_30 rfl (lv_at hl 1 rfl) ?_
      obtain ⟨hn3, hm⟩ := gd_u hm
      have hst : St dC dI A s.heap H locs (rA 4 (LS 0) 3 tk (fun i => some (dP i).1.1) (oW 4 (LE 2) ksS spS tk LS gS aS (oW 1 hE ksE spE tk LE gE aE (pW 5 ksD spD 1 tk dP 3 rw)))) := gr2 (a := (oX 4 (LE 2) ksS spS tk LS gS aS)) (b := (oX 1 hE ksE spE tk LE gE aE)) (x := (rX 4 (LS 0) 3 tk (fun i => some (dP i).1.1))) (r := (pW 5 ksD spD 1 tk dP 3 rw)) hst
      refine ro_aald (a := (dP v1.toNatClampNeg).1.1) hx hb hg hst rfl hn3 rfl d_E_document_31 ?_
      refine lv_astore_n (lv' := [(3, .ref (dP v1.toNatClampNeg).1.1), (0, .ref hE), (1, .int v1), (2, .int v2)]) hx hb d_E_document_32 rfl hl (by decide) rfl (fun ls hl => ?_)
      refine lv_iload_n hx hb d_E_document_33 rfl (lv_at hl 3 rfl) ?_
      by_cases h4 : v2 = 0
      · have hm := it_t hm h4
        refine lv_tableIn (off := 30) (tgt := 64) hx hb d_E_document_34 (by rw [h4]; decide) (by rw [h4]; decide) (by rw [h4]; rfl) (by decide) ?_
        refine lv_aload_n hx hb d_E_document_64 rfl (lv_at hl 0 rfl) ?_
        have hst : St dC dI A s.heap H locs (pW 5 ksD spD 1 tk dP 3 (rA 4 (LS 0) 3 tk (fun i => some (dP i).1.1) (oW 4 (LE 2) ksS spS tk LS gS aS (oW 1 hE ksE spE tk LE gE aE rw)))) := gr3 (a := (rX 4 (LS 0) 3 tk (fun i => some (dP i).1.1))) (b := (oX 4 (LE 2) ksS spS tk LS gS aS)) (x := (oX 1 hE ksE spE tk LE gE aE)) (y := (pF 5 ksD spD 1 tk dP 3)) (r := rw) hst
        have hst := foc (d := v1.toNatClampNeg) hst (inb_lt hn3)
        refine rn_geti hx hb hown hG hg cD hst 3 (by decide) rfl rfl t_153 d_E_document_65 ?_
        have hst := unf0 (d := v1.toNatClampNeg) hst (inb_lt hn3)
        have hst : St dC dI A s.heap H locs (rA 4 (LS 0) 3 tk (fun i => some (dP i).1.1) (pW 5 ksD spD 1 tk dP 3 (oW 4 (LE 2) ksS spS tk LS gS aS (oW 1 hE ksE spE tk LE gE aE rw)))) := gr1 (a := (pF 5 ksD spD 1 tk dP 3)) (b := (rX 4 (LS 0) 3 tk (fun i => some (dP i).1.1))) (r := (oW 4 (LE 2) ksS spS tk LS gS aS (oW 1 hE ksE spE tk LE gE aE rw))) hst
        have hst : St dC dI A s.heap H locs (oW 4 (LE 2) ksS spS tk LS gS aS (rA 4 (LS 0) 3 tk (fun i => some (dP i).1.1) (pW 5 ksD spD 1 tk dP 3 (oW 1 hE ksE spE tk LE gE aE rw)))) := gr2 (a := (rX 4 (LS 0) 3 tk (fun i => some (dP i).1.1))) (b := (pF 5 ksD spD 1 tk dP 3)) (x := (oX 4 (LE 2) ksS spS tk LS gS aS)) (r := (oW 1 hE ksE spE tk LE gE aE rw)) hst
        have hst : St dC dI A s.heap H locs (oW 1 hE ksE spE tk LE gE aE (oW 4 (LE 2) ksS spS tk LS gS aS (rA 4 (LS 0) 3 tk (fun i => some (dP i).1.1) (pW 5 ksD spD 1 tk dP 3 rw)))) := gr3 (a := (oX 4 (LE 2) ksS spS tk LS gS aS)) (b := (rX 4 (LS 0) 3 tk (fun i => some (dP i).1.1))) (x := (pF 5 ksD spD 1 tk dP 3)) (y := (oX 1 hE ksE spE tk LE gE aE)) (r := rw) hst
        have hst9 := hst
        have he := (Option.some.inj hm)
        cases he
        exact rt_i hx hb hr hlk rfl hst9 rfl d_E_document_68
      have hm := it_f hm h4
      by_cases h5 : v2 = 1
      · have hm := it_t hm h5
        refine lv_tableIn (off := 35) (tgt := 69) hx hb d_E_document_34 (by rw [h5]; decide) (by rw [h5]; decide) (by rw [h5]; rfl) (by decide) ?_
        refine lv_aload_n hx hb d_E_document_69 rfl (lv_at hl 0 rfl) ?_
        have hst : St dC dI A s.heap H locs (pW 5 ksD spD 1 tk dP 3 (rA 4 (LS 0) 3 tk (fun i => some (dP i).1.1) (oW 4 (LE 2) ksS spS tk LS gS aS (oW 1 hE ksE spE tk LE gE aE rw)))) := gr3 (a := (rX 4 (LS 0) 3 tk (fun i => some (dP i).1.1))) (b := (oX 4 (LE 2) ksS spS tk LS gS aS)) (x := (oX 1 hE ksE spE tk LE gE aE)) (y := (pF 5 ksD spD 1 tk dP 3)) (r := rw) hst
        have hst := foc (d := v1.toNatClampNeg) hst (inb_lt hn3)
        refine rn_geta hx hb hown hG hg cD hst 1 1 (by decide) rfl rfl t_148 d_E_document_70 ?_
        have hst : St dC dI A s.heap H locs (oW 6 ((dP v1.toNatClampNeg).1.2.1 1) ksT spT tk (dP v1.toNatClampNeg).1.2.2 (dP v1.toNatClampNeg).2.2.2.1 (dP v1.toNatClampNeg).2.2.2.2 (oW 5 (dP v1.toNatClampNeg).1.1 ksD spD tk (dP v1.toNatClampNeg).1.2.1 (dP v1.toNatClampNeg).2.1 (dP v1.toNatClampNeg).2.2.1 (pO 5 ksD spD 1 tk dP 3 v1.toNatClampNeg (rA 4 (LS 0) 3 tk (fun i => some (dP i).1.1) (oW 4 (LE 2) ksS spS tk LS gS aS (oW 1 hE ksE spE tk LE gE aE rw)))))) := gr1 (a := (oX 5 (dP v1.toNatClampNeg).1.1 ksD spD tk (dP v1.toNatClampNeg).1.2.1 (dP v1.toNatClampNeg).2.1 (dP v1.toNatClampNeg).2.2.1)) (b := (oX 6 ((dP v1.toNatClampNeg).1.2.1 1) ksT spT tk (dP v1.toNatClampNeg).1.2.2 (dP v1.toNatClampNeg).2.2.2.1 (dP v1.toNatClampNeg).2.2.2.2)) (r := (pO 5 ksD spD 1 tk dP 3 v1.toNatClampNeg (rA 4 (LS 0) 3 tk (fun i => some (dP i).1.1) (oW 4 (LE 2) ksS spS tk LS gS aS (oW 1 hE ksE spE tk LE gE aE rw))))) hst
        refine rn_geti hx hb hown hG hg cT hst 1 (by decide) rfl rfl t_131 d_E_document_73 ?_
        have hst : St dC dI A s.heap H locs (pO 5 ksD spD 1 tk dP 3 v1.toNatClampNeg (oW 6 ((dP v1.toNatClampNeg).1.2.1 1) ksT spT tk (dP v1.toNatClampNeg).1.2.2 (dP v1.toNatClampNeg).2.2.2.1 (dP v1.toNatClampNeg).2.2.2.2 (oW 5 (dP v1.toNatClampNeg).1.1 ksD spD tk (dP v1.toNatClampNeg).1.2.1 (dP v1.toNatClampNeg).2.1 (dP v1.toNatClampNeg).2.2.1 (rA 4 (LS 0) 3 tk (fun i => some (dP i).1.1) (oW 4 (LE 2) ksS spS tk LS gS aS (oW 1 hE ksE spE tk LE gE aE rw)))))) := gr2 (a := (oX 6 ((dP v1.toNatClampNeg).1.2.1 1) ksT spT tk (dP v1.toNatClampNeg).1.2.2 (dP v1.toNatClampNeg).2.2.2.1 (dP v1.toNatClampNeg).2.2.2.2)) (b := (oX 5 (dP v1.toNatClampNeg).1.1 ksD spD tk (dP v1.toNatClampNeg).1.2.1 (dP v1.toNatClampNeg).2.1 (dP v1.toNatClampNeg).2.2.1)) (x := (pG 5 ksD spD 1 tk dP 3 v1.toNatClampNeg)) (r := (rA 4 (LS 0) 3 tk (fun i => some (dP i).1.1) (oW 4 (LE 2) ksS spS tk LS gS aS (oW 1 hE ksE spE tk LE gE aE rw)))) hst
        have hst : St dC dI A s.heap H locs (oW 6 ((dP v1.toNatClampNeg).1.2.1 1) ksT spT tk (dP v1.toNatClampNeg).1.2.2 (dP v1.toNatClampNeg).2.2.2.1 (dP v1.toNatClampNeg).2.2.2.2 (pO 5 ksD spD 1 tk dP 3 v1.toNatClampNeg (oW 5 (dP v1.toNatClampNeg).1.1 ksD spD tk (dP v1.toNatClampNeg).1.2.1 (dP v1.toNatClampNeg).2.1 (dP v1.toNatClampNeg).2.2.1 (rA 4 (LS 0) 3 tk (fun i => some (dP i).1.1) (oW 4 (LE 2) ksS spS tk LS gS aS (oW 1 hE ksE spE tk LE gE aE rw)))))) := gr1 (a := (pG 5 ksD spD 1 tk dP 3 v1.toNatClampNeg)) (b := (oX 6 ((dP v1.toNatClampNeg).1.2.1 1) ksT spT tk (dP v1.toNatClampNeg).1.2.2 (dP v1.toNatClampNeg).2.2.2.1 (dP v1.toNatClampNeg).2.2.2.2)) (r := (oW 5 (dP v1.toNatClampNeg).1.1 ksD spD tk (dP v1.toNatClampNeg).1.2.1 (dP v1.toNatClampNeg).2.1 (dP v1.toNatClampNeg).2.2.1 (rA 4 (LS 0) 3 tk (fun i => some (dP i).1.1) (oW 4 (LE 2) ksS spS tk LS gS aS (oW 1 hE ksE spE tk LE gE aE rw))))) hst
        have hst : St dC dI A s.heap H locs (oW 5 (dP v1.toNatClampNeg).1.1 ksD spD tk (dP v1.toNatClampNeg).1.2.1 (dP v1.toNatClampNeg).2.1 (dP v1.toNatClampNeg).2.2.1 (oW 6 ((dP v1.toNatClampNeg).1.2.1 1) ksT spT tk (dP v1.toNatClampNeg).1.2.2 (dP v1.toNatClampNeg).2.2.2.1 (dP v1.toNatClampNeg).2.2.2.2 (pO 5 ksD spD 1 tk dP 3 v1.toNatClampNeg (rA 4 (LS 0) 3 tk (fun i => some (dP i).1.1) (oW 4 (LE 2) ksS spS tk LS gS aS (oW 1 hE ksE spE tk LE gE aE rw)))))) := gr2 (a := (oX 6 ((dP v1.toNatClampNeg).1.2.1 1) ksT spT tk (dP v1.toNatClampNeg).1.2.2 (dP v1.toNatClampNeg).2.2.2.1 (dP v1.toNatClampNeg).2.2.2.2)) (b := (pG 5 ksD spD 1 tk dP 3 v1.toNatClampNeg)) (x := (oX 5 (dP v1.toNatClampNeg).1.1 ksD spD tk (dP v1.toNatClampNeg).1.2.1 (dP v1.toNatClampNeg).2.1 (dP v1.toNatClampNeg).2.2.1)) (r := (rA 4 (LS 0) 3 tk (fun i => some (dP i).1.1) (oW 4 (LE 2) ksS spS tk LS gS aS (oW 1 hE ksE spE tk LE gE aE rw)))) hst
        have hst := unf0 (d := v1.toNatClampNeg) hst (inb_lt hn3)
        have hst : St dC dI A s.heap H locs (rA 4 (LS 0) 3 tk (fun i => some (dP i).1.1) (pW 5 ksD spD 1 tk dP 3 (oW 4 (LE 2) ksS spS tk LS gS aS (oW 1 hE ksE spE tk LE gE aE rw)))) := gr1 (a := (pF 5 ksD spD 1 tk dP 3)) (b := (rX 4 (LS 0) 3 tk (fun i => some (dP i).1.1))) (r := (oW 4 (LE 2) ksS spS tk LS gS aS (oW 1 hE ksE spE tk LE gE aE rw))) hst
        have hst : St dC dI A s.heap H locs (oW 4 (LE 2) ksS spS tk LS gS aS (rA 4 (LS 0) 3 tk (fun i => some (dP i).1.1) (pW 5 ksD spD 1 tk dP 3 (oW 1 hE ksE spE tk LE gE aE rw)))) := gr2 (a := (rX 4 (LS 0) 3 tk (fun i => some (dP i).1.1))) (b := (pF 5 ksD spD 1 tk dP 3)) (x := (oX 4 (LE 2) ksS spS tk LS gS aS)) (r := (oW 1 hE ksE spE tk LE gE aE rw)) hst
        have hst : St dC dI A s.heap H locs (oW 1 hE ksE spE tk LE gE aE (oW 4 (LE 2) ksS spS tk LS gS aS (rA 4 (LS 0) 3 tk (fun i => some (dP i).1.1) (pW 5 ksD spD 1 tk dP 3 rw)))) := gr3 (a := (oX 4 (LE 2) ksS spS tk LS gS aS)) (b := (rX 4 (LS 0) 3 tk (fun i => some (dP i).1.1))) (x := (pF 5 ksD spD 1 tk dP 3)) (y := (oX 1 hE ksE spE tk LE gE aE)) (r := rw) hst
        have hst9 := hst
        have he := (Option.some.inj hm)
        cases he
        exact rt_i hx hb hr hlk rfl hst9 rfl d_E_document_76
      have hm := it_f hm h5
      by_cases h6 : v2 = 2
      · have hm := it_t hm h6
        refine lv_tableIn (off := 43) (tgt := 77) hx hb d_E_document_34 (by rw [h6]; decide) (by rw [h6]; decide) (by rw [h6]; rfl) (by decide) ?_
        refine lv_aload_n hx hb d_E_document_77 rfl (lv_at hl 0 rfl) ?_
        have hst : St dC dI A s.heap H locs (pW 5 ksD spD 1 tk dP 3 (rA 4 (LS 0) 3 tk (fun i => some (dP i).1.1) (oW 4 (LE 2) ksS spS tk LS gS aS (oW 1 hE ksE spE tk LE gE aE rw)))) := gr3 (a := (rX 4 (LS 0) 3 tk (fun i => some (dP i).1.1))) (b := (oX 4 (LE 2) ksS spS tk LS gS aS)) (x := (oX 1 hE ksE spE tk LE gE aE)) (y := (pF 5 ksD spD 1 tk dP 3)) (r := rw) hst
        have hst := foc (d := v1.toNatClampNeg) hst (inb_lt hn3)
        refine rn_geti hx hb hown hG hg cD hst 2 (by decide) rfl rfl t_150 d_E_document_78 ?_
        have hst := unf0 (d := v1.toNatClampNeg) hst (inb_lt hn3)
        have hst : St dC dI A s.heap H locs (rA 4 (LS 0) 3 tk (fun i => some (dP i).1.1) (pW 5 ksD spD 1 tk dP 3 (oW 4 (LE 2) ksS spS tk LS gS aS (oW 1 hE ksE spE tk LE gE aE rw)))) := gr1 (a := (pF 5 ksD spD 1 tk dP 3)) (b := (rX 4 (LS 0) 3 tk (fun i => some (dP i).1.1))) (r := (oW 4 (LE 2) ksS spS tk LS gS aS (oW 1 hE ksE spE tk LE gE aE rw))) hst
        have hst : St dC dI A s.heap H locs (oW 4 (LE 2) ksS spS tk LS gS aS (rA 4 (LS 0) 3 tk (fun i => some (dP i).1.1) (pW 5 ksD spD 1 tk dP 3 (oW 1 hE ksE spE tk LE gE aE rw)))) := gr2 (a := (rX 4 (LS 0) 3 tk (fun i => some (dP i).1.1))) (b := (pF 5 ksD spD 1 tk dP 3)) (x := (oX 4 (LE 2) ksS spS tk LS gS aS)) (r := (oW 1 hE ksE spE tk LE gE aE rw)) hst
        have hst : St dC dI A s.heap H locs (oW 1 hE ksE spE tk LE gE aE (oW 4 (LE 2) ksS spS tk LS gS aS (rA 4 (LS 0) 3 tk (fun i => some (dP i).1.1) (pW 5 ksD spD 1 tk dP 3 rw)))) := gr3 (a := (oX 4 (LE 2) ksS spS tk LS gS aS)) (b := (rX 4 (LS 0) 3 tk (fun i => some (dP i).1.1))) (x := (pF 5 ksD spD 1 tk dP 3)) (y := (oX 1 hE ksE spE tk LE gE aE)) (r := rw) hst
        have hst9 := hst
        have he := (Option.some.inj hm)
        cases he
        exact rt_i hx hb hr hlk rfl hst9 rfl d_E_document_81
      have hm := it_f hm h6
      by_cases h7 : v2 = 3
      · have hm := it_t hm h7
        refine lv_tableIn (off := 48) (tgt := 82) hx hb d_E_document_34 (by rw [h7]; decide) (by rw [h7]; decide) (by rw [h7]; rfl) (by decide) ?_
        refine lv_aload_n hx hb d_E_document_82 rfl (lv_at hl 0 rfl) ?_
        have hst : St dC dI A s.heap H locs (pW 5 ksD spD 1 tk dP 3 (rA 4 (LS 0) 3 tk (fun i => some (dP i).1.1) (oW 4 (LE 2) ksS spS tk LS gS aS (oW 1 hE ksE spE tk LE gE aE rw)))) := gr3 (a := (rX 4 (LS 0) 3 tk (fun i => some (dP i).1.1))) (b := (oX 4 (LE 2) ksS spS tk LS gS aS)) (x := (oX 1 hE ksE spE tk LE gE aE)) (y := (pF 5 ksD spD 1 tk dP 3)) (r := rw) hst
        have hst := foc (d := v1.toNatClampNeg) hst (inb_lt hn3)
        refine rn_geta hx hb hown hG hg cD hst 1 1 (by decide) rfl rfl t_148 d_E_document_83 ?_
        have hst : St dC dI A s.heap H locs (oW 6 ((dP v1.toNatClampNeg).1.2.1 1) ksT spT tk (dP v1.toNatClampNeg).1.2.2 (dP v1.toNatClampNeg).2.2.2.1 (dP v1.toNatClampNeg).2.2.2.2 (oW 5 (dP v1.toNatClampNeg).1.1 ksD spD tk (dP v1.toNatClampNeg).1.2.1 (dP v1.toNatClampNeg).2.1 (dP v1.toNatClampNeg).2.2.1 (pO 5 ksD spD 1 tk dP 3 v1.toNatClampNeg (rA 4 (LS 0) 3 tk (fun i => some (dP i).1.1) (oW 4 (LE 2) ksS spS tk LS gS aS (oW 1 hE ksE spE tk LE gE aE rw)))))) := gr1 (a := (oX 5 (dP v1.toNatClampNeg).1.1 ksD spD tk (dP v1.toNatClampNeg).1.2.1 (dP v1.toNatClampNeg).2.1 (dP v1.toNatClampNeg).2.2.1)) (b := (oX 6 ((dP v1.toNatClampNeg).1.2.1 1) ksT spT tk (dP v1.toNatClampNeg).1.2.2 (dP v1.toNatClampNeg).2.2.2.1 (dP v1.toNatClampNeg).2.2.2.2)) (r := (pO 5 ksD spD 1 tk dP 3 v1.toNatClampNeg (rA 4 (LS 0) 3 tk (fun i => some (dP i).1.1) (oW 4 (LE 2) ksS spS tk LS gS aS (oW 1 hE ksE spE tk LE gE aE rw))))) hst
        obtain ⟨x8, hc9, hm⟩ := bd_u hm
        refine cl_vi hx hb hml hown hG hg (cT_lineCount l dC dI tk A ((dP v1.toNatClampNeg).1.2.1 1) (dP v1.toNatClampNeg).1.2.2 ((dP v1.toNatClampNeg).2.2.2.1) ((dP v1.toNatClampNeg).2.2.2.2) (oW 5 (dP v1.toNatClampNeg).1.1 ksD spD tk (dP v1.toNatClampNeg).1.2.1 (dP v1.toNatClampNeg).2.1 (dP v1.toNatClampNeg).2.2.1 (pO 5 ksD spD 1 tk dP 3 v1.toNatClampNeg (rA 4 (LS 0) 3 tk (fun i => some (dP i).1.1) (oW 4 (LE 2) ksS spS tk LS gS aS (oW 1 hE ksE spE tk LE gE aE rw))))) n _ hc9) (cw_v 0 hG k_985 k_763 k_764 k_5 k_765 (by decide +kernel) ⟨by decide, by decide⟩) hst rfl oW_0 rfl hl.1 rfl (Nat.le_of_ble_eq_true rfl) ⟨Nat.le_refl 0, Nat.le_refl 0⟩ d_E_document_86 (fun H locs hst => ?_)
        have hst : St dC dI A s.heap H locs (pO 5 ksD spD 1 tk dP 3 v1.toNatClampNeg (oW 6 ((dP v1.toNatClampNeg).1.2.1 1) ksT spT tk (dP v1.toNatClampNeg).1.2.2 (dP v1.toNatClampNeg).2.2.2.1 (dP v1.toNatClampNeg).2.2.2.2 (oW 5 (dP v1.toNatClampNeg).1.1 ksD spD tk (dP v1.toNatClampNeg).1.2.1 (dP v1.toNatClampNeg).2.1 (dP v1.toNatClampNeg).2.2.1 (rA 4 (LS 0) 3 tk (fun i => some (dP i).1.1) (oW 4 (LE 2) ksS spS tk LS gS aS (oW 1 hE ksE spE tk LE gE aE rw)))))) := gr2 (a := (oX 6 ((dP v1.toNatClampNeg).1.2.1 1) ksT spT tk (dP v1.toNatClampNeg).1.2.2 (dP v1.toNatClampNeg).2.2.2.1 (dP v1.toNatClampNeg).2.2.2.2)) (b := (oX 5 (dP v1.toNatClampNeg).1.1 ksD spD tk (dP v1.toNatClampNeg).1.2.1 (dP v1.toNatClampNeg).2.1 (dP v1.toNatClampNeg).2.2.1)) (x := (pG 5 ksD spD 1 tk dP 3 v1.toNatClampNeg)) (r := (rA 4 (LS 0) 3 tk (fun i => some (dP i).1.1) (oW 4 (LE 2) ksS spS tk LS gS aS (oW 1 hE ksE spE tk LE gE aE rw)))) hst
        have hst : St dC dI A s.heap H locs (oW 6 ((dP v1.toNatClampNeg).1.2.1 1) ksT spT tk (dP v1.toNatClampNeg).1.2.2 (dP v1.toNatClampNeg).2.2.2.1 (dP v1.toNatClampNeg).2.2.2.2 (pO 5 ksD spD 1 tk dP 3 v1.toNatClampNeg (oW 5 (dP v1.toNatClampNeg).1.1 ksD spD tk (dP v1.toNatClampNeg).1.2.1 (dP v1.toNatClampNeg).2.1 (dP v1.toNatClampNeg).2.2.1 (rA 4 (LS 0) 3 tk (fun i => some (dP i).1.1) (oW 4 (LE 2) ksS spS tk LS gS aS (oW 1 hE ksE spE tk LE gE aE rw)))))) := gr1 (a := (pG 5 ksD spD 1 tk dP 3 v1.toNatClampNeg)) (b := (oX 6 ((dP v1.toNatClampNeg).1.2.1 1) ksT spT tk (dP v1.toNatClampNeg).1.2.2 (dP v1.toNatClampNeg).2.2.2.1 (dP v1.toNatClampNeg).2.2.2.2)) (r := (oW 5 (dP v1.toNatClampNeg).1.1 ksD spD tk (dP v1.toNatClampNeg).1.2.1 (dP v1.toNatClampNeg).2.1 (dP v1.toNatClampNeg).2.2.1 (rA 4 (LS 0) 3 tk (fun i => some (dP i).1.1) (oW 4 (LE 2) ksS spS tk LS gS aS (oW 1 hE ksE spE tk LE gE aE rw))))) hst
        have hst : St dC dI A s.heap H locs (oW 5 (dP v1.toNatClampNeg).1.1 ksD spD tk (dP v1.toNatClampNeg).1.2.1 (dP v1.toNatClampNeg).2.1 (dP v1.toNatClampNeg).2.2.1 (oW 6 ((dP v1.toNatClampNeg).1.2.1 1) ksT spT tk (dP v1.toNatClampNeg).1.2.2 (dP v1.toNatClampNeg).2.2.2.1 (dP v1.toNatClampNeg).2.2.2.2 (pO 5 ksD spD 1 tk dP 3 v1.toNatClampNeg (rA 4 (LS 0) 3 tk (fun i => some (dP i).1.1) (oW 4 (LE 2) ksS spS tk LS gS aS (oW 1 hE ksE spE tk LE gE aE rw)))))) := gr2 (a := (oX 6 ((dP v1.toNatClampNeg).1.2.1 1) ksT spT tk (dP v1.toNatClampNeg).1.2.2 (dP v1.toNatClampNeg).2.2.2.1 (dP v1.toNatClampNeg).2.2.2.2)) (b := (pG 5 ksD spD 1 tk dP 3 v1.toNatClampNeg)) (x := (oX 5 (dP v1.toNatClampNeg).1.1 ksD spD tk (dP v1.toNatClampNeg).1.2.1 (dP v1.toNatClampNeg).2.1 (dP v1.toNatClampNeg).2.2.1)) (r := (rA 4 (LS 0) 3 tk (fun i => some (dP i).1.1) (oW 4 (LE 2) ksS spS tk LS gS aS (oW 1 hE ksE spE tk LE gE aE rw)))) hst
        have hst := unf0 (d := v1.toNatClampNeg) hst (inb_lt hn3)
        have hst : St dC dI A s.heap H locs (rA 4 (LS 0) 3 tk (fun i => some (dP i).1.1) (pW 5 ksD spD 1 tk dP 3 (oW 4 (LE 2) ksS spS tk LS gS aS (oW 1 hE ksE spE tk LE gE aE rw)))) := gr1 (a := (pF 5 ksD spD 1 tk dP 3)) (b := (rX 4 (LS 0) 3 tk (fun i => some (dP i).1.1))) (r := (oW 4 (LE 2) ksS spS tk LS gS aS (oW 1 hE ksE spE tk LE gE aE rw))) hst
        have hst : St dC dI A s.heap H locs (oW 4 (LE 2) ksS spS tk LS gS aS (rA 4 (LS 0) 3 tk (fun i => some (dP i).1.1) (pW 5 ksD spD 1 tk dP 3 (oW 1 hE ksE spE tk LE gE aE rw)))) := gr2 (a := (rX 4 (LS 0) 3 tk (fun i => some (dP i).1.1))) (b := (pF 5 ksD spD 1 tk dP 3)) (x := (oX 4 (LE 2) ksS spS tk LS gS aS)) (r := (oW 1 hE ksE spE tk LE gE aE rw)) hst
        have hst : St dC dI A s.heap H locs (oW 1 hE ksE spE tk LE gE aE (oW 4 (LE 2) ksS spS tk LS gS aS (rA 4 (LS 0) 3 tk (fun i => some (dP i).1.1) (pW 5 ksD spD 1 tk dP 3 rw)))) := gr3 (a := (oX 4 (LE 2) ksS spS tk LS gS aS)) (b := (rX 4 (LS 0) 3 tk (fun i => some (dP i).1.1))) (x := (pF 5 ksD spD 1 tk dP 3)) (y := (oX 1 hE ksE spE tk LE gE aE)) (r := rw) hst
        have hst9 := hst
        have he := (Option.some.inj hm)
        cases he
        exact rt_i hx hb hr hlk rfl hst9 rfl d_E_document_89
      have hm := it_f hm h7
      refine lv_tableOut (tgt := 90) hx hb d_E_document_34 (sw_out4 h4 h5 h6 h7) (by decide) ?_
      cases hm
    · have hm := it_f hm h2
      cases hm
def mE_text (n : Nat) (v1 : Int32) (v2 : Int32) (gE : aG) (aE : aA) (gS : aG) (aS : aA) (dP : aP) : Option (Int32) := if v1 < 0 then (none) else (if (gS 2) ≤ v1 then (none) else (if v2 < 0 then (none) else (gd (inb v1 3) (if v2 < ((dP v1.toNatClampNeg).2.2.2.1 1) then (gd (inb v1 3) (gd (inb v2 60) (lt ((dP v1.toNatClampNeg).2.2.2.2 0 v2.toNatClampNeg) (fun x8 => gd (okc x8) (some (x8)))))) else (none)))))
theorem d_E_text_0 : decode prog_1_method_14_code 0 = .ok (.iload_n 1, 1) := by decide +kernel
theorem d_E_text_1 : decode prog_1_method_14_code 1 = .ok (.ifCond .lt 37, 3) := by decide +kernel
theorem d_E_text_4 : decode prog_1_method_14_code 4 = .ok (.iload_n 1, 1) := by decide +kernel
theorem d_E_text_5 : decode prog_1_method_14_code 5 = .ok (.aload_n 0, 1) := by decide +kernel
theorem d_E_text_6 : decode prog_1_method_14_code 6 = .ok (.getfield 32, 3) := by decide +kernel
theorem d_E_text_9 : decode prog_1_method_14_code 9 = .ok (.getfield 133, 3) := by decide +kernel
theorem d_E_text_12 : decode prog_1_method_14_code 12 = .ok (.if_icmp .ge 26, 3) := by decide +kernel
theorem d_E_text_15 : decode prog_1_method_14_code 15 = .ok (.iload_n 2, 1) := by decide +kernel
theorem d_E_text_16 : decode prog_1_method_14_code 16 = .ok (.ifCond .lt 22, 3) := by decide +kernel
theorem d_E_text_19 : decode prog_1_method_14_code 19 = .ok (.iload_n 2, 1) := by decide +kernel
theorem d_E_text_20 : decode prog_1_method_14_code 20 = .ok (.aload_n 0, 1) := by decide +kernel
theorem d_E_text_21 : decode prog_1_method_14_code 21 = .ok (.getfield 32, 3) := by decide +kernel
theorem d_E_text_24 : decode prog_1_method_14_code 24 = .ok (.getfield 134, 3) := by decide +kernel
theorem d_E_text_27 : decode prog_1_method_14_code 27 = .ok (.iload_n 1, 1) := by decide +kernel
theorem d_E_text_28 : decode prog_1_method_14_code 28 = .ok (.aaload, 1) := by decide +kernel
theorem d_E_text_29 : decode prog_1_method_14_code 29 = .ok (.getfield 142, 3) := by decide +kernel
theorem d_E_text_32 : decode prog_1_method_14_code 32 = .ok (.getfield 146, 3) := by decide +kernel
theorem d_E_text_35 : decode prog_1_method_14_code 35 = .ok (.if_icmp .lt 11, 3) := by decide +kernel
theorem d_E_text_38 : decode prog_1_method_14_code 38 = .ok (.new 81, 3) := by decide +kernel
theorem d_E_text_41 : decode prog_1_method_14_code 41 = .ok (.dup, 1) := by decide +kernel
theorem d_E_text_42 : decode prog_1_method_14_code 42 = .ok (.invokespecial 83, 3) := by decide +kernel
theorem d_E_text_45 : decode prog_1_method_14_code 45 = .ok (.athrow, 1) := by decide +kernel
theorem d_E_text_46 : decode prog_1_method_14_code 46 = .ok (.aload_n 0, 1) := by decide +kernel
theorem d_E_text_47 : decode prog_1_method_14_code 47 = .ok (.getfield 32, 3) := by decide +kernel
theorem d_E_text_50 : decode prog_1_method_14_code 50 = .ok (.getfield 134, 3) := by decide +kernel
theorem d_E_text_53 : decode prog_1_method_14_code 53 = .ok (.iload_n 1, 1) := by decide +kernel
theorem d_E_text_54 : decode prog_1_method_14_code 54 = .ok (.aaload, 1) := by decide +kernel
theorem d_E_text_55 : decode prog_1_method_14_code 55 = .ok (.getfield 142, 3) := by decide +kernel
theorem d_E_text_58 : decode prog_1_method_14_code 58 = .ok (.getfield 157, 3) := by decide +kernel
theorem d_E_text_61 : decode prog_1_method_14_code 61 = .ok (.iload_n 2, 1) := by decide +kernel
theorem d_E_text_62 : decode prog_1_method_14_code 62 = .ok (.caload, 1) := by decide +kernel
theorem d_E_text_63 : decode prog_1_method_14_code 63 = .ok (.ireturn, 1) := by decide +kernel
set_option maxHeartbeats 4000000 in
set_option maxRecDepth 100000 in
theorem cE_text (l : Launch) (dC : Nat → ClassId) (dI : Nat → Nat → Nat) (tk : Nat → ClassId) (A : Nat → Prop) (hE : Nat) (LE : Nat → Nat) (gE : aG) (aE : aA) (LS : Nat → Nat) (gS : aG) (aS : aA) (dP : aP) (rw : va_W) (n : Nat) (v1 : Int32) (v2 : Int32) (r0 : Int32) (hm : mE_text n v1 v2 gE aE gS aS dP = some r0) : CtI l dC dI tk A ⟨"EditorServer", "text", "(II)C"⟩ prog_1_method_14_code 3 (some .char) 0 0 [.ref hE, .int v1, .int v2] (oW 1 hE ksE spE tk LE gE aE (oW 4 (LE 2) ksS spS tk LS gS aS (rA 4 (LS 0) 3 tk (fun i => some (dP i).1.1) (pW 5 ksD spD 1 tk dP 3 rw)))) r0 (oW 1 hE ksE spE tk LE gE aE (oW 4 (LE 2) ksS spS tk LS gS aS (rA 4 (LS 0) 3 tk (fun i => some (dP i).1.1) (pW 5 ksD spD 1 tk dP 3 rw)))) := by
  refine ent (by decide) (Nat.le_of_ble_eq_true rfl) ?_
  intro p e s m args below meth c hx hb hr hml hown hlk hG hg hst ls hl
  unfold mE_text at hm
  have hl : lv_has ls 3 [(0, .ref hE), (1, .int v1), (2, .int v2)] := hl
  obtain ⟨H, hH⟩ : ∃ H, H = s.heap := ⟨_, rfl⟩
  obtain ⟨locs, hlc⟩ : ∃ locs : List Loc, locs = [] := ⟨_, rfl⟩
  have hst : St dC dI A s.heap H locs (oW 1 hE ksE spE tk LE gE aE (oW 4 (LE 2) ksS spS tk LS gS aS (rA 4 (LS 0) 3 tk (fun i => some (dP i).1.1) (pW 5 ksD spD 1 tk dP 3 rw)))) := by rw [hH, hlc]; exact hst
  suffices hw : W p l e (rmo 0 0) s m args below meth c H locs 0 0 (MQ below (QI dC dI A r0 (oW 1 hE ksE spE tk LE gE aE (oW 4 (LE 2) ksS spS tk LS gS aS (rA 4 (LS 0) 3 tk (fun i => some (dP i).1.1) (pW 5 ksD spD 1 tk dP 3 rw))))) args s 0 0 A) (F0 m 0 ls []) by rw [hH, hlc] at hw; exact hw
  refine lv_iload_n hx hb d_E_text_0 rfl (lv_at hl 1 rfl) ?_
  refine lv_if_lt (tgt := 38) hx hb d_E_text_1 (by decide) (fun h1 => ?_) (fun h1 => ?_)
  · have hm := it_t hm h1
    cases hm
  · have hm := it_f hm h1
    refine lv_iload_n hx hb d_E_text_4 rfl (lv_at hl 1 rfl) ?_
    refine lv_aload_n hx hb d_E_text_5 rfl (lv_at hl 0 rfl) ?_
    refine ro_geta hx hb hown hG hg cE hst 2 2 (by decide) rfl rfl k_286 d_E_text_6 ?_
    have hst : St dC dI A s.heap H locs (oW 4 (LE 2) ksS spS tk LS gS aS (oW 1 hE ksE spE tk LE gE aE (rA 4 (LS 0) 3 tk (fun i => some (dP i).1.1) (pW 5 ksD spD 1 tk dP 3 rw)))) := gr1 (a := (oX 1 hE ksE spE tk LE gE aE)) (b := (oX 4 (LE 2) ksS spS tk LS gS aS)) (r := (rA 4 (LS 0) 3 tk (fun i => some (dP i).1.1) (pW 5 ksD spD 1 tk dP 3 rw))) hst
    refine rn_geti hx hb hown hG hg cS hst 2 (by decide) rfl rfl t_167 d_E_text_9 ?_
    refine lv_icmp_ge (tgt := 38) hx hb d_E_text_12 (by decide) (fun h2 => ?_) (fun h2 => ?_)
    · have hm := it_t hm h2
      cases hm
    · have hm := it_f hm h2
      refine lv_iload_n hx hb d_E_text_15 rfl (lv_at hl 2 rfl) ?_
      refine lv_if_lt (tgt := 38) hx hb d_E_text_16 (by decide) (fun h3 => ?_) (fun h3 => ?_)
      · have hm := it_t hm h3
        cases hm
      · have hm := it_f hm h3
        refine lv_iload_n hx hb d_E_text_19 rfl (lv_at hl 2 rfl) ?_
        refine lv_aload_n hx hb d_E_text_20 rfl (lv_at hl 0 rfl) ?_
        have hst : St dC dI A s.heap H locs (oW 1 hE ksE spE tk LE gE aE (oW 4 (LE 2) ksS spS tk LS gS aS (rA 4 (LS 0) 3 tk (fun i => some (dP i).1.1) (pW 5 ksD spD 1 tk dP 3 rw)))) := gr1 (a := (oX 4 (LE 2) ksS spS tk LS gS aS)) (b := (oX 1 hE ksE spE tk LE gE aE)) (r := (rA 4 (LS 0) 3 tk (fun i => some (dP i).1.1) (pW 5 ksD spD 1 tk dP 3 rw))) hst
        refine ro_geta hx hb hown hG hg cE hst 2 2 (by decide) rfl rfl k_286 d_E_text_21 ?_
        have hst : St dC dI A s.heap H locs (oW 4 (LE 2) ksS spS tk LS gS aS (oW 1 hE ksE spE tk LE gE aE (rA 4 (LS 0) 3 tk (fun i => some (dP i).1.1) (pW 5 ksD spD 1 tk dP 3 rw)))) := gr1 (a := (oX 1 hE ksE spE tk LE gE aE)) (b := (oX 4 (LE 2) ksS spS tk LS gS aS)) (r := (rA 4 (LS 0) 3 tk (fun i => some (dP i).1.1) (pW 5 ksD spD 1 tk dP 3 rw))) hst
        refine rn_geta hx hb hown hG hg cS hst 0 0 (by decide) rfl rfl t_164 d_E_text_24 ?_
        refine lv_iload_n hx hb d_E_text_27 rfl (lv_at hl 1 rfl) ?_
        obtain ⟨hn4, hm⟩ := gd_u hm
        have hst : St dC dI A s.heap H locs (rA 4 (LS 0) 3 tk (fun i => some (dP i).1.1) (oW 4 (LE 2) ksS spS tk LS gS aS (oW 1 hE ksE spE tk LE gE aE (pW 5 ksD spD 1 tk dP 3 rw)))) := gr2 (a := (oX 4 (LE 2) ksS spS tk LS gS aS)) (b := (oX 1 hE ksE spE tk LE gE aE)) (x := (rX 4 (LS 0) 3 tk (fun i => some (dP i).1.1))) (r := (pW 5 ksD spD 1 tk dP 3 rw)) hst
        refine ro_aald (a := (dP v1.toNatClampNeg).1.1) hx hb hg hst rfl hn4 rfl d_E_text_28 ?_
        have hst : St dC dI A s.heap H locs (pW 5 ksD spD 1 tk dP 3 (rA 4 (LS 0) 3 tk (fun i => some (dP i).1.1) (oW 4 (LE 2) ksS spS tk LS gS aS (oW 1 hE ksE spE tk LE gE aE rw)))) := gr3 (a := (rX 4 (LS 0) 3 tk (fun i => some (dP i).1.1))) (b := (oX 4 (LE 2) ksS spS tk LS gS aS)) (x := (oX 1 hE ksE spE tk LE gE aE)) (y := (pF 5 ksD spD 1 tk dP 3)) (r := rw) hst
        have hst := foc (d := v1.toNatClampNeg) hst (inb_lt hn4)
        refine rn_geta hx hb hown hG hg cD hst 1 1 (by decide) rfl rfl t_148 d_E_text_29 ?_
        have hst : St dC dI A s.heap H locs (oW 6 ((dP v1.toNatClampNeg).1.2.1 1) ksT spT tk (dP v1.toNatClampNeg).1.2.2 (dP v1.toNatClampNeg).2.2.2.1 (dP v1.toNatClampNeg).2.2.2.2 (oW 5 (dP v1.toNatClampNeg).1.1 ksD spD tk (dP v1.toNatClampNeg).1.2.1 (dP v1.toNatClampNeg).2.1 (dP v1.toNatClampNeg).2.2.1 (pO 5 ksD spD 1 tk dP 3 v1.toNatClampNeg (rA 4 (LS 0) 3 tk (fun i => some (dP i).1.1) (oW 4 (LE 2) ksS spS tk LS gS aS (oW 1 hE ksE spE tk LE gE aE rw)))))) := gr1 (a := (oX 5 (dP v1.toNatClampNeg).1.1 ksD spD tk (dP v1.toNatClampNeg).1.2.1 (dP v1.toNatClampNeg).2.1 (dP v1.toNatClampNeg).2.2.1)) (b := (oX 6 ((dP v1.toNatClampNeg).1.2.1 1) ksT spT tk (dP v1.toNatClampNeg).1.2.2 (dP v1.toNatClampNeg).2.2.2.1 (dP v1.toNatClampNeg).2.2.2.2)) (r := (pO 5 ksD spD 1 tk dP 3 v1.toNatClampNeg (rA 4 (LS 0) 3 tk (fun i => some (dP i).1.1) (oW 4 (LE 2) ksS spS tk LS gS aS (oW 1 hE ksE spE tk LE gE aE rw))))) hst
        refine rn_geti hx hb hown hG hg cT hst 1 (by decide) rfl rfl t_131 d_E_text_32 ?_
        refine lv_icmp_lt (tgt := 46) hx hb d_E_text_35 (by decide) (fun h5 => ?_) (fun h5 => ?_)
        · have hm := it_t hm h5
          refine lv_aload_n hx hb d_E_text_46 rfl (lv_at hl 0 rfl) ?_
          have hst : St dC dI A s.heap H locs (oW 1 hE ksE spE tk LE gE aE (oW 6 ((dP v1.toNatClampNeg).1.2.1 1) ksT spT tk (dP v1.toNatClampNeg).1.2.2 (dP v1.toNatClampNeg).2.2.2.1 (dP v1.toNatClampNeg).2.2.2.2 (oW 5 (dP v1.toNatClampNeg).1.1 ksD spD tk (dP v1.toNatClampNeg).1.2.1 (dP v1.toNatClampNeg).2.1 (dP v1.toNatClampNeg).2.2.1 (pO 5 ksD spD 1 tk dP 3 v1.toNatClampNeg (rA 4 (LS 0) 3 tk (fun i => some (dP i).1.1) (oW 4 (LE 2) ksS spS tk LS gS aS rw)))))) := gr5 (a := (oX 6 ((dP v1.toNatClampNeg).1.2.1 1) ksT spT tk (dP v1.toNatClampNeg).1.2.2 (dP v1.toNatClampNeg).2.2.2.1 (dP v1.toNatClampNeg).2.2.2.2)) (b := (oX 5 (dP v1.toNatClampNeg).1.1 ksD spD tk (dP v1.toNatClampNeg).1.2.1 (dP v1.toNatClampNeg).2.1 (dP v1.toNatClampNeg).2.2.1)) (x := (pG 5 ksD spD 1 tk dP 3 v1.toNatClampNeg)) (y := (rX 4 (LS 0) 3 tk (fun i => some (dP i).1.1))) (z := (oX 4 (LE 2) ksS spS tk LS gS aS)) (u := (oX 1 hE ksE spE tk LE gE aE)) (r := rw) hst
          refine ro_geta hx hb hown hG hg cE hst 2 2 (by decide) rfl rfl k_286 d_E_text_47 ?_
          have hst : St dC dI A s.heap H locs (oW 4 (LE 2) ksS spS tk LS gS aS (oW 1 hE ksE spE tk LE gE aE (oW 6 ((dP v1.toNatClampNeg).1.2.1 1) ksT spT tk (dP v1.toNatClampNeg).1.2.2 (dP v1.toNatClampNeg).2.2.2.1 (dP v1.toNatClampNeg).2.2.2.2 (oW 5 (dP v1.toNatClampNeg).1.1 ksD spD tk (dP v1.toNatClampNeg).1.2.1 (dP v1.toNatClampNeg).2.1 (dP v1.toNatClampNeg).2.2.1 (pO 5 ksD spD 1 tk dP 3 v1.toNatClampNeg (rA 4 (LS 0) 3 tk (fun i => some (dP i).1.1) rw)))))) := gr5 (a := (oX 1 hE ksE spE tk LE gE aE)) (b := (oX 6 ((dP v1.toNatClampNeg).1.2.1 1) ksT spT tk (dP v1.toNatClampNeg).1.2.2 (dP v1.toNatClampNeg).2.2.2.1 (dP v1.toNatClampNeg).2.2.2.2)) (x := (oX 5 (dP v1.toNatClampNeg).1.1 ksD spD tk (dP v1.toNatClampNeg).1.2.1 (dP v1.toNatClampNeg).2.1 (dP v1.toNatClampNeg).2.2.1)) (y := (pG 5 ksD spD 1 tk dP 3 v1.toNatClampNeg)) (z := (rX 4 (LS 0) 3 tk (fun i => some (dP i).1.1))) (u := (oX 4 (LE 2) ksS spS tk LS gS aS)) (r := rw) hst
          refine rn_geta hx hb hown hG hg cS hst 0 0 (by decide) rfl rfl t_164 d_E_text_50 ?_
          refine lv_iload_n hx hb d_E_text_53 rfl (lv_at hl 1 rfl) ?_
          have hst : St dC dI A s.heap H locs (pO 5 ksD spD 1 tk dP 3 v1.toNatClampNeg (oW 4 (LE 2) ksS spS tk LS gS aS (oW 1 hE ksE spE tk LE gE aE (oW 6 ((dP v1.toNatClampNeg).1.2.1 1) ksT spT tk (dP v1.toNatClampNeg).1.2.2 (dP v1.toNatClampNeg).2.2.2.1 (dP v1.toNatClampNeg).2.2.2.2 (oW 5 (dP v1.toNatClampNeg).1.1 ksD spD tk (dP v1.toNatClampNeg).1.2.1 (dP v1.toNatClampNeg).2.1 (dP v1.toNatClampNeg).2.2.1 (rA 4 (LS 0) 3 tk (fun i => some (dP i).1.1) rw)))))) := gr4 (a := (oX 4 (LE 2) ksS spS tk LS gS aS)) (b := (oX 1 hE ksE spE tk LE gE aE)) (x := (oX 6 ((dP v1.toNatClampNeg).1.2.1 1) ksT spT tk (dP v1.toNatClampNeg).1.2.2 (dP v1.toNatClampNeg).2.2.2.1 (dP v1.toNatClampNeg).2.2.2.2)) (y := (oX 5 (dP v1.toNatClampNeg).1.1 ksD spD tk (dP v1.toNatClampNeg).1.2.1 (dP v1.toNatClampNeg).2.1 (dP v1.toNatClampNeg).2.2.1)) (z := (pG 5 ksD spD 1 tk dP 3 v1.toNatClampNeg)) (r := (rA 4 (LS 0) 3 tk (fun i => some (dP i).1.1) rw)) hst
          have hst : St dC dI A s.heap H locs (oW 6 ((dP v1.toNatClampNeg).1.2.1 1) ksT spT tk (dP v1.toNatClampNeg).1.2.2 (dP v1.toNatClampNeg).2.2.2.1 (dP v1.toNatClampNeg).2.2.2.2 (pO 5 ksD spD 1 tk dP 3 v1.toNatClampNeg (oW 4 (LE 2) ksS spS tk LS gS aS (oW 1 hE ksE spE tk LE gE aE (oW 5 (dP v1.toNatClampNeg).1.1 ksD spD tk (dP v1.toNatClampNeg).1.2.1 (dP v1.toNatClampNeg).2.1 (dP v1.toNatClampNeg).2.2.1 (rA 4 (LS 0) 3 tk (fun i => some (dP i).1.1) rw)))))) := gr3 (a := (pG 5 ksD spD 1 tk dP 3 v1.toNatClampNeg)) (b := (oX 4 (LE 2) ksS spS tk LS gS aS)) (x := (oX 1 hE ksE spE tk LE gE aE)) (y := (oX 6 ((dP v1.toNatClampNeg).1.2.1 1) ksT spT tk (dP v1.toNatClampNeg).1.2.2 (dP v1.toNatClampNeg).2.2.2.1 (dP v1.toNatClampNeg).2.2.2.2)) (r := (oW 5 (dP v1.toNatClampNeg).1.1 ksD spD tk (dP v1.toNatClampNeg).1.2.1 (dP v1.toNatClampNeg).2.1 (dP v1.toNatClampNeg).2.2.1 (rA 4 (LS 0) 3 tk (fun i => some (dP i).1.1) rw))) hst
          have hst : St dC dI A s.heap H locs (oW 5 (dP v1.toNatClampNeg).1.1 ksD spD tk (dP v1.toNatClampNeg).1.2.1 (dP v1.toNatClampNeg).2.1 (dP v1.toNatClampNeg).2.2.1 (oW 6 ((dP v1.toNatClampNeg).1.2.1 1) ksT spT tk (dP v1.toNatClampNeg).1.2.2 (dP v1.toNatClampNeg).2.2.2.1 (dP v1.toNatClampNeg).2.2.2.2 (pO 5 ksD spD 1 tk dP 3 v1.toNatClampNeg (oW 4 (LE 2) ksS spS tk LS gS aS (oW 1 hE ksE spE tk LE gE aE (rA 4 (LS 0) 3 tk (fun i => some (dP i).1.1) rw)))))) := gr4 (a := (oX 6 ((dP v1.toNatClampNeg).1.2.1 1) ksT spT tk (dP v1.toNatClampNeg).1.2.2 (dP v1.toNatClampNeg).2.2.2.1 (dP v1.toNatClampNeg).2.2.2.2)) (b := (pG 5 ksD spD 1 tk dP 3 v1.toNatClampNeg)) (x := (oX 4 (LE 2) ksS spS tk LS gS aS)) (y := (oX 1 hE ksE spE tk LE gE aE)) (z := (oX 5 (dP v1.toNatClampNeg).1.1 ksD spD tk (dP v1.toNatClampNeg).1.2.1 (dP v1.toNatClampNeg).2.1 (dP v1.toNatClampNeg).2.2.1)) (r := (rA 4 (LS 0) 3 tk (fun i => some (dP i).1.1) rw)) hst
          have hst := unf0 (d := v1.toNatClampNeg) hst (inb_lt hn4)
          obtain ⟨hn6, hm⟩ := gd_u hm
          have hst : St dC dI A s.heap H locs (rA 4 (LS 0) 3 tk (fun i => some (dP i).1.1) (pW 5 ksD spD 1 tk dP 3 (oW 4 (LE 2) ksS spS tk LS gS aS (oW 1 hE ksE spE tk LE gE aE rw)))) := gr3 (a := (pF 5 ksD spD 1 tk dP 3)) (b := (oX 4 (LE 2) ksS spS tk LS gS aS)) (x := (oX 1 hE ksE spE tk LE gE aE)) (y := (rX 4 (LS 0) 3 tk (fun i => some (dP i).1.1))) (r := rw) hst
          refine ro_aald (a := (dP v1.toNatClampNeg).1.1) hx hb hg hst rfl hn6 rfl d_E_text_54 ?_
          have hst : St dC dI A s.heap H locs (pW 5 ksD spD 1 tk dP 3 (rA 4 (LS 0) 3 tk (fun i => some (dP i).1.1) (oW 4 (LE 2) ksS spS tk LS gS aS (oW 1 hE ksE spE tk LE gE aE rw)))) := gr1 (a := (rX 4 (LS 0) 3 tk (fun i => some (dP i).1.1))) (b := (pF 5 ksD spD 1 tk dP 3)) (r := (oW 4 (LE 2) ksS spS tk LS gS aS (oW 1 hE ksE spE tk LE gE aE rw))) hst
          have hst := foc (d := v1.toNatClampNeg) hst (inb_lt hn6)
          refine rn_geta hx hb hown hG hg cD hst 1 1 (by decide) rfl rfl t_148 d_E_text_55 ?_
          have hst : St dC dI A s.heap H locs (oW 6 ((dP v1.toNatClampNeg).1.2.1 1) ksT spT tk (dP v1.toNatClampNeg).1.2.2 (dP v1.toNatClampNeg).2.2.2.1 (dP v1.toNatClampNeg).2.2.2.2 (oW 5 (dP v1.toNatClampNeg).1.1 ksD spD tk (dP v1.toNatClampNeg).1.2.1 (dP v1.toNatClampNeg).2.1 (dP v1.toNatClampNeg).2.2.1 (pO 5 ksD spD 1 tk dP 3 v1.toNatClampNeg (rA 4 (LS 0) 3 tk (fun i => some (dP i).1.1) (oW 4 (LE 2) ksS spS tk LS gS aS (oW 1 hE ksE spE tk LE gE aE rw)))))) := gr1 (a := (oX 5 (dP v1.toNatClampNeg).1.1 ksD spD tk (dP v1.toNatClampNeg).1.2.1 (dP v1.toNatClampNeg).2.1 (dP v1.toNatClampNeg).2.2.1)) (b := (oX 6 ((dP v1.toNatClampNeg).1.2.1 1) ksT spT tk (dP v1.toNatClampNeg).1.2.2 (dP v1.toNatClampNeg).2.2.2.1 (dP v1.toNatClampNeg).2.2.2.2)) (r := (pO 5 ksD spD 1 tk dP 3 v1.toNatClampNeg (rA 4 (LS 0) 3 tk (fun i => some (dP i).1.1) (oW 4 (LE 2) ksS spS tk LS gS aS (oW 1 hE ksE spE tk LE gE aE rw))))) hst
          refine rn_geta hx hb hown hG hg cT hst 0 0 (by decide) rfl rfl t_126 d_E_text_58 ?_
          refine lv_iload_n hx hb d_E_text_61 rfl (lv_at hl 2 rfl) ?_
          obtain ⟨hn7, hm⟩ := gd_u hm
          refine ro_cald hx hb hg hst 0 rfl hn7 d_E_text_62 ?_
          refine lv_topi (fun x8 ex8 => ?_)
          have hm := lt_u hm x8 ex8
          have hst : St dC dI A s.heap H locs (pO 5 ksD spD 1 tk dP 3 v1.toNatClampNeg (oW 6 ((dP v1.toNatClampNeg).1.2.1 1) ksT spT tk (dP v1.toNatClampNeg).1.2.2 (dP v1.toNatClampNeg).2.2.2.1 (dP v1.toNatClampNeg).2.2.2.2 (oW 5 (dP v1.toNatClampNeg).1.1 ksD spD tk (dP v1.toNatClampNeg).1.2.1 (dP v1.toNatClampNeg).2.1 (dP v1.toNatClampNeg).2.2.1 (rA 4 (LS 0) 3 tk (fun i => some (dP i).1.1) (oW 4 (LE 2) ksS spS tk LS gS aS (oW 1 hE ksE spE tk LE gE aE rw)))))) := gr2 (a := (oX 6 ((dP v1.toNatClampNeg).1.2.1 1) ksT spT tk (dP v1.toNatClampNeg).1.2.2 (dP v1.toNatClampNeg).2.2.2.1 (dP v1.toNatClampNeg).2.2.2.2)) (b := (oX 5 (dP v1.toNatClampNeg).1.1 ksD spD tk (dP v1.toNatClampNeg).1.2.1 (dP v1.toNatClampNeg).2.1 (dP v1.toNatClampNeg).2.2.1)) (x := (pG 5 ksD spD 1 tk dP 3 v1.toNatClampNeg)) (r := (rA 4 (LS 0) 3 tk (fun i => some (dP i).1.1) (oW 4 (LE 2) ksS spS tk LS gS aS (oW 1 hE ksE spE tk LE gE aE rw)))) hst
          have hst : St dC dI A s.heap H locs (oW 6 ((dP v1.toNatClampNeg).1.2.1 1) ksT spT tk (dP v1.toNatClampNeg).1.2.2 (dP v1.toNatClampNeg).2.2.2.1 (dP v1.toNatClampNeg).2.2.2.2 (pO 5 ksD spD 1 tk dP 3 v1.toNatClampNeg (oW 5 (dP v1.toNatClampNeg).1.1 ksD spD tk (dP v1.toNatClampNeg).1.2.1 (dP v1.toNatClampNeg).2.1 (dP v1.toNatClampNeg).2.2.1 (rA 4 (LS 0) 3 tk (fun i => some (dP i).1.1) (oW 4 (LE 2) ksS spS tk LS gS aS (oW 1 hE ksE spE tk LE gE aE rw)))))) := gr1 (a := (pG 5 ksD spD 1 tk dP 3 v1.toNatClampNeg)) (b := (oX 6 ((dP v1.toNatClampNeg).1.2.1 1) ksT spT tk (dP v1.toNatClampNeg).1.2.2 (dP v1.toNatClampNeg).2.2.2.1 (dP v1.toNatClampNeg).2.2.2.2)) (r := (oW 5 (dP v1.toNatClampNeg).1.1 ksD spD tk (dP v1.toNatClampNeg).1.2.1 (dP v1.toNatClampNeg).2.1 (dP v1.toNatClampNeg).2.2.1 (rA 4 (LS 0) 3 tk (fun i => some (dP i).1.1) (oW 4 (LE 2) ksS spS tk LS gS aS (oW 1 hE ksE spE tk LE gE aE rw))))) hst
          have hst : St dC dI A s.heap H locs (oW 5 (dP v1.toNatClampNeg).1.1 ksD spD tk (dP v1.toNatClampNeg).1.2.1 (dP v1.toNatClampNeg).2.1 (dP v1.toNatClampNeg).2.2.1 (oW 6 ((dP v1.toNatClampNeg).1.2.1 1) ksT spT tk (dP v1.toNatClampNeg).1.2.2 (dP v1.toNatClampNeg).2.2.2.1 (dP v1.toNatClampNeg).2.2.2.2 (pO 5 ksD spD 1 tk dP 3 v1.toNatClampNeg (rA 4 (LS 0) 3 tk (fun i => some (dP i).1.1) (oW 4 (LE 2) ksS spS tk LS gS aS (oW 1 hE ksE spE tk LE gE aE rw)))))) := gr2 (a := (oX 6 ((dP v1.toNatClampNeg).1.2.1 1) ksT spT tk (dP v1.toNatClampNeg).1.2.2 (dP v1.toNatClampNeg).2.2.2.1 (dP v1.toNatClampNeg).2.2.2.2)) (b := (pG 5 ksD spD 1 tk dP 3 v1.toNatClampNeg)) (x := (oX 5 (dP v1.toNatClampNeg).1.1 ksD spD tk (dP v1.toNatClampNeg).1.2.1 (dP v1.toNatClampNeg).2.1 (dP v1.toNatClampNeg).2.2.1)) (r := (rA 4 (LS 0) 3 tk (fun i => some (dP i).1.1) (oW 4 (LE 2) ksS spS tk LS gS aS (oW 1 hE ksE spE tk LE gE aE rw)))) hst
          have hst := unf0 (d := v1.toNatClampNeg) hst (inb_lt hn6)
          have hst : St dC dI A s.heap H locs (rA 4 (LS 0) 3 tk (fun i => some (dP i).1.1) (pW 5 ksD spD 1 tk dP 3 (oW 4 (LE 2) ksS spS tk LS gS aS (oW 1 hE ksE spE tk LE gE aE rw)))) := gr1 (a := (pF 5 ksD spD 1 tk dP 3)) (b := (rX 4 (LS 0) 3 tk (fun i => some (dP i).1.1))) (r := (oW 4 (LE 2) ksS spS tk LS gS aS (oW 1 hE ksE spE tk LE gE aE rw))) hst
          have hst : St dC dI A s.heap H locs (oW 4 (LE 2) ksS spS tk LS gS aS (rA 4 (LS 0) 3 tk (fun i => some (dP i).1.1) (pW 5 ksD spD 1 tk dP 3 (oW 1 hE ksE spE tk LE gE aE rw)))) := gr2 (a := (rX 4 (LS 0) 3 tk (fun i => some (dP i).1.1))) (b := (pF 5 ksD spD 1 tk dP 3)) (x := (oX 4 (LE 2) ksS spS tk LS gS aS)) (r := (oW 1 hE ksE spE tk LE gE aE rw)) hst
          have hst : St dC dI A s.heap H locs (oW 1 hE ksE spE tk LE gE aE (oW 4 (LE 2) ksS spS tk LS gS aS (rA 4 (LS 0) 3 tk (fun i => some (dP i).1.1) (pW 5 ksD spD 1 tk dP 3 rw)))) := gr3 (a := (oX 4 (LE 2) ksS spS tk LS gS aS)) (b := (rX 4 (LS 0) 3 tk (fun i => some (dP i).1.1))) (x := (pF 5 ksD spD 1 tk dP 3)) (y := (oX 1 hE ksE spE tk LE gE aE)) (r := rw) hst
          obtain ⟨hn9, hm⟩ := gd_u hm
          have hst9 := hst
          have he := (Option.some.inj hm)
          cases he
          exact rt_i hx hb hr hlk (okc_n hn9).1 hst9 rfl d_E_text_63
        · have hm := it_f hm h5
          cases hm
def mE_name (n : Nat) (v1 : Int32) (v2 : Int32) (gE : aG) (aE : aA) (gS : aG) (aS : aA) (dP : aP) : Option (Int32) := if v1 < 0 then (none) else (if (gS 2) ≤ v1 then (none) else (if v2 < 0 then (none) else (gd (inb v1 3) (if v2 < ((dP v1.toNatClampNeg).2.1 2) then (gd (inb v1 3) (gd (inb v2 4) (lt ((dP v1.toNatClampNeg).2.2.1 0 v2.toNatClampNeg) (fun x8 => gd (okc x8) (some (x8)))))) else (none)))))
theorem d_E_name_0 : decode prog_1_method_15_code 0 = .ok (.iload_n 1, 1) := by decide +kernel
theorem d_E_name_1 : decode prog_1_method_15_code 1 = .ok (.ifCond .lt 34, 3) := by decide +kernel
theorem d_E_name_4 : decode prog_1_method_15_code 4 = .ok (.iload_n 1, 1) := by decide +kernel
theorem d_E_name_5 : decode prog_1_method_15_code 5 = .ok (.aload_n 0, 1) := by decide +kernel
theorem d_E_name_6 : decode prog_1_method_15_code 6 = .ok (.getfield 32, 3) := by decide +kernel
theorem d_E_name_9 : decode prog_1_method_15_code 9 = .ok (.getfield 133, 3) := by decide +kernel
theorem d_E_name_12 : decode prog_1_method_15_code 12 = .ok (.if_icmp .ge 23, 3) := by decide +kernel
theorem d_E_name_15 : decode prog_1_method_15_code 15 = .ok (.iload_n 2, 1) := by decide +kernel
theorem d_E_name_16 : decode prog_1_method_15_code 16 = .ok (.ifCond .lt 19, 3) := by decide +kernel
theorem d_E_name_19 : decode prog_1_method_15_code 19 = .ok (.iload_n 2, 1) := by decide +kernel
theorem d_E_name_20 : decode prog_1_method_15_code 20 = .ok (.aload_n 0, 1) := by decide +kernel
theorem d_E_name_21 : decode prog_1_method_15_code 21 = .ok (.getfield 32, 3) := by decide +kernel
theorem d_E_name_24 : decode prog_1_method_15_code 24 = .ok (.getfield 134, 3) := by decide +kernel
theorem d_E_name_27 : decode prog_1_method_15_code 27 = .ok (.iload_n 1, 1) := by decide +kernel
theorem d_E_name_28 : decode prog_1_method_15_code 28 = .ok (.aaload, 1) := by decide +kernel
theorem d_E_name_29 : decode prog_1_method_15_code 29 = .ok (.getfield 151, 3) := by decide +kernel
theorem d_E_name_32 : decode prog_1_method_15_code 32 = .ok (.if_icmp .lt 11, 3) := by decide +kernel
theorem d_E_name_35 : decode prog_1_method_15_code 35 = .ok (.new 81, 3) := by decide +kernel
theorem d_E_name_38 : decode prog_1_method_15_code 38 = .ok (.dup, 1) := by decide +kernel
theorem d_E_name_39 : decode prog_1_method_15_code 39 = .ok (.invokespecial 83, 3) := by decide +kernel
theorem d_E_name_42 : decode prog_1_method_15_code 42 = .ok (.athrow, 1) := by decide +kernel
theorem d_E_name_43 : decode prog_1_method_15_code 43 = .ok (.aload_n 0, 1) := by decide +kernel
theorem d_E_name_44 : decode prog_1_method_15_code 44 = .ok (.getfield 32, 3) := by decide +kernel
theorem d_E_name_47 : decode prog_1_method_15_code 47 = .ok (.getfield 134, 3) := by decide +kernel
theorem d_E_name_50 : decode prog_1_method_15_code 50 = .ok (.iload_n 1, 1) := by decide +kernel
theorem d_E_name_51 : decode prog_1_method_15_code 51 = .ok (.aaload, 1) := by decide +kernel
theorem d_E_name_52 : decode prog_1_method_15_code 52 = .ok (.getfield 160, 3) := by decide +kernel
theorem d_E_name_55 : decode prog_1_method_15_code 55 = .ok (.iload_n 2, 1) := by decide +kernel
theorem d_E_name_56 : decode prog_1_method_15_code 56 = .ok (.caload, 1) := by decide +kernel
theorem d_E_name_57 : decode prog_1_method_15_code 57 = .ok (.ireturn, 1) := by decide +kernel
set_option maxHeartbeats 4000000 in
set_option maxRecDepth 100000 in
theorem cE_name (l : Launch) (dC : Nat → ClassId) (dI : Nat → Nat → Nat) (tk : Nat → ClassId) (A : Nat → Prop) (hE : Nat) (LE : Nat → Nat) (gE : aG) (aE : aA) (LS : Nat → Nat) (gS : aG) (aS : aA) (dP : aP) (rw : va_W) (n : Nat) (v1 : Int32) (v2 : Int32) (r0 : Int32) (hm : mE_name n v1 v2 gE aE gS aS dP = some r0) : CtI l dC dI tk A ⟨"EditorServer", "name", "(II)C"⟩ prog_1_method_15_code 3 (some .char) 0 0 [.ref hE, .int v1, .int v2] (oW 1 hE ksE spE tk LE gE aE (oW 4 (LE 2) ksS spS tk LS gS aS (rA 4 (LS 0) 3 tk (fun i => some (dP i).1.1) (pW 5 ksD spD 1 tk dP 3 rw)))) r0 (oW 1 hE ksE spE tk LE gE aE (oW 4 (LE 2) ksS spS tk LS gS aS (rA 4 (LS 0) 3 tk (fun i => some (dP i).1.1) (pW 5 ksD spD 1 tk dP 3 rw)))) := by
  refine ent (by decide) (Nat.le_of_ble_eq_true rfl) ?_
  intro p e s m args below meth c hx hb hr hml hown hlk hG hg hst ls hl
  unfold mE_name at hm
  have hl : lv_has ls 3 [(0, .ref hE), (1, .int v1), (2, .int v2)] := hl
  obtain ⟨H, hH⟩ : ∃ H, H = s.heap := ⟨_, rfl⟩
  obtain ⟨locs, hlc⟩ : ∃ locs : List Loc, locs = [] := ⟨_, rfl⟩
  have hst : St dC dI A s.heap H locs (oW 1 hE ksE spE tk LE gE aE (oW 4 (LE 2) ksS spS tk LS gS aS (rA 4 (LS 0) 3 tk (fun i => some (dP i).1.1) (pW 5 ksD spD 1 tk dP 3 rw)))) := by rw [hH, hlc]; exact hst
  suffices hw : W p l e (rmo 0 0) s m args below meth c H locs 0 0 (MQ below (QI dC dI A r0 (oW 1 hE ksE spE tk LE gE aE (oW 4 (LE 2) ksS spS tk LS gS aS (rA 4 (LS 0) 3 tk (fun i => some (dP i).1.1) (pW 5 ksD spD 1 tk dP 3 rw))))) args s 0 0 A) (F0 m 0 ls []) by rw [hH, hlc] at hw; exact hw
  refine lv_iload_n hx hb d_E_name_0 rfl (lv_at hl 1 rfl) ?_
  refine lv_if_lt (tgt := 35) hx hb d_E_name_1 (by decide) (fun h1 => ?_) (fun h1 => ?_)
  · have hm := it_t hm h1
    cases hm
  · have hm := it_f hm h1
    refine lv_iload_n hx hb d_E_name_4 rfl (lv_at hl 1 rfl) ?_
    refine lv_aload_n hx hb d_E_name_5 rfl (lv_at hl 0 rfl) ?_
    refine ro_geta hx hb hown hG hg cE hst 2 2 (by decide) rfl rfl k_286 d_E_name_6 ?_
    have hst : St dC dI A s.heap H locs (oW 4 (LE 2) ksS spS tk LS gS aS (oW 1 hE ksE spE tk LE gE aE (rA 4 (LS 0) 3 tk (fun i => some (dP i).1.1) (pW 5 ksD spD 1 tk dP 3 rw)))) := gr1 (a := (oX 1 hE ksE spE tk LE gE aE)) (b := (oX 4 (LE 2) ksS spS tk LS gS aS)) (r := (rA 4 (LS 0) 3 tk (fun i => some (dP i).1.1) (pW 5 ksD spD 1 tk dP 3 rw))) hst
    refine rn_geti hx hb hown hG hg cS hst 2 (by decide) rfl rfl t_167 d_E_name_9 ?_
    refine lv_icmp_ge (tgt := 35) hx hb d_E_name_12 (by decide) (fun h2 => ?_) (fun h2 => ?_)
    · have hm := it_t hm h2
      cases hm
    · have hm := it_f hm h2
      refine lv_iload_n hx hb d_E_name_15 rfl (lv_at hl 2 rfl) ?_
      refine lv_if_lt (tgt := 35) hx hb d_E_name_16 (by decide) (fun h3 => ?_) (fun h3 => ?_)
      · have hm := it_t hm h3
        cases hm
      · have hm := it_f hm h3
        refine lv_iload_n hx hb d_E_name_19 rfl (lv_at hl 2 rfl) ?_
        refine lv_aload_n hx hb d_E_name_20 rfl (lv_at hl 0 rfl) ?_
        have hst : St dC dI A s.heap H locs (oW 1 hE ksE spE tk LE gE aE (oW 4 (LE 2) ksS spS tk LS gS aS (rA 4 (LS 0) 3 tk (fun i => some (dP i).1.1) (pW 5 ksD spD 1 tk dP 3 rw)))) := gr1 (a := (oX 4 (LE 2) ksS spS tk LS gS aS)) (b := (oX 1 hE ksE spE tk LE gE aE)) (r := (rA 4 (LS 0) 3 tk (fun i => some (dP i).1.1) (pW 5 ksD spD 1 tk dP 3 rw))) hst
        refine ro_geta hx hb hown hG hg cE hst 2 2 (by decide) rfl rfl k_286 d_E_name_21 ?_
        have hst : St dC dI A s.heap H locs (oW 4 (LE 2) ksS spS tk LS gS aS (oW 1 hE ksE spE tk LE gE aE (rA 4 (LS 0) 3 tk (fun i => some (dP i).1.1) (pW 5 ksD spD 1 tk dP 3 rw)))) := gr1 (a := (oX 1 hE ksE spE tk LE gE aE)) (b := (oX 4 (LE 2) ksS spS tk LS gS aS)) (r := (rA 4 (LS 0) 3 tk (fun i => some (dP i).1.1) (pW 5 ksD spD 1 tk dP 3 rw))) hst
        refine rn_geta hx hb hown hG hg cS hst 0 0 (by decide) rfl rfl t_164 d_E_name_24 ?_
        refine lv_iload_n hx hb d_E_name_27 rfl (lv_at hl 1 rfl) ?_
        obtain ⟨hn4, hm⟩ := gd_u hm
        have hst : St dC dI A s.heap H locs (rA 4 (LS 0) 3 tk (fun i => some (dP i).1.1) (oW 4 (LE 2) ksS spS tk LS gS aS (oW 1 hE ksE spE tk LE gE aE (pW 5 ksD spD 1 tk dP 3 rw)))) := gr2 (a := (oX 4 (LE 2) ksS spS tk LS gS aS)) (b := (oX 1 hE ksE spE tk LE gE aE)) (x := (rX 4 (LS 0) 3 tk (fun i => some (dP i).1.1))) (r := (pW 5 ksD spD 1 tk dP 3 rw)) hst
        refine ro_aald (a := (dP v1.toNatClampNeg).1.1) hx hb hg hst rfl hn4 rfl d_E_name_28 ?_
        have hst : St dC dI A s.heap H locs (pW 5 ksD spD 1 tk dP 3 (rA 4 (LS 0) 3 tk (fun i => some (dP i).1.1) (oW 4 (LE 2) ksS spS tk LS gS aS (oW 1 hE ksE spE tk LE gE aE rw)))) := gr3 (a := (rX 4 (LS 0) 3 tk (fun i => some (dP i).1.1))) (b := (oX 4 (LE 2) ksS spS tk LS gS aS)) (x := (oX 1 hE ksE spE tk LE gE aE)) (y := (pF 5 ksD spD 1 tk dP 3)) (r := rw) hst
        have hst := foc (d := v1.toNatClampNeg) hst (inb_lt hn4)
        refine rn_geti hx hb hown hG hg cD hst 2 (by decide) rfl rfl t_150 d_E_name_29 ?_
        refine lv_icmp_lt (tgt := 43) hx hb d_E_name_32 (by decide) (fun h5 => ?_) (fun h5 => ?_)
        · have hm := it_t hm h5
          refine lv_aload_n hx hb d_E_name_43 rfl (lv_at hl 0 rfl) ?_
          have hst : St dC dI A s.heap H locs (oW 1 hE ksE spE tk LE gE aE (oW 5 (dP v1.toNatClampNeg).1.1 ksD spD tk (dP v1.toNatClampNeg).1.2.1 (dP v1.toNatClampNeg).2.1 (dP v1.toNatClampNeg).2.2.1 (oW 6 ((dP v1.toNatClampNeg).1.2.1 1) ksT spT tk (dP v1.toNatClampNeg).1.2.2 (dP v1.toNatClampNeg).2.2.2.1 (dP v1.toNatClampNeg).2.2.2.2 (pO 5 ksD spD 1 tk dP 3 v1.toNatClampNeg (rA 4 (LS 0) 3 tk (fun i => some (dP i).1.1) (oW 4 (LE 2) ksS spS tk LS gS aS rw)))))) := gr5 (a := (oX 5 (dP v1.toNatClampNeg).1.1 ksD spD tk (dP v1.toNatClampNeg).1.2.1 (dP v1.toNatClampNeg).2.1 (dP v1.toNatClampNeg).2.2.1)) (b := (oX 6 ((dP v1.toNatClampNeg).1.2.1 1) ksT spT tk (dP v1.toNatClampNeg).1.2.2 (dP v1.toNatClampNeg).2.2.2.1 (dP v1.toNatClampNeg).2.2.2.2)) (x := (pG 5 ksD spD 1 tk dP 3 v1.toNatClampNeg)) (y := (rX 4 (LS 0) 3 tk (fun i => some (dP i).1.1))) (z := (oX 4 (LE 2) ksS spS tk LS gS aS)) (u := (oX 1 hE ksE spE tk LE gE aE)) (r := rw) hst
          refine ro_geta hx hb hown hG hg cE hst 2 2 (by decide) rfl rfl k_286 d_E_name_44 ?_
          have hst : St dC dI A s.heap H locs (oW 4 (LE 2) ksS spS tk LS gS aS (oW 1 hE ksE spE tk LE gE aE (oW 5 (dP v1.toNatClampNeg).1.1 ksD spD tk (dP v1.toNatClampNeg).1.2.1 (dP v1.toNatClampNeg).2.1 (dP v1.toNatClampNeg).2.2.1 (oW 6 ((dP v1.toNatClampNeg).1.2.1 1) ksT spT tk (dP v1.toNatClampNeg).1.2.2 (dP v1.toNatClampNeg).2.2.2.1 (dP v1.toNatClampNeg).2.2.2.2 (pO 5 ksD spD 1 tk dP 3 v1.toNatClampNeg (rA 4 (LS 0) 3 tk (fun i => some (dP i).1.1) rw)))))) := gr5 (a := (oX 1 hE ksE spE tk LE gE aE)) (b := (oX 5 (dP v1.toNatClampNeg).1.1 ksD spD tk (dP v1.toNatClampNeg).1.2.1 (dP v1.toNatClampNeg).2.1 (dP v1.toNatClampNeg).2.2.1)) (x := (oX 6 ((dP v1.toNatClampNeg).1.2.1 1) ksT spT tk (dP v1.toNatClampNeg).1.2.2 (dP v1.toNatClampNeg).2.2.2.1 (dP v1.toNatClampNeg).2.2.2.2)) (y := (pG 5 ksD spD 1 tk dP 3 v1.toNatClampNeg)) (z := (rX 4 (LS 0) 3 tk (fun i => some (dP i).1.1))) (u := (oX 4 (LE 2) ksS spS tk LS gS aS)) (r := rw) hst
          refine rn_geta hx hb hown hG hg cS hst 0 0 (by decide) rfl rfl t_164 d_E_name_47 ?_
          refine lv_iload_n hx hb d_E_name_50 rfl (lv_at hl 1 rfl) ?_
          have hst : St dC dI A s.heap H locs (pO 5 ksD spD 1 tk dP 3 v1.toNatClampNeg (oW 4 (LE 2) ksS spS tk LS gS aS (oW 1 hE ksE spE tk LE gE aE (oW 5 (dP v1.toNatClampNeg).1.1 ksD spD tk (dP v1.toNatClampNeg).1.2.1 (dP v1.toNatClampNeg).2.1 (dP v1.toNatClampNeg).2.2.1 (oW 6 ((dP v1.toNatClampNeg).1.2.1 1) ksT spT tk (dP v1.toNatClampNeg).1.2.2 (dP v1.toNatClampNeg).2.2.2.1 (dP v1.toNatClampNeg).2.2.2.2 (rA 4 (LS 0) 3 tk (fun i => some (dP i).1.1) rw)))))) := gr4 (a := (oX 4 (LE 2) ksS spS tk LS gS aS)) (b := (oX 1 hE ksE spE tk LE gE aE)) (x := (oX 5 (dP v1.toNatClampNeg).1.1 ksD spD tk (dP v1.toNatClampNeg).1.2.1 (dP v1.toNatClampNeg).2.1 (dP v1.toNatClampNeg).2.2.1)) (y := (oX 6 ((dP v1.toNatClampNeg).1.2.1 1) ksT spT tk (dP v1.toNatClampNeg).1.2.2 (dP v1.toNatClampNeg).2.2.2.1 (dP v1.toNatClampNeg).2.2.2.2)) (z := (pG 5 ksD spD 1 tk dP 3 v1.toNatClampNeg)) (r := (rA 4 (LS 0) 3 tk (fun i => some (dP i).1.1) rw)) hst
          have hst : St dC dI A s.heap H locs (oW 6 ((dP v1.toNatClampNeg).1.2.1 1) ksT spT tk (dP v1.toNatClampNeg).1.2.2 (dP v1.toNatClampNeg).2.2.2.1 (dP v1.toNatClampNeg).2.2.2.2 (pO 5 ksD spD 1 tk dP 3 v1.toNatClampNeg (oW 4 (LE 2) ksS spS tk LS gS aS (oW 1 hE ksE spE tk LE gE aE (oW 5 (dP v1.toNatClampNeg).1.1 ksD spD tk (dP v1.toNatClampNeg).1.2.1 (dP v1.toNatClampNeg).2.1 (dP v1.toNatClampNeg).2.2.1 (rA 4 (LS 0) 3 tk (fun i => some (dP i).1.1) rw)))))) := gr4 (a := (pG 5 ksD spD 1 tk dP 3 v1.toNatClampNeg)) (b := (oX 4 (LE 2) ksS spS tk LS gS aS)) (x := (oX 1 hE ksE spE tk LE gE aE)) (y := (oX 5 (dP v1.toNatClampNeg).1.1 ksD spD tk (dP v1.toNatClampNeg).1.2.1 (dP v1.toNatClampNeg).2.1 (dP v1.toNatClampNeg).2.2.1)) (z := (oX 6 ((dP v1.toNatClampNeg).1.2.1 1) ksT spT tk (dP v1.toNatClampNeg).1.2.2 (dP v1.toNatClampNeg).2.2.2.1 (dP v1.toNatClampNeg).2.2.2.2)) (r := (rA 4 (LS 0) 3 tk (fun i => some (dP i).1.1) rw)) hst
          have hst : St dC dI A s.heap H locs (oW 5 (dP v1.toNatClampNeg).1.1 ksD spD tk (dP v1.toNatClampNeg).1.2.1 (dP v1.toNatClampNeg).2.1 (dP v1.toNatClampNeg).2.2.1 (oW 6 ((dP v1.toNatClampNeg).1.2.1 1) ksT spT tk (dP v1.toNatClampNeg).1.2.2 (dP v1.toNatClampNeg).2.2.2.1 (dP v1.toNatClampNeg).2.2.2.2 (pO 5 ksD spD 1 tk dP 3 v1.toNatClampNeg (oW 4 (LE 2) ksS spS tk LS gS aS (oW 1 hE ksE spE tk LE gE aE (rA 4 (LS 0) 3 tk (fun i => some (dP i).1.1) rw)))))) := gr4 (a := (oX 6 ((dP v1.toNatClampNeg).1.2.1 1) ksT spT tk (dP v1.toNatClampNeg).1.2.2 (dP v1.toNatClampNeg).2.2.2.1 (dP v1.toNatClampNeg).2.2.2.2)) (b := (pG 5 ksD spD 1 tk dP 3 v1.toNatClampNeg)) (x := (oX 4 (LE 2) ksS spS tk LS gS aS)) (y := (oX 1 hE ksE spE tk LE gE aE)) (z := (oX 5 (dP v1.toNatClampNeg).1.1 ksD spD tk (dP v1.toNatClampNeg).1.2.1 (dP v1.toNatClampNeg).2.1 (dP v1.toNatClampNeg).2.2.1)) (r := (rA 4 (LS 0) 3 tk (fun i => some (dP i).1.1) rw)) hst
          have hst := unf0 (d := v1.toNatClampNeg) hst (inb_lt hn4)
          obtain ⟨hn6, hm⟩ := gd_u hm
          have hst : St dC dI A s.heap H locs (rA 4 (LS 0) 3 tk (fun i => some (dP i).1.1) (pW 5 ksD spD 1 tk dP 3 (oW 4 (LE 2) ksS spS tk LS gS aS (oW 1 hE ksE spE tk LE gE aE rw)))) := gr3 (a := (pF 5 ksD spD 1 tk dP 3)) (b := (oX 4 (LE 2) ksS spS tk LS gS aS)) (x := (oX 1 hE ksE spE tk LE gE aE)) (y := (rX 4 (LS 0) 3 tk (fun i => some (dP i).1.1))) (r := rw) hst
          refine ro_aald (a := (dP v1.toNatClampNeg).1.1) hx hb hg hst rfl hn6 rfl d_E_name_51 ?_
          have hst : St dC dI A s.heap H locs (pW 5 ksD spD 1 tk dP 3 (rA 4 (LS 0) 3 tk (fun i => some (dP i).1.1) (oW 4 (LE 2) ksS spS tk LS gS aS (oW 1 hE ksE spE tk LE gE aE rw)))) := gr1 (a := (rX 4 (LS 0) 3 tk (fun i => some (dP i).1.1))) (b := (pF 5 ksD spD 1 tk dP 3)) (r := (oW 4 (LE 2) ksS spS tk LS gS aS (oW 1 hE ksE spE tk LE gE aE rw))) hst
          have hst := foc (d := v1.toNatClampNeg) hst (inb_lt hn6)
          refine rn_geta hx hb hown hG hg cD hst 0 0 (by decide) rfl rfl t_145 d_E_name_52 ?_
          refine lv_iload_n hx hb d_E_name_55 rfl (lv_at hl 2 rfl) ?_
          obtain ⟨hn7, hm⟩ := gd_u hm
          refine ro_cald hx hb hg hst 0 rfl hn7 d_E_name_56 ?_
          refine lv_topi (fun x8 ex8 => ?_)
          have hm := lt_u hm x8 ex8
          have hst := unf0 (d := v1.toNatClampNeg) hst (inb_lt hn6)
          have hst : St dC dI A s.heap H locs (rA 4 (LS 0) 3 tk (fun i => some (dP i).1.1) (pW 5 ksD spD 1 tk dP 3 (oW 4 (LE 2) ksS spS tk LS gS aS (oW 1 hE ksE spE tk LE gE aE rw)))) := gr1 (a := (pF 5 ksD spD 1 tk dP 3)) (b := (rX 4 (LS 0) 3 tk (fun i => some (dP i).1.1))) (r := (oW 4 (LE 2) ksS spS tk LS gS aS (oW 1 hE ksE spE tk LE gE aE rw))) hst
          have hst : St dC dI A s.heap H locs (oW 4 (LE 2) ksS spS tk LS gS aS (rA 4 (LS 0) 3 tk (fun i => some (dP i).1.1) (pW 5 ksD spD 1 tk dP 3 (oW 1 hE ksE spE tk LE gE aE rw)))) := gr2 (a := (rX 4 (LS 0) 3 tk (fun i => some (dP i).1.1))) (b := (pF 5 ksD spD 1 tk dP 3)) (x := (oX 4 (LE 2) ksS spS tk LS gS aS)) (r := (oW 1 hE ksE spE tk LE gE aE rw)) hst
          have hst : St dC dI A s.heap H locs (oW 1 hE ksE spE tk LE gE aE (oW 4 (LE 2) ksS spS tk LS gS aS (rA 4 (LS 0) 3 tk (fun i => some (dP i).1.1) (pW 5 ksD spD 1 tk dP 3 rw)))) := gr3 (a := (oX 4 (LE 2) ksS spS tk LS gS aS)) (b := (rX 4 (LS 0) 3 tk (fun i => some (dP i).1.1))) (x := (pF 5 ksD spD 1 tk dP 3)) (y := (oX 1 hE ksE spE tk LE gE aE)) (r := rw) hst
          obtain ⟨hn9, hm⟩ := gd_u hm
          have hst9 := hst
          have he := (Option.some.inj hm)
          cases he
          exact rt_i hx hb hr hlk (okc_n hn9).1 hst9 rfl d_E_name_57
        · have hm := it_f hm h5
          cases hm
def mE_place (n : Nat) (v1 : Int32) (v2 : Int32) (v3 : Int32) (gE : aG) (aE : aA) (gS : aG) (aS : aA) (dP : aP) : Option (Int32) := if v1 < 0 then (none) else (if v1 < (gS 2) then (gd (inb v1 3) (bd (mT_placeOf n v2 v3 ((dP v1.toNatClampNeg).2.2.2.1) ((dP v1.toNatClampNeg).2.2.2.2)) (fun x4 => some (x4)))) else (none))
theorem d_E_place_0 : decode prog_1_method_16_code 0 = .ok (.iload_n 1, 1) := by decide +kernel
theorem d_E_place_1 : decode prog_1_method_16_code 1 = .ok (.ifCond .lt 14, 3) := by decide +kernel
theorem d_E_place_4 : decode prog_1_method_16_code 4 = .ok (.iload_n 1, 1) := by decide +kernel
theorem d_E_place_5 : decode prog_1_method_16_code 5 = .ok (.aload_n 0, 1) := by decide +kernel
theorem d_E_place_6 : decode prog_1_method_16_code 6 = .ok (.getfield 32, 3) := by decide +kernel
theorem d_E_place_9 : decode prog_1_method_16_code 9 = .ok (.getfield 133, 3) := by decide +kernel
theorem d_E_place_12 : decode prog_1_method_16_code 12 = .ok (.if_icmp .lt 11, 3) := by decide +kernel
theorem d_E_place_15 : decode prog_1_method_16_code 15 = .ok (.new 81, 3) := by decide +kernel
theorem d_E_place_18 : decode prog_1_method_16_code 18 = .ok (.dup, 1) := by decide +kernel
theorem d_E_place_19 : decode prog_1_method_16_code 19 = .ok (.invokespecial 83, 3) := by decide +kernel
theorem d_E_place_22 : decode prog_1_method_16_code 22 = .ok (.athrow, 1) := by decide +kernel
theorem d_E_place_23 : decode prog_1_method_16_code 23 = .ok (.aload_n 0, 1) := by decide +kernel
theorem d_E_place_24 : decode prog_1_method_16_code 24 = .ok (.getfield 32, 3) := by decide +kernel
theorem d_E_place_27 : decode prog_1_method_16_code 27 = .ok (.getfield 134, 3) := by decide +kernel
theorem d_E_place_30 : decode prog_1_method_16_code 30 = .ok (.iload_n 1, 1) := by decide +kernel
theorem d_E_place_31 : decode prog_1_method_16_code 31 = .ok (.aaload, 1) := by decide +kernel
theorem d_E_place_32 : decode prog_1_method_16_code 32 = .ok (.getfield 142, 3) := by decide +kernel
theorem d_E_place_35 : decode prog_1_method_16_code 35 = .ok (.iload_n 2, 1) := by decide +kernel
theorem d_E_place_36 : decode prog_1_method_16_code 36 = .ok (.iload_n 3, 1) := by decide +kernel
theorem d_E_place_37 : decode prog_1_method_16_code 37 = .ok (.invokevirtual 163, 3) := by decide +kernel
theorem d_E_place_40 : decode prog_1_method_16_code 40 = .ok (.ireturn, 1) := by decide +kernel
set_option maxHeartbeats 4000000 in
set_option maxRecDepth 100000 in
theorem cE_place (l : Launch) (dC : Nat → ClassId) (dI : Nat → Nat → Nat) (tk : Nat → ClassId) (A : Nat → Prop) (hE : Nat) (LE : Nat → Nat) (gE : aG) (aE : aA) (LS : Nat → Nat) (gS : aG) (aS : aA) (dP : aP) (rw : va_W) (n : Nat) (v1 : Int32) (v2 : Int32) (v3 : Int32) (r0 : Int32) (hm : mE_place n v1 v2 v3 gE aE gS aS dP = some r0) : CtI l dC dI tk A ⟨"EditorServer", "place", "(III)I"⟩ prog_1_method_16_code 4 (some .int) 2 47 [.ref hE, .int v1, .int v2, .int v3] (oW 1 hE ksE spE tk LE gE aE (oW 4 (LE 2) ksS spS tk LS gS aS (rA 4 (LS 0) 3 tk (fun i => some (dP i).1.1) (pW 5 ksD spD 1 tk dP 3 rw)))) r0 (oW 1 hE ksE spE tk LE gE aE (oW 4 (LE 2) ksS spS tk LS gS aS (rA 4 (LS 0) 3 tk (fun i => some (dP i).1.1) (pW 5 ksD spD 1 tk dP 3 rw)))) := by
  refine ent (by decide) (Nat.le_of_ble_eq_true rfl) ?_
  intro p e s m args below meth c hx hb hr hml hown hlk hG hg hst ls hl
  unfold mE_place at hm
  have hl : lv_has ls 4 [(0, .ref hE), (1, .int v1), (2, .int v2), (3, .int v3)] := hl
  obtain ⟨H, hH⟩ : ∃ H, H = s.heap := ⟨_, rfl⟩
  obtain ⟨locs, hlc⟩ : ∃ locs : List Loc, locs = [] := ⟨_, rfl⟩
  have hst : St dC dI A s.heap H locs (oW 1 hE ksE spE tk LE gE aE (oW 4 (LE 2) ksS spS tk LS gS aS (rA 4 (LS 0) 3 tk (fun i => some (dP i).1.1) (pW 5 ksD spD 1 tk dP 3 rw)))) := by rw [hH, hlc]; exact hst
  suffices hw : W p l e (rmo 2 47) s m args below meth c H locs 0 0 (MQ below (QI dC dI A r0 (oW 1 hE ksE spE tk LE gE aE (oW 4 (LE 2) ksS spS tk LS gS aS (rA 4 (LS 0) 3 tk (fun i => some (dP i).1.1) (pW 5 ksD spD 1 tk dP 3 rw))))) args s 0 0 A) (F0 m 0 ls []) by rw [hH, hlc] at hw; exact hw
  refine lv_iload_n hx hb d_E_place_0 rfl (lv_at hl 1 rfl) ?_
  refine lv_if_lt (tgt := 15) hx hb d_E_place_1 (by decide) (fun h1 => ?_) (fun h1 => ?_)
  · have hm := it_t hm h1
    cases hm
  · have hm := it_f hm h1
    refine lv_iload_n hx hb d_E_place_4 rfl (lv_at hl 1 rfl) ?_
    refine lv_aload_n hx hb d_E_place_5 rfl (lv_at hl 0 rfl) ?_
    refine ro_geta hx hb hown hG hg cE hst 2 2 (by decide) rfl rfl k_286 d_E_place_6 ?_
    have hst : St dC dI A s.heap H locs (oW 4 (LE 2) ksS spS tk LS gS aS (oW 1 hE ksE spE tk LE gE aE (rA 4 (LS 0) 3 tk (fun i => some (dP i).1.1) (pW 5 ksD spD 1 tk dP 3 rw)))) := gr1 (a := (oX 1 hE ksE spE tk LE gE aE)) (b := (oX 4 (LE 2) ksS spS tk LS gS aS)) (r := (rA 4 (LS 0) 3 tk (fun i => some (dP i).1.1) (pW 5 ksD spD 1 tk dP 3 rw))) hst
    refine rn_geti hx hb hown hG hg cS hst 2 (by decide) rfl rfl t_167 d_E_place_9 ?_
    refine lv_icmp_lt (tgt := 23) hx hb d_E_place_12 (by decide) (fun h2 => ?_) (fun h2 => ?_)
    · have hm := it_t hm h2
      refine lv_aload_n hx hb d_E_place_23 rfl (lv_at hl 0 rfl) ?_
      have hst : St dC dI A s.heap H locs (oW 1 hE ksE spE tk LE gE aE (oW 4 (LE 2) ksS spS tk LS gS aS (rA 4 (LS 0) 3 tk (fun i => some (dP i).1.1) (pW 5 ksD spD 1 tk dP 3 rw)))) := gr1 (a := (oX 4 (LE 2) ksS spS tk LS gS aS)) (b := (oX 1 hE ksE spE tk LE gE aE)) (r := (rA 4 (LS 0) 3 tk (fun i => some (dP i).1.1) (pW 5 ksD spD 1 tk dP 3 rw))) hst
      refine ro_geta hx hb hown hG hg cE hst 2 2 (by decide) rfl rfl k_286 d_E_place_24 ?_
      have hst : St dC dI A s.heap H locs (oW 4 (LE 2) ksS spS tk LS gS aS (oW 1 hE ksE spE tk LE gE aE (rA 4 (LS 0) 3 tk (fun i => some (dP i).1.1) (pW 5 ksD spD 1 tk dP 3 rw)))) := gr1 (a := (oX 1 hE ksE spE tk LE gE aE)) (b := (oX 4 (LE 2) ksS spS tk LS gS aS)) (r := (rA 4 (LS 0) 3 tk (fun i => some (dP i).1.1) (pW 5 ksD spD 1 tk dP 3 rw))) hst
      refine rn_geta hx hb hown hG hg cS hst 0 0 (by decide) rfl rfl t_164 d_E_place_27 ?_
      refine lv_iload_n hx hb d_E_place_30 rfl (lv_at hl 1 rfl) ?_
      obtain ⟨hn3, hm⟩ := gd_u hm
      have hst : St dC dI A s.heap H locs (rA 4 (LS 0) 3 tk (fun i => some (dP i).1.1) (oW 4 (LE 2) ksS spS tk LS gS aS (oW 1 hE ksE spE tk LE gE aE (pW 5 ksD spD 1 tk dP 3 rw)))) := gr2 (a := (oX 4 (LE 2) ksS spS tk LS gS aS)) (b := (oX 1 hE ksE spE tk LE gE aE)) (x := (rX 4 (LS 0) 3 tk (fun i => some (dP i).1.1))) (r := (pW 5 ksD spD 1 tk dP 3 rw)) hst
      refine ro_aald (a := (dP v1.toNatClampNeg).1.1) hx hb hg hst rfl hn3 rfl d_E_place_31 ?_
      have hst : St dC dI A s.heap H locs (pW 5 ksD spD 1 tk dP 3 (rA 4 (LS 0) 3 tk (fun i => some (dP i).1.1) (oW 4 (LE 2) ksS spS tk LS gS aS (oW 1 hE ksE spE tk LE gE aE rw)))) := gr3 (a := (rX 4 (LS 0) 3 tk (fun i => some (dP i).1.1))) (b := (oX 4 (LE 2) ksS spS tk LS gS aS)) (x := (oX 1 hE ksE spE tk LE gE aE)) (y := (pF 5 ksD spD 1 tk dP 3)) (r := rw) hst
      have hst := foc (d := v1.toNatClampNeg) hst (inb_lt hn3)
      refine rn_geta hx hb hown hG hg cD hst 1 1 (by decide) rfl rfl t_148 d_E_place_32 ?_
      refine lv_iload_n hx hb d_E_place_35 rfl (lv_at hl 2 rfl) ?_
      refine lv_iload_n hx hb d_E_place_36 rfl (lv_at hl 3 rfl) ?_
      have hst : St dC dI A s.heap H locs (oW 6 ((dP v1.toNatClampNeg).1.2.1 1) ksT spT tk (dP v1.toNatClampNeg).1.2.2 (dP v1.toNatClampNeg).2.2.2.1 (dP v1.toNatClampNeg).2.2.2.2 (oW 5 (dP v1.toNatClampNeg).1.1 ksD spD tk (dP v1.toNatClampNeg).1.2.1 (dP v1.toNatClampNeg).2.1 (dP v1.toNatClampNeg).2.2.1 (pO 5 ksD spD 1 tk dP 3 v1.toNatClampNeg (rA 4 (LS 0) 3 tk (fun i => some (dP i).1.1) (oW 4 (LE 2) ksS spS tk LS gS aS (oW 1 hE ksE spE tk LE gE aE rw)))))) := gr1 (a := (oX 5 (dP v1.toNatClampNeg).1.1 ksD spD tk (dP v1.toNatClampNeg).1.2.1 (dP v1.toNatClampNeg).2.1 (dP v1.toNatClampNeg).2.2.1)) (b := (oX 6 ((dP v1.toNatClampNeg).1.2.1 1) ksT spT tk (dP v1.toNatClampNeg).1.2.2 (dP v1.toNatClampNeg).2.2.2.1 (dP v1.toNatClampNeg).2.2.2.2)) (r := (pO 5 ksD spD 1 tk dP 3 v1.toNatClampNeg (rA 4 (LS 0) 3 tk (fun i => some (dP i).1.1) (oW 4 (LE 2) ksS spS tk LS gS aS (oW 1 hE ksE spE tk LE gE aE rw))))) hst
      obtain ⟨x4, hc5, hm⟩ := bd_u hm
      refine cl_vi hx hb hml hown hG hg (cT_placeOf l dC dI tk A ((dP v1.toNatClampNeg).1.2.1 1) (dP v1.toNatClampNeg).1.2.2 ((dP v1.toNatClampNeg).2.2.2.1) ((dP v1.toNatClampNeg).2.2.2.2) (oW 5 (dP v1.toNatClampNeg).1.1 ksD spD tk (dP v1.toNatClampNeg).1.2.1 (dP v1.toNatClampNeg).2.1 (dP v1.toNatClampNeg).2.2.1 (pO 5 ksD spD 1 tk dP 3 v1.toNatClampNeg (rA 4 (LS 0) 3 tk (fun i => some (dP i).1.1) (oW 4 (LE 2) ksS spS tk LS gS aS (oW 1 hE ksE spE tk LE gE aE rw))))) n v2 v3 _ hc5) (cw_v 2 hG k_1007 k_614 k_615 k_5 k_616 (by decide +kernel) ⟨by decide, by decide⟩) hst rfl oW_0 rfl hl.1 rfl (Nat.le_of_ble_eq_true rfl) ⟨Nat.le_refl 0, Nat.le_refl 0⟩ d_E_place_37 (fun H locs hst => ?_)
      have hst : St dC dI A s.heap H locs (pO 5 ksD spD 1 tk dP 3 v1.toNatClampNeg (oW 6 ((dP v1.toNatClampNeg).1.2.1 1) ksT spT tk (dP v1.toNatClampNeg).1.2.2 (dP v1.toNatClampNeg).2.2.2.1 (dP v1.toNatClampNeg).2.2.2.2 (oW 5 (dP v1.toNatClampNeg).1.1 ksD spD tk (dP v1.toNatClampNeg).1.2.1 (dP v1.toNatClampNeg).2.1 (dP v1.toNatClampNeg).2.2.1 (rA 4 (LS 0) 3 tk (fun i => some (dP i).1.1) (oW 4 (LE 2) ksS spS tk LS gS aS (oW 1 hE ksE spE tk LE gE aE rw)))))) := gr2 (a := (oX 6 ((dP v1.toNatClampNeg).1.2.1 1) ksT spT tk (dP v1.toNatClampNeg).1.2.2 (dP v1.toNatClampNeg).2.2.2.1 (dP v1.toNatClampNeg).2.2.2.2)) (b := (oX 5 (dP v1.toNatClampNeg).1.1 ksD spD tk (dP v1.toNatClampNeg).1.2.1 (dP v1.toNatClampNeg).2.1 (dP v1.toNatClampNeg).2.2.1)) (x := (pG 5 ksD spD 1 tk dP 3 v1.toNatClampNeg)) (r := (rA 4 (LS 0) 3 tk (fun i => some (dP i).1.1) (oW 4 (LE 2) ksS spS tk LS gS aS (oW 1 hE ksE spE tk LE gE aE rw)))) hst
      have hst : St dC dI A s.heap H locs (oW 6 ((dP v1.toNatClampNeg).1.2.1 1) ksT spT tk (dP v1.toNatClampNeg).1.2.2 (dP v1.toNatClampNeg).2.2.2.1 (dP v1.toNatClampNeg).2.2.2.2 (pO 5 ksD spD 1 tk dP 3 v1.toNatClampNeg (oW 5 (dP v1.toNatClampNeg).1.1 ksD spD tk (dP v1.toNatClampNeg).1.2.1 (dP v1.toNatClampNeg).2.1 (dP v1.toNatClampNeg).2.2.1 (rA 4 (LS 0) 3 tk (fun i => some (dP i).1.1) (oW 4 (LE 2) ksS spS tk LS gS aS (oW 1 hE ksE spE tk LE gE aE rw)))))) := gr1 (a := (pG 5 ksD spD 1 tk dP 3 v1.toNatClampNeg)) (b := (oX 6 ((dP v1.toNatClampNeg).1.2.1 1) ksT spT tk (dP v1.toNatClampNeg).1.2.2 (dP v1.toNatClampNeg).2.2.2.1 (dP v1.toNatClampNeg).2.2.2.2)) (r := (oW 5 (dP v1.toNatClampNeg).1.1 ksD spD tk (dP v1.toNatClampNeg).1.2.1 (dP v1.toNatClampNeg).2.1 (dP v1.toNatClampNeg).2.2.1 (rA 4 (LS 0) 3 tk (fun i => some (dP i).1.1) (oW 4 (LE 2) ksS spS tk LS gS aS (oW 1 hE ksE spE tk LE gE aE rw))))) hst
      have hst : St dC dI A s.heap H locs (oW 5 (dP v1.toNatClampNeg).1.1 ksD spD tk (dP v1.toNatClampNeg).1.2.1 (dP v1.toNatClampNeg).2.1 (dP v1.toNatClampNeg).2.2.1 (oW 6 ((dP v1.toNatClampNeg).1.2.1 1) ksT spT tk (dP v1.toNatClampNeg).1.2.2 (dP v1.toNatClampNeg).2.2.2.1 (dP v1.toNatClampNeg).2.2.2.2 (pO 5 ksD spD 1 tk dP 3 v1.toNatClampNeg (rA 4 (LS 0) 3 tk (fun i => some (dP i).1.1) (oW 4 (LE 2) ksS spS tk LS gS aS (oW 1 hE ksE spE tk LE gE aE rw)))))) := gr2 (a := (oX 6 ((dP v1.toNatClampNeg).1.2.1 1) ksT spT tk (dP v1.toNatClampNeg).1.2.2 (dP v1.toNatClampNeg).2.2.2.1 (dP v1.toNatClampNeg).2.2.2.2)) (b := (pG 5 ksD spD 1 tk dP 3 v1.toNatClampNeg)) (x := (oX 5 (dP v1.toNatClampNeg).1.1 ksD spD tk (dP v1.toNatClampNeg).1.2.1 (dP v1.toNatClampNeg).2.1 (dP v1.toNatClampNeg).2.2.1)) (r := (rA 4 (LS 0) 3 tk (fun i => some (dP i).1.1) (oW 4 (LE 2) ksS spS tk LS gS aS (oW 1 hE ksE spE tk LE gE aE rw)))) hst
      have hst := unf0 (d := v1.toNatClampNeg) hst (inb_lt hn3)
      have hst : St dC dI A s.heap H locs (rA 4 (LS 0) 3 tk (fun i => some (dP i).1.1) (pW 5 ksD spD 1 tk dP 3 (oW 4 (LE 2) ksS spS tk LS gS aS (oW 1 hE ksE spE tk LE gE aE rw)))) := gr1 (a := (pF 5 ksD spD 1 tk dP 3)) (b := (rX 4 (LS 0) 3 tk (fun i => some (dP i).1.1))) (r := (oW 4 (LE 2) ksS spS tk LS gS aS (oW 1 hE ksE spE tk LE gE aE rw))) hst
      have hst : St dC dI A s.heap H locs (oW 4 (LE 2) ksS spS tk LS gS aS (rA 4 (LS 0) 3 tk (fun i => some (dP i).1.1) (pW 5 ksD spD 1 tk dP 3 (oW 1 hE ksE spE tk LE gE aE rw)))) := gr2 (a := (rX 4 (LS 0) 3 tk (fun i => some (dP i).1.1))) (b := (pF 5 ksD spD 1 tk dP 3)) (x := (oX 4 (LE 2) ksS spS tk LS gS aS)) (r := (oW 1 hE ksE spE tk LE gE aE rw)) hst
      have hst : St dC dI A s.heap H locs (oW 1 hE ksE spE tk LE gE aE (oW 4 (LE 2) ksS spS tk LS gS aS (rA 4 (LS 0) 3 tk (fun i => some (dP i).1.1) (pW 5 ksD spD 1 tk dP 3 rw)))) := gr3 (a := (oX 4 (LE 2) ksS spS tk LS gS aS)) (b := (rX 4 (LS 0) 3 tk (fun i => some (dP i).1.1))) (x := (pF 5 ksD spD 1 tk dP 3)) (y := (oX 1 hE ksE spE tk LE gE aE)) (r := rw) hst
      have hst9 := hst
      have he := (Option.some.inj hm)
      cases he
      exact rt_i hx hb hr hlk rfl hst9 rfl d_E_place_40
    · have hm := it_f hm h2
      cases hm
