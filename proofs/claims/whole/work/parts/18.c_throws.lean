def mE_request_i (v1 : Int32) (gE : aG) (aE : aA) (gQ : aG) (aQ : aA) (dO : aP) : Option Unit := if v1 < 0 then (some (())) else (if v1 < (gQ 1) then (none) else (some (())))
set_option maxHeartbeats 4000000 in
set_option maxRecDepth 100000 in
theorem cE_request_i (l : Launch) (hNT : NoTr l) (dC : Nat → ClassId) (dI : Nat → Nat → Nat) (tk : Nat → ClassId) (A : Nat → Prop) (hE : Nat) (LE : Nat → Nat) (gE : aG) (aE : aA) (LQ : Nat → Nat) (gQ : aG) (aQ : aA) (dO : aP) (rw : va_W) (v1 : Int32) (hm : mE_request_i v1 gE aE gQ aQ dO = some ()) : CtX l dC dI tk A ⟨"EditorServer", "request", "(I)I"⟩ prog_1_method_6_code 2 (some .int) [.ref hE, .int v1] "java/lang/IndexOutOfBoundsException" (oW 1 hE ksE spE tk LE gE aE (oW 7 (LE 3) ksQ spQ tk LQ gQ aQ (rA 5 (LQ 0) 8 tk (fun i => some (dO i).1.1) (pW 8 ksK spK 0 tk dO 8 rw)))) := by
  refine entX (by decide) (Nat.le_of_ble_eq_true rfl) ?_
  intro p e s m args below meth c hx hb hr hml hown hlk hxt hG hg hst ls hl
  unfold mE_request_i at hm
  have hl : lv_has ls 2 [(0, .ref hE), (1, .int v1)] := hl
  obtain ⟨H, hH⟩ : ∃ H, H = s.heap := ⟨_, rfl⟩
  obtain ⟨locs, hlc⟩ : ∃ locs : List Loc, locs = [] := ⟨_, rfl⟩
  have hst : St dC dI A s.heap H locs (oW 1 hE ksE spE tk LE gE aE (oW 7 (LE 3) ksQ spQ tk LQ gQ aQ (rA 5 (LQ 0) 8 tk (fun i => some (dO i).1.1) (pW 8 ksK spK 0 tk dO 8 rw)))) := by rw [hH, hlc]; exact hst
  suffices hw : W p l e (rmn 6 100 1 6) s m args below meth c H locs 0 0 (MQX below (QX dC dI A "java/lang/IndexOutOfBoundsException" (oW 1 hE ksE spE tk LE gE aE (oW 7 (LE 3) ksQ spQ tk LQ gQ aQ (rA 5 (LQ 0) 8 tk (fun i => some (dO i).1.1) (pW 8 ksK spK 0 tk dO 8 rw))))) args s 1 6 A) (F0 m 0 ls []) by rw [hH, hlc] at hw; exact hw
  refine lv_iload_n hx hb d_E_request_0 rfl (lv_at hl 1 rfl) ?_
  refine lv_if_lt (tgt := 15) hx hb d_E_request_1 (by decide) (fun h1 => ?_) (fun h1 => ?_)
  · have hm := it_t hm h1
    subst hH
    subst hlc
    exact ro_throw hx hb hml hown hlk hxt hG hg hst hNT k_680 k_681 k_22 (by decide +kernel) (oa_i hG hg.2.2.2.2.2.2.2.2.2.2.2.2.1 hg.2.2.2.2.2.2.2.2.2.2.2.2.2.1) hl.1 d_E_request_15 d_E_request_18 d_E_request_19 d_E_request_22
  · have hm := it_f hm h1
    refine lv_iload_n hx hb d_E_request_4 rfl (lv_at hl 1 rfl) ?_
    refine lv_aload_n hx hb d_E_request_5 rfl (lv_at hl 0 rfl) ?_
    refine ro_geta hx hb hown hG hg cE hst 3 3 (by decide) rfl rfl k_287 d_E_request_6 ?_
    have hst : St dC dI A s.heap H locs (oW 7 (LE 3) ksQ spQ tk LQ gQ aQ (oW 1 hE ksE spE tk LE gE aE (rA 5 (LQ 0) 8 tk (fun i => some (dO i).1.1) (pW 8 ksK spK 0 tk dO 8 rw)))) := gr1 (a := (oX 1 hE ksE spE tk LE gE aE)) (b := (oX 7 (LE 3) ksQ spQ tk LQ gQ aQ)) (r := (rA 5 (LQ 0) 8 tk (fun i => some (dO i).1.1) (pW 8 ksK spK 0 tk dO 8 rw))) hst
    refine rn_geti hx hb hown hG hg cQ hst 1 (by decide) rfl rfl t_215 d_E_request_9 ?_
    refine lv_icmp_lt (tgt := 23) hx hb d_E_request_12 (by decide) (fun h2 => ?_) (fun h2 => ?_)
    · have hm := it_t hm h2
      cases hm
    · have hm := it_f hm h2
      have hst : St dC dI A s.heap H locs (pW 8 ksK spK 0 tk dO 8 (oW 7 (LE 3) ksQ spQ tk LQ gQ aQ (oW 1 hE ksE spE tk LE gE aE (rA 5 (LQ 0) 8 tk (fun i => some (dO i).1.1) rw)))) := gr3 (a := (oX 7 (LE 3) ksQ spQ tk LQ gQ aQ)) (b := (oX 1 hE ksE spE tk LE gE aE)) (x := (rX 5 (LQ 0) 8 tk (fun i => some (dO i).1.1))) (y := (pF 8 ksK spK 0 tk dO 8)) (r := rw) hst
      have hst : St dC dI A s.heap H locs (rA 5 (LQ 0) 8 tk (fun i => some (dO i).1.1) (pW 8 ksK spK 0 tk dO 8 (oW 7 (LE 3) ksQ spQ tk LQ gQ aQ (oW 1 hE ksE spE tk LE gE aE rw)))) := gr3 (a := (pF 8 ksK spK 0 tk dO 8)) (b := (oX 7 (LE 3) ksQ spQ tk LQ gQ aQ)) (x := (oX 1 hE ksE spE tk LE gE aE)) (y := (rX 5 (LQ 0) 8 tk (fun i => some (dO i).1.1))) (r := rw) hst
      have hst : St dC dI A s.heap H locs (oW 7 (LE 3) ksQ spQ tk LQ gQ aQ (rA 5 (LQ 0) 8 tk (fun i => some (dO i).1.1) (pW 8 ksK spK 0 tk dO 8 (oW 1 hE ksE spE tk LE gE aE rw)))) := gr2 (a := (rX 5 (LQ 0) 8 tk (fun i => some (dO i).1.1))) (b := (pF 8 ksK spK 0 tk dO 8)) (x := (oX 7 (LE 3) ksQ spQ tk LQ gQ aQ)) (r := (oW 1 hE ksE spE tk LE gE aE rw)) hst
      have hst : St dC dI A s.heap H locs (oW 1 hE ksE spE tk LE gE aE (oW 7 (LE 3) ksQ spQ tk LQ gQ aQ (rA 5 (LQ 0) 8 tk (fun i => some (dO i).1.1) (pW 8 ksK spK 0 tk dO 8 rw)))) := gr3 (a := (oX 7 (LE 3) ksQ spQ tk LQ gQ aQ)) (b := (rX 5 (LQ 0) 8 tk (fun i => some (dO i).1.1))) (x := (pF 8 ksK spK 0 tk dO 8)) (y := (oX 1 hE ksE spE tk LE gE aE)) (r := rw) hst
      subst hH
      subst hlc
      exact ro_throw hx hb hml hown hlk hxt hG hg hst hNT k_680 k_681 k_22 (by decide +kernel) (oa_i hG hg.2.2.2.2.2.2.2.2.2.2.2.2.1 hg.2.2.2.2.2.2.2.2.2.2.2.2.2.1) hl.1 d_E_request_15 d_E_request_18 d_E_request_19 d_E_request_22
def mE_run_i (v1 : Int32) (gE : aG) (aE : aA) (gN : aG) (aN : aA) (gQ : aG) (aQ : aA) (dO : aP) : Option Unit := if v1 < 0 then (some (())) else (if v1 < (gQ 1) then (none) else (some (())))
set_option maxHeartbeats 4000000 in
set_option maxRecDepth 100000 in
theorem cE_run_i (l : Launch) (hNT : NoTr l) (dC : Nat → ClassId) (dI : Nat → Nat → Nat) (tk : Nat → ClassId) (A : Nat → Prop) (hE : Nat) (LE : Nat → Nat) (gE : aG) (aE : aA) (LN : Nat → Nat) (gN : aG) (aN : aA) (LQ : Nat → Nat) (gQ : aG) (aQ : aA) (dO : aP) (rw : va_W) (v1 : Int32) (hm : mE_run_i v1 gE aE gN aN gQ aQ dO = some ()) : CtX l dC dI tk A ⟨"EditorServer", "run", "(I)I"⟩ prog_1_method_7_code 4 (some .int) [.ref hE, .int v1] "java/lang/IndexOutOfBoundsException" (oW 1 hE ksE spE tk LE gE aE (oW 9 (LE 4) ksN spN tk LN gN aN (oW 7 (LE 3) ksQ spQ tk LQ gQ aQ (rA 5 (LQ 0) 8 tk (fun i => some (dO i).1.1) (pW 8 ksK spK 0 tk dO 8 rw))))) := by
  refine entX (by decide) (Nat.le_of_ble_eq_true rfl) ?_
  intro p e s m args below meth c hx hb hr hml hown hlk hxt hG hg hst ls hl
  unfold mE_run_i at hm
  have hl : lv_has ls 4 [(0, .ref hE), (1, .int v1)] := hl
  obtain ⟨H, hH⟩ : ∃ H, H = s.heap := ⟨_, rfl⟩
  obtain ⟨locs, hlc⟩ : ∃ locs : List Loc, locs = [] := ⟨_, rfl⟩
  have hst : St dC dI A s.heap H locs (oW 1 hE ksE spE tk LE gE aE (oW 9 (LE 4) ksN spN tk LN gN aN (oW 7 (LE 3) ksQ spQ tk LQ gQ aQ (rA 5 (LQ 0) 8 tk (fun i => some (dO i).1.1) (pW 8 ksK spK 0 tk dO 8 rw))))) := by rw [hH, hlc]; exact hst
  suffices hw : W p l e (rmn 6 100 1 6) s m args below meth c H locs 0 0 (MQX below (QX dC dI A "java/lang/IndexOutOfBoundsException" (oW 1 hE ksE spE tk LE gE aE (oW 9 (LE 4) ksN spN tk LN gN aN (oW 7 (LE 3) ksQ spQ tk LQ gQ aQ (rA 5 (LQ 0) 8 tk (fun i => some (dO i).1.1) (pW 8 ksK spK 0 tk dO 8 rw)))))) args s 1 6 A) (F0 m 0 ls []) by rw [hH, hlc] at hw; exact hw
  refine lv_iload_n hx hb d_E_run_0 rfl (lv_at hl 1 rfl) ?_
  refine lv_if_lt (tgt := 15) hx hb d_E_run_1 (by decide) (fun h1 => ?_) (fun h1 => ?_)
  · have hm := it_t hm h1
    subst hH
    subst hlc
    exact ro_throw hx hb hml hown hlk hxt hG hg hst hNT k_680 k_681 k_22 (by decide +kernel) (oa_i hG hg.2.2.2.2.2.2.2.2.2.2.2.2.1 hg.2.2.2.2.2.2.2.2.2.2.2.2.2.1) hl.1 d_E_run_15 d_E_run_18 d_E_run_19 d_E_run_22
  · have hm := it_f hm h1
    refine lv_iload_n hx hb d_E_run_4 rfl (lv_at hl 1 rfl) ?_
    refine lv_aload_n hx hb d_E_run_5 rfl (lv_at hl 0 rfl) ?_
    refine ro_geta hx hb hown hG hg cE hst 3 3 (by decide) rfl rfl k_287 d_E_run_6 ?_
    have hst : St dC dI A s.heap H locs (oW 7 (LE 3) ksQ spQ tk LQ gQ aQ (oW 1 hE ksE spE tk LE gE aE (oW 9 (LE 4) ksN spN tk LN gN aN (rA 5 (LQ 0) 8 tk (fun i => some (dO i).1.1) (pW 8 ksK spK 0 tk dO 8 rw))))) := gr2 (a := (oX 1 hE ksE spE tk LE gE aE)) (b := (oX 9 (LE 4) ksN spN tk LN gN aN)) (x := (oX 7 (LE 3) ksQ spQ tk LQ gQ aQ)) (r := (rA 5 (LQ 0) 8 tk (fun i => some (dO i).1.1) (pW 8 ksK spK 0 tk dO 8 rw))) hst
    refine rn_geti hx hb hown hG hg cQ hst 1 (by decide) rfl rfl t_215 d_E_run_9 ?_
    refine lv_icmp_lt (tgt := 23) hx hb d_E_run_12 (by decide) (fun h2 => ?_) (fun h2 => ?_)
    · have hm := it_t hm h2
      cases hm
    · have hm := it_f hm h2
      have hst : St dC dI A s.heap H locs (pW 8 ksK spK 0 tk dO 8 (oW 7 (LE 3) ksQ spQ tk LQ gQ aQ (oW 1 hE ksE spE tk LE gE aE (oW 9 (LE 4) ksN spN tk LN gN aN (rA 5 (LQ 0) 8 tk (fun i => some (dO i).1.1) rw))))) := gr4 (a := (oX 7 (LE 3) ksQ spQ tk LQ gQ aQ)) (b := (oX 1 hE ksE spE tk LE gE aE)) (x := (oX 9 (LE 4) ksN spN tk LN gN aN)) (y := (rX 5 (LQ 0) 8 tk (fun i => some (dO i).1.1))) (z := (pF 8 ksK spK 0 tk dO 8)) (r := rw) hst
      have hst : St dC dI A s.heap H locs (rA 5 (LQ 0) 8 tk (fun i => some (dO i).1.1) (pW 8 ksK spK 0 tk dO 8 (oW 7 (LE 3) ksQ spQ tk LQ gQ aQ (oW 1 hE ksE spE tk LE gE aE (oW 9 (LE 4) ksN spN tk LN gN aN rw))))) := gr4 (a := (pF 8 ksK spK 0 tk dO 8)) (b := (oX 7 (LE 3) ksQ spQ tk LQ gQ aQ)) (x := (oX 1 hE ksE spE tk LE gE aE)) (y := (oX 9 (LE 4) ksN spN tk LN gN aN)) (z := (rX 5 (LQ 0) 8 tk (fun i => some (dO i).1.1))) (r := rw) hst
      have hst : St dC dI A s.heap H locs (oW 7 (LE 3) ksQ spQ tk LQ gQ aQ (rA 5 (LQ 0) 8 tk (fun i => some (dO i).1.1) (pW 8 ksK spK 0 tk dO 8 (oW 1 hE ksE spE tk LE gE aE (oW 9 (LE 4) ksN spN tk LN gN aN rw))))) := gr2 (a := (rX 5 (LQ 0) 8 tk (fun i => some (dO i).1.1))) (b := (pF 8 ksK spK 0 tk dO 8)) (x := (oX 7 (LE 3) ksQ spQ tk LQ gQ aQ)) (r := (oW 1 hE ksE spE tk LE gE aE (oW 9 (LE 4) ksN spN tk LN gN aN rw))) hst
      have hst : St dC dI A s.heap H locs (oW 9 (LE 4) ksN spN tk LN gN aN (oW 7 (LE 3) ksQ spQ tk LQ gQ aQ (rA 5 (LQ 0) 8 tk (fun i => some (dO i).1.1) (pW 8 ksK spK 0 tk dO 8 (oW 1 hE ksE spE tk LE gE aE rw))))) := gr4 (a := (oX 7 (LE 3) ksQ spQ tk LQ gQ aQ)) (b := (rX 5 (LQ 0) 8 tk (fun i => some (dO i).1.1))) (x := (pF 8 ksK spK 0 tk dO 8)) (y := (oX 1 hE ksE spE tk LE gE aE)) (z := (oX 9 (LE 4) ksN spN tk LN gN aN)) (r := rw) hst
      have hst : St dC dI A s.heap H locs (oW 1 hE ksE spE tk LE gE aE (oW 9 (LE 4) ksN spN tk LN gN aN (oW 7 (LE 3) ksQ spQ tk LQ gQ aQ (rA 5 (LQ 0) 8 tk (fun i => some (dO i).1.1) (pW 8 ksK spK 0 tk dO 8 rw))))) := gr4 (a := (oX 9 (LE 4) ksN spN tk LN gN aN)) (b := (oX 7 (LE 3) ksQ spQ tk LQ gQ aQ)) (x := (rX 5 (LQ 0) 8 tk (fun i => some (dO i).1.1))) (y := (pF 8 ksK spK 0 tk dO 8)) (z := (oX 1 hE ksE spE tk LE gE aE)) (r := rw) hst
      subst hH
      subst hlc
      exact ro_throw hx hb hml hown hlk hxt hG hg hst hNT k_680 k_681 k_22 (by decide +kernel) (oa_i hG hg.2.2.2.2.2.2.2.2.2.2.2.2.1 hg.2.2.2.2.2.2.2.2.2.2.2.2.2.1) hl.1 d_E_run_15 d_E_run_18 d_E_run_19 d_E_run_22
def mE_response_i (v1 : Int32) (v2 : Int32) (gE : aG) (aE : aA) (gN : aG) (aN : aA) : Option Unit := if v1 < 0 then (some (())) else (if v1 < (gN 5) then (none) else (some (())))
set_option maxHeartbeats 4000000 in
set_option maxRecDepth 100000 in
theorem cE_response_i (l : Launch) (hNT : NoTr l) (dC : Nat → ClassId) (dI : Nat → Nat → Nat) (tk : Nat → ClassId) (A : Nat → Prop) (hE : Nat) (LE : Nat → Nat) (gE : aG) (aE : aA) (LN : Nat → Nat) (gN : aG) (aN : aA) (rw : va_W) (v1 : Int32) (v2 : Int32) (hm : mE_response_i v1 v2 gE aE gN aN = some ()) : CtX l dC dI tk A ⟨"EditorServer", "response", "(II)I"⟩ prog_1_method_9_code 3 (some .int) [.ref hE, .int v1, .int v2] "java/lang/IndexOutOfBoundsException" (oW 1 hE ksE spE tk LE gE aE (oW 9 (LE 4) ksN spN tk LN gN aN rw)) := by
  refine entX (by decide) (Nat.le_of_ble_eq_true rfl) ?_
  intro p e s m args below meth c hx hb hr hml hown hlk hxt hG hg hst ls hl
  unfold mE_response_i at hm
  have hl : lv_has ls 3 [(0, .ref hE), (1, .int v1), (2, .int v2)] := hl
  obtain ⟨H, hH⟩ : ∃ H, H = s.heap := ⟨_, rfl⟩
  obtain ⟨locs, hlc⟩ : ∃ locs : List Loc, locs = [] := ⟨_, rfl⟩
  have hst : St dC dI A s.heap H locs (oW 1 hE ksE spE tk LE gE aE (oW 9 (LE 4) ksN spN tk LN gN aN rw)) := by rw [hH, hlc]; exact hst
  suffices hw : W p l e (rmn 6 100 1 6) s m args below meth c H locs 0 0 (MQX below (QX dC dI A "java/lang/IndexOutOfBoundsException" (oW 1 hE ksE spE tk LE gE aE (oW 9 (LE 4) ksN spN tk LN gN aN rw))) args s 1 6 A) (F0 m 0 ls []) by rw [hH, hlc] at hw; exact hw
  refine lv_iload_n hx hb d_E_response_0 rfl (lv_at hl 1 rfl) ?_
  refine lv_if_lt (tgt := 15) hx hb d_E_response_1 (by decide) (fun h1 => ?_) (fun h1 => ?_)
  · have hm := it_t hm h1
    subst hH
    subst hlc
    exact ro_throw hx hb hml hown hlk hxt hG hg hst hNT k_680 k_681 k_22 (by decide +kernel) (oa_i hG hg.2.2.2.2.2.2.2.2.2.2.2.2.1 hg.2.2.2.2.2.2.2.2.2.2.2.2.2.1) hl.1 d_E_response_15 d_E_response_18 d_E_response_19 d_E_response_22
  · have hm := it_f hm h1
    refine lv_iload_n hx hb d_E_response_4 rfl (lv_at hl 1 rfl) ?_
    refine lv_aload_n hx hb d_E_response_5 rfl (lv_at hl 0 rfl) ?_
    refine ro_geta hx hb hown hG hg cE hst 4 4 (by decide) rfl rfl k_288 d_E_response_6 ?_
    have hst : St dC dI A s.heap H locs (oW 9 (LE 4) ksN spN tk LN gN aN (oW 1 hE ksE spE tk LE gE aE rw)) := gr1 (a := (oX 1 hE ksE spE tk LE gE aE)) (b := (oX 9 (LE 4) ksN spN tk LN gN aN)) (r := rw) hst
    refine rn_geti hx hb hown hG hg cN hst 5 (by decide) rfl rfl t_270 d_E_response_9 ?_
    refine lv_icmp_lt (tgt := 23) hx hb d_E_response_12 (by decide) (fun h2 => ?_) (fun h2 => ?_)
    · have hm := it_t hm h2
      cases hm
    · have hm := it_f hm h2
      have hst : St dC dI A s.heap H locs (oW 1 hE ksE spE tk LE gE aE (oW 9 (LE 4) ksN spN tk LN gN aN rw)) := gr1 (a := (oX 9 (LE 4) ksN spN tk LN gN aN)) (b := (oX 1 hE ksE spE tk LE gE aE)) (r := rw) hst
      subst hH
      subst hlc
      exact ro_throw hx hb hml hown hlk hxt hG hg hst hNT k_680 k_681 k_22 (by decide +kernel) (oa_i hG hg.2.2.2.2.2.2.2.2.2.2.2.2.1 hg.2.2.2.2.2.2.2.2.2.2.2.2.2.1) hl.1 d_E_response_15 d_E_response_18 d_E_response_19 d_E_response_22
def mE_response_a (v1 : Int32) (v2 : Int32) (gE : aG) (aE : aA) (gN : aG) (aN : aA) : Option Unit := if v1 < 0 then (none) else (if v1 < (gN 5) then (if v2 = 0 then (none) else (if v2 = 1 then (none) else (if v2 = 2 then (none) else (if v2 = 3 then (none) else (some (())))))) else (none))
set_option maxHeartbeats 4000000 in
set_option maxRecDepth 100000 in
theorem cE_response_a (l : Launch) (hNT : NoTr l) (dC : Nat → ClassId) (dI : Nat → Nat → Nat) (tk : Nat → ClassId) (A : Nat → Prop) (hE : Nat) (LE : Nat → Nat) (gE : aG) (aE : aA) (LN : Nat → Nat) (gN : aG) (aN : aA) (rw : va_W) (v1 : Int32) (v2 : Int32) (hm : mE_response_a v1 v2 gE aE gN aN = some ()) : CtX l dC dI tk A ⟨"EditorServer", "response", "(II)I"⟩ prog_1_method_9_code 3 (some .int) [.ref hE, .int v1, .int v2] "java/lang/IllegalArgumentException" (oW 1 hE ksE spE tk LE gE aE (oW 9 (LE 4) ksN spN tk LN gN aN rw)) := by
  refine entX (by decide) (Nat.le_of_ble_eq_true rfl) ?_
  intro p e s m args below meth c hx hb hr hml hown hlk hxt hG hg hst ls hl
  unfold mE_response_a at hm
  have hl : lv_has ls 3 [(0, .ref hE), (1, .int v1), (2, .int v2)] := hl
  obtain ⟨H, hH⟩ : ∃ H, H = s.heap := ⟨_, rfl⟩
  obtain ⟨locs, hlc⟩ : ∃ locs : List Loc, locs = [] := ⟨_, rfl⟩
  have hst : St dC dI A s.heap H locs (oW 1 hE ksE spE tk LE gE aE (oW 9 (LE 4) ksN spN tk LN gN aN rw)) := by rw [hH, hlc]; exact hst
  suffices hw : W p l e (rmn 6 100 1 6) s m args below meth c H locs 0 0 (MQX below (QX dC dI A "java/lang/IllegalArgumentException" (oW 1 hE ksE spE tk LE gE aE (oW 9 (LE 4) ksN spN tk LN gN aN rw))) args s 1 6 A) (F0 m 0 ls []) by rw [hH, hlc] at hw; exact hw
  refine lv_iload_n hx hb d_E_response_0 rfl (lv_at hl 1 rfl) ?_
  refine lv_if_lt (tgt := 15) hx hb d_E_response_1 (by decide) (fun h1 => ?_) (fun h1 => ?_)
  · have hm := it_t hm h1
    cases hm
  · have hm := it_f hm h1
    refine lv_iload_n hx hb d_E_response_4 rfl (lv_at hl 1 rfl) ?_
    refine lv_aload_n hx hb d_E_response_5 rfl (lv_at hl 0 rfl) ?_
    refine ro_geta hx hb hown hG hg cE hst 4 4 (by decide) rfl rfl k_288 d_E_response_6 ?_
    have hst : St dC dI A s.heap H locs (oW 9 (LE 4) ksN spN tk LN gN aN (oW 1 hE ksE spE tk LE gE aE rw)) := gr1 (a := (oX 1 hE ksE spE tk LE gE aE)) (b := (oX 9 (LE 4) ksN spN tk LN gN aN)) (r := rw) hst
    refine rn_geti hx hb hown hG hg cN hst 5 (by decide) rfl rfl t_270 d_E_response_9 ?_
    refine lv_icmp_lt (tgt := 23) hx hb d_E_response_12 (by decide) (fun h2 => ?_) (fun h2 => ?_)
    · have hm := it_t hm h2
      refine lv_iload_n hx hb d_E_response_23 rfl (lv_at hl 2 rfl) ?_
      by_cases h3 : v2 = 0
      · have hm := it_t hm h3
        refine lv_tableIn (off := 32) (tgt := 56) hx hb d_E_response_24 (by rw [h3]; decide) (by rw [h3]; decide) (by rw [h3]; rfl) (by decide) ?_
        cases hm
      have hm := it_f hm h3
      by_cases h4 : v2 = 1
      · have hm := it_t hm h4
        refine lv_tableIn (off := 42) (tgt := 66) hx hb d_E_response_24 (by rw [h4]; decide) (by rw [h4]; decide) (by rw [h4]; rfl) (by decide) ?_
        cases hm
      have hm := it_f hm h4
      by_cases h5 : v2 = 2
      · have hm := it_t hm h5
        refine lv_tableIn (off := 60) (tgt := 84) hx hb d_E_response_24 (by rw [h5]; decide) (by rw [h5]; decide) (by rw [h5]; rfl) (by decide) ?_
        cases hm
      have hm := it_f hm h5
      by_cases h6 : v2 = 3
      · have hm := it_t hm h6
        refine lv_tableIn (off := 78) (tgt := 102) hx hb d_E_response_24 (by rw [h6]; decide) (by rw [h6]; decide) (by rw [h6]; rfl) (by decide) ?_
        cases hm
      have hm := it_f hm h6
      refine lv_tableOut (tgt := 112) hx hb d_E_response_24 (sw_out4 h3 h4 h5 h6) (by decide) ?_
      have hst : St dC dI A s.heap H locs (oW 1 hE ksE spE tk LE gE aE (oW 9 (LE 4) ksN spN tk LN gN aN rw)) := gr1 (a := (oX 9 (LE 4) ksN spN tk LN gN aN)) (b := (oX 1 hE ksE spE tk LE gE aE)) (r := rw) hst
      subst hH
      subst hlc
      exact ro_throw hx hb hml hown hlk hxt hG hg hst hNT k_774 k_775 k_23 (by decide +kernel) (oa_a hG hg.2.2.2.2.2.2.2.2.2.2.2.2.1 hg.2.2.2.2.2.2.2.2.2.2.2.2.2.1) hl.1 d_E_response_112 d_E_response_115 d_E_response_116 d_E_response_119
    · have hm := it_f hm h2
      cases hm
theorem d_E_written_0 : decode prog_1_method_10_code 0 = .ok (.iload_n 1, 1) := by decide +kernel
theorem d_E_written_1 : decode prog_1_method_10_code 1 = .ok (.ifCond .lt 14, 3) := by decide +kernel
theorem d_E_written_4 : decode prog_1_method_10_code 4 = .ok (.iload_n 1, 1) := by decide +kernel
theorem d_E_written_5 : decode prog_1_method_10_code 5 = .ok (.aload_n 0, 1) := by decide +kernel
theorem d_E_written_6 : decode prog_1_method_10_code 6 = .ok (.getfield 46, 3) := by decide +kernel
theorem d_E_written_9 : decode prog_1_method_10_code 9 = .ok (.getfield 108, 3) := by decide +kernel
theorem d_E_written_12 : decode prog_1_method_10_code 12 = .ok (.if_icmp .lt 11, 3) := by decide +kernel
theorem d_E_written_15 : decode prog_1_method_10_code 15 = .ok (.new 81, 3) := by decide +kernel
theorem d_E_written_18 : decode prog_1_method_10_code 18 = .ok (.dup, 1) := by decide +kernel
theorem d_E_written_19 : decode prog_1_method_10_code 19 = .ok (.invokespecial 83, 3) := by decide +kernel
theorem d_E_written_22 : decode prog_1_method_10_code 22 = .ok (.athrow, 1) := by decide +kernel
def mE_written_i (v1 : Int32) (v2 : Int32) (gE : aG) (aE : aA) (gN : aG) (aN : aA) : Option Unit := if v1 < 0 then (some (())) else (if v1 < (gN 5) then (none) else (some (())))
set_option maxHeartbeats 4000000 in
set_option maxRecDepth 100000 in
theorem cE_written_i (l : Launch) (hNT : NoTr l) (dC : Nat → ClassId) (dI : Nat → Nat → Nat) (tk : Nat → ClassId) (A : Nat → Prop) (hE : Nat) (LE : Nat → Nat) (gE : aG) (aE : aA) (LN : Nat → Nat) (gN : aG) (aN : aA) (rw : va_W) (v1 : Int32) (v2 : Int32) (hm : mE_written_i v1 v2 gE aE gN aN = some ()) : CtX l dC dI tk A ⟨"EditorServer", "written", "(II)C"⟩ prog_1_method_10_code 3 (some .char) [.ref hE, .int v1, .int v2] "java/lang/IndexOutOfBoundsException" (oW 1 hE ksE spE tk LE gE aE (oW 9 (LE 4) ksN spN tk LN gN aN rw)) := by
  refine entX (by decide) (Nat.le_of_ble_eq_true rfl) ?_
  intro p e s m args below meth c hx hb hr hml hown hlk hxt hG hg hst ls hl
  unfold mE_written_i at hm
  have hl : lv_has ls 3 [(0, .ref hE), (1, .int v1), (2, .int v2)] := hl
  obtain ⟨H, hH⟩ : ∃ H, H = s.heap := ⟨_, rfl⟩
  obtain ⟨locs, hlc⟩ : ∃ locs : List Loc, locs = [] := ⟨_, rfl⟩
  have hst : St dC dI A s.heap H locs (oW 1 hE ksE spE tk LE gE aE (oW 9 (LE 4) ksN spN tk LN gN aN rw)) := by rw [hH, hlc]; exact hst
  suffices hw : W p l e (rmn 6 100 1 6) s m args below meth c H locs 0 0 (MQX below (QX dC dI A "java/lang/IndexOutOfBoundsException" (oW 1 hE ksE spE tk LE gE aE (oW 9 (LE 4) ksN spN tk LN gN aN rw))) args s 1 6 A) (F0 m 0 ls []) by rw [hH, hlc] at hw; exact hw
  refine lv_iload_n hx hb d_E_written_0 rfl (lv_at hl 1 rfl) ?_
  refine lv_if_lt (tgt := 15) hx hb d_E_written_1 (by decide) (fun h1 => ?_) (fun h1 => ?_)
  · have hm := it_t hm h1
    subst hH
    subst hlc
    exact ro_throw hx hb hml hown hlk hxt hG hg hst hNT k_680 k_681 k_22 (by decide +kernel) (oa_i hG hg.2.2.2.2.2.2.2.2.2.2.2.2.1 hg.2.2.2.2.2.2.2.2.2.2.2.2.2.1) hl.1 d_E_written_15 d_E_written_18 d_E_written_19 d_E_written_22
  · have hm := it_f hm h1
    refine lv_iload_n hx hb d_E_written_4 rfl (lv_at hl 1 rfl) ?_
    refine lv_aload_n hx hb d_E_written_5 rfl (lv_at hl 0 rfl) ?_
    refine ro_geta hx hb hown hG hg cE hst 4 4 (by decide) rfl rfl k_288 d_E_written_6 ?_
    have hst : St dC dI A s.heap H locs (oW 9 (LE 4) ksN spN tk LN gN aN (oW 1 hE ksE spE tk LE gE aE rw)) := gr1 (a := (oX 1 hE ksE spE tk LE gE aE)) (b := (oX 9 (LE 4) ksN spN tk LN gN aN)) (r := rw) hst
    refine rn_geti hx hb hown hG hg cN hst 5 (by decide) rfl rfl t_270 d_E_written_9 ?_
    refine lv_icmp_lt (tgt := 23) hx hb d_E_written_12 (by decide) (fun h2 => ?_) (fun h2 => ?_)
    · have hm := it_t hm h2
      cases hm
    · have hm := it_f hm h2
      have hst : St dC dI A s.heap H locs (oW 1 hE ksE spE tk LE gE aE (oW 9 (LE 4) ksN spN tk LN gN aN rw)) := gr1 (a := (oX 9 (LE 4) ksN spN tk LN gN aN)) (b := (oX 1 hE ksE spE tk LE gE aE)) (r := rw) hst
      subst hH
      subst hlc
      exact ro_throw hx hb hml hown hlk hxt hG hg hst hNT k_680 k_681 k_22 (by decide +kernel) (oa_i hG hg.2.2.2.2.2.2.2.2.2.2.2.2.1 hg.2.2.2.2.2.2.2.2.2.2.2.2.2.1) hl.1 d_E_written_15 d_E_written_18 d_E_written_19 d_E_written_22
def mE_document_i (v1 : Int32) (v2 : Int32) (gE : aG) (aE : aA) (gS : aG) (aS : aA) (dP : aP) : Option Unit := if v1 < 0 then (some (())) else (if v1 < (gS 2) then (none) else (some (())))
set_option maxHeartbeats 4000000 in
set_option maxRecDepth 100000 in
theorem cE_document_i (l : Launch) (hNT : NoTr l) (dC : Nat → ClassId) (dI : Nat → Nat → Nat) (tk : Nat → ClassId) (A : Nat → Prop) (hE : Nat) (LE : Nat → Nat) (gE : aG) (aE : aA) (LS : Nat → Nat) (gS : aG) (aS : aA) (dP : aP) (rw : va_W) (v1 : Int32) (v2 : Int32) (hm : mE_document_i v1 v2 gE aE gS aS dP = some ()) : CtX l dC dI tk A ⟨"EditorServer", "document", "(II)I"⟩ prog_1_method_13_code 4 (some .int) [.ref hE, .int v1, .int v2] "java/lang/IndexOutOfBoundsException" (oW 1 hE ksE spE tk LE gE aE (oW 4 (LE 2) ksS spS tk LS gS aS (rA 4 (LS 0) 3 tk (fun i => some (dP i).1.1) (pW 5 ksD spD 1 tk dP 3 rw)))) := by
  refine entX (by decide) (Nat.le_of_ble_eq_true rfl) ?_
  intro p e s m args below meth c hx hb hr hml hown hlk hxt hG hg hst ls hl
  unfold mE_document_i at hm
  have hl : lv_has ls 4 [(0, .ref hE), (1, .int v1), (2, .int v2)] := hl
  obtain ⟨H, hH⟩ : ∃ H, H = s.heap := ⟨_, rfl⟩
  obtain ⟨locs, hlc⟩ : ∃ locs : List Loc, locs = [] := ⟨_, rfl⟩
  have hst : St dC dI A s.heap H locs (oW 1 hE ksE spE tk LE gE aE (oW 4 (LE 2) ksS spS tk LS gS aS (rA 4 (LS 0) 3 tk (fun i => some (dP i).1.1) (pW 5 ksD spD 1 tk dP 3 rw)))) := by rw [hH, hlc]; exact hst
  suffices hw : W p l e (rmn 6 100 1 6) s m args below meth c H locs 0 0 (MQX below (QX dC dI A "java/lang/IndexOutOfBoundsException" (oW 1 hE ksE spE tk LE gE aE (oW 4 (LE 2) ksS spS tk LS gS aS (rA 4 (LS 0) 3 tk (fun i => some (dP i).1.1) (pW 5 ksD spD 1 tk dP 3 rw))))) args s 1 6 A) (F0 m 0 ls []) by rw [hH, hlc] at hw; exact hw
  refine lv_iload_n hx hb d_E_document_0 rfl (lv_at hl 1 rfl) ?_
  refine lv_if_lt (tgt := 15) hx hb d_E_document_1 (by decide) (fun h1 => ?_) (fun h1 => ?_)
  · have hm := it_t hm h1
    subst hH
    subst hlc
    exact ro_throw hx hb hml hown hlk hxt hG hg hst hNT k_680 k_681 k_22 (by decide +kernel) (oa_i hG hg.2.2.2.2.2.2.2.2.2.2.2.2.1 hg.2.2.2.2.2.2.2.2.2.2.2.2.2.1) hl.1 d_E_document_15 d_E_document_18 d_E_document_19 d_E_document_22
  · have hm := it_f hm h1
    refine lv_iload_n hx hb d_E_document_4 rfl (lv_at hl 1 rfl) ?_
    refine lv_aload_n hx hb d_E_document_5 rfl (lv_at hl 0 rfl) ?_
    refine ro_geta hx hb hown hG hg cE hst 2 2 (by decide) rfl rfl k_286 d_E_document_6 ?_
    have hst : St dC dI A s.heap H locs (oW 4 (LE 2) ksS spS tk LS gS aS (oW 1 hE ksE spE tk LE gE aE (rA 4 (LS 0) 3 tk (fun i => some (dP i).1.1) (pW 5 ksD spD 1 tk dP 3 rw)))) := gr1 (a := (oX 1 hE ksE spE tk LE gE aE)) (b := (oX 4 (LE 2) ksS spS tk LS gS aS)) (r := (rA 4 (LS 0) 3 tk (fun i => some (dP i).1.1) (pW 5 ksD spD 1 tk dP 3 rw))) hst
    refine rn_geti hx hb hown hG hg cS hst 2 (by decide) rfl rfl t_167 d_E_document_9 ?_
    refine lv_icmp_lt (tgt := 23) hx hb d_E_document_12 (by decide) (fun h2 => ?_) (fun h2 => ?_)
    · have hm := it_t hm h2
      cases hm
    · have hm := it_f hm h2
      have hst : St dC dI A s.heap H locs (pW 5 ksD spD 1 tk dP 3 (oW 4 (LE 2) ksS spS tk LS gS aS (oW 1 hE ksE spE tk LE gE aE (rA 4 (LS 0) 3 tk (fun i => some (dP i).1.1) rw)))) := gr3 (a := (oX 4 (LE 2) ksS spS tk LS gS aS)) (b := (oX 1 hE ksE spE tk LE gE aE)) (x := (rX 4 (LS 0) 3 tk (fun i => some (dP i).1.1))) (y := (pF 5 ksD spD 1 tk dP 3)) (r := rw) hst
      have hst : St dC dI A s.heap H locs (rA 4 (LS 0) 3 tk (fun i => some (dP i).1.1) (pW 5 ksD spD 1 tk dP 3 (oW 4 (LE 2) ksS spS tk LS gS aS (oW 1 hE ksE spE tk LE gE aE rw)))) := gr3 (a := (pF 5 ksD spD 1 tk dP 3)) (b := (oX 4 (LE 2) ksS spS tk LS gS aS)) (x := (oX 1 hE ksE spE tk LE gE aE)) (y := (rX 4 (LS 0) 3 tk (fun i => some (dP i).1.1))) (r := rw) hst
      have hst : St dC dI A s.heap H locs (oW 4 (LE 2) ksS spS tk LS gS aS (rA 4 (LS 0) 3 tk (fun i => some (dP i).1.1) (pW 5 ksD spD 1 tk dP 3 (oW 1 hE ksE spE tk LE gE aE rw)))) := gr2 (a := (rX 4 (LS 0) 3 tk (fun i => some (dP i).1.1))) (b := (pF 5 ksD spD 1 tk dP 3)) (x := (oX 4 (LE 2) ksS spS tk LS gS aS)) (r := (oW 1 hE ksE spE tk LE gE aE rw)) hst
      have hst : St dC dI A s.heap H locs (oW 1 hE ksE spE tk LE gE aE (oW 4 (LE 2) ksS spS tk LS gS aS (rA 4 (LS 0) 3 tk (fun i => some (dP i).1.1) (pW 5 ksD spD 1 tk dP 3 rw)))) := gr3 (a := (oX 4 (LE 2) ksS spS tk LS gS aS)) (b := (rX 4 (LS 0) 3 tk (fun i => some (dP i).1.1))) (x := (pF 5 ksD spD 1 tk dP 3)) (y := (oX 1 hE ksE spE tk LE gE aE)) (r := rw) hst
      subst hH
      subst hlc
      exact ro_throw hx hb hml hown hlk hxt hG hg hst hNT k_680 k_681 k_22 (by decide +kernel) (oa_i hG hg.2.2.2.2.2.2.2.2.2.2.2.2.1 hg.2.2.2.2.2.2.2.2.2.2.2.2.2.1) hl.1 d_E_document_15 d_E_document_18 d_E_document_19 d_E_document_22
def mE_document_a (v1 : Int32) (v2 : Int32) (gE : aG) (aE : aA) (gS : aG) (aS : aA) (dP : aP) : Option Unit := if v1 < 0 then (none) else (if v1 < (gS 2) then (gd (inb v1 3) (if v2 = 0 then (none) else (if v2 = 1 then (none) else (if v2 = 2 then (none) else (if v2 = 3 then (none) else (some (()))))))) else (none))
set_option maxHeartbeats 4000000 in
set_option maxRecDepth 100000 in
theorem cE_document_a (l : Launch) (hNT : NoTr l) (dC : Nat → ClassId) (dI : Nat → Nat → Nat) (tk : Nat → ClassId) (A : Nat → Prop) (hE : Nat) (LE : Nat → Nat) (gE : aG) (aE : aA) (LS : Nat → Nat) (gS : aG) (aS : aA) (dP : aP) (rw : va_W) (v1 : Int32) (v2 : Int32) (hm : mE_document_a v1 v2 gE aE gS aS dP = some ()) : CtX l dC dI tk A ⟨"EditorServer", "document", "(II)I"⟩ prog_1_method_13_code 4 (some .int) [.ref hE, .int v1, .int v2] "java/lang/IllegalArgumentException" (oW 1 hE ksE spE tk LE gE aE (oW 4 (LE 2) ksS spS tk LS gS aS (rA 4 (LS 0) 3 tk (fun i => some (dP i).1.1) (pW 5 ksD spD 1 tk dP 3 rw)))) := by
  refine entX (by decide) (Nat.le_of_ble_eq_true rfl) ?_
  intro p e s m args below meth c hx hb hr hml hown hlk hxt hG hg hst ls hl
  unfold mE_document_a at hm
  have hl : lv_has ls 4 [(0, .ref hE), (1, .int v1), (2, .int v2)] := hl
  obtain ⟨H, hH⟩ : ∃ H, H = s.heap := ⟨_, rfl⟩
  obtain ⟨locs, hlc⟩ : ∃ locs : List Loc, locs = [] := ⟨_, rfl⟩
  have hst : St dC dI A s.heap H locs (oW 1 hE ksE spE tk LE gE aE (oW 4 (LE 2) ksS spS tk LS gS aS (rA 4 (LS 0) 3 tk (fun i => some (dP i).1.1) (pW 5 ksD spD 1 tk dP 3 rw)))) := by rw [hH, hlc]; exact hst
  suffices hw : W p l e (rmn 6 100 1 6) s m args below meth c H locs 0 0 (MQX below (QX dC dI A "java/lang/IllegalArgumentException" (oW 1 hE ksE spE tk LE gE aE (oW 4 (LE 2) ksS spS tk LS gS aS (rA 4 (LS 0) 3 tk (fun i => some (dP i).1.1) (pW 5 ksD spD 1 tk dP 3 rw))))) args s 1 6 A) (F0 m 0 ls []) by rw [hH, hlc] at hw; exact hw
  refine lv_iload_n hx hb d_E_document_0 rfl (lv_at hl 1 rfl) ?_
  refine lv_if_lt (tgt := 15) hx hb d_E_document_1 (by decide) (fun h1 => ?_) (fun h1 => ?_)
  · have hm := it_t hm h1
    cases hm
  · have hm := it_f hm h1
    refine lv_iload_n hx hb d_E_document_4 rfl (lv_at hl 1 rfl) ?_
    refine lv_aload_n hx hb d_E_document_5 rfl (lv_at hl 0 rfl) ?_
    refine ro_geta hx hb hown hG hg cE hst 2 2 (by decide) rfl rfl k_286 d_E_document_6 ?_
    have hst : St dC dI A s.heap H locs (oW 4 (LE 2) ksS spS tk LS gS aS (oW 1 hE ksE spE tk LE gE aE (rA 4 (LS 0) 3 tk (fun i => some (dP i).1.1) (pW 5 ksD spD 1 tk dP 3 rw)))) := gr1 (a := (oX 1 hE ksE spE tk LE gE aE)) (b := (oX 4 (LE 2) ksS spS tk LS gS aS)) (r := (rA 4 (LS 0) 3 tk (fun i => some (dP i).1.1) (pW 5 ksD spD 1 tk dP 3 rw))) hst
    refine rn_geti hx hb hown hG hg cS hst 2 (by decide) rfl rfl t_167 d_E_document_9 ?_
    refine lv_icmp_lt (tgt := 23) hx hb d_E_document_12 (by decide) (fun h2 => ?_) (fun h2 => ?_)
    · have hm := it_t hm h2
      refine lv_aload_n hx hb d_E_document_23 rfl (lv_at hl 0 rfl) ?_
      have hst : St dC dI A s.heap H locs (oW 1 hE ksE spE tk LE gE aE (oW 4 (LE 2) ksS spS tk LS gS aS (rA 4 (LS 0) 3 tk (fun i => some (dP i).1.1) (pW 5 ksD spD 1 tk dP 3 rw)))) := gr1 (a := (oX 4 (LE 2) ksS spS tk LS gS aS)) (b := (oX 1 hE ksE spE tk LE gE aE)) (r := (rA 4 (LS 0) 3 tk (fun i => some (dP i).1.1) (pW 5 ksD spD 1 tk dP 3 rw))) hst
      refine ro_geta hx hb hown hG hg cE hst 2 2 (by decide) rfl rfl k_286 d_E_document_24 ?_
      have hst : St dC dI A s.heap H locs (oW 4 (LE 2) ksS spS tk LS gS aS (oW 1 hE ksE spE tk LE gE aE (rA 4 (LS 0) 3 tk (fun i => some (dP i).1.1) (pW 5 ksD spD 1 tk dP 3 rw)))) := gr1 (a := (oX 1 hE ksE spE tk LE gE aE)) (b := (oX 4 (LE 2) ksS spS tk LS gS aS)) (r := (rA 4 (LS 0) 3 tk (fun i => some (dP i).1.1) (pW 5 ksD spD 1 tk dP 3 rw))) hst
      refine rn_geta hx hb hown hG hg cS hst 0 0 (by decide) rfl rfl t_164 d_E_document_27 ?_
      refine lv_iload_n hx hb d_E_document_30 rfl (lv_at hl 1 rfl) ?_
      obtain ⟨hn3, hm⟩ := gd_u hm
      have hst : St dC dI A s.heap H locs (rA 4 (LS 0) 3 tk (fun i => some (dP i).1.1) (oW 4 (LE 2) ksS spS tk LS gS aS (oW 1 hE ksE spE tk LE gE aE (pW 5 ksD spD 1 tk dP 3 rw)))) := gr2 (a := (oX 4 (LE 2) ksS spS tk LS gS aS)) (b := (oX 1 hE ksE spE tk LE gE aE)) (x := (rX 4 (LS 0) 3 tk (fun i => some (dP i).1.1))) (r := (pW 5 ksD spD 1 tk dP 3 rw)) hst
      refine ro_aald (a := (dP v1.toNatClampNeg).1.1) hx hb hg hst rfl hn3 rfl d_E_document_31 ?_
      refine lv_astore_n (lv' := [(3, .ref (dP v1.toNatClampNeg).1.1), (0, .ref hE), (1, .int v1), (2, .int v2)]) hx hb d_E_document_32 rfl hl (by decide) rfl (fun ls hl => ?_)
      refine lv_iload_n hx hb d_E_document_33 rfl (lv_at hl 3 rfl) ?_
      by_cases h4 : v2 = 0
      · have hm := it_t hm h4
        refine lv_tableIn (off := 30) (tgt := 64) hx hb d_E_document_34 (by rw [h4]; decide) (by rw [h4]; decide) (by rw [h4]; rfl) (by decide) ?_
        cases hm
      have hm := it_f hm h4
      by_cases h5 : v2 = 1
      · have hm := it_t hm h5
        refine lv_tableIn (off := 35) (tgt := 69) hx hb d_E_document_34 (by rw [h5]; decide) (by rw [h5]; decide) (by rw [h5]; rfl) (by decide) ?_
        cases hm
      have hm := it_f hm h5
      by_cases h6 : v2 = 2
      · have hm := it_t hm h6
        refine lv_tableIn (off := 43) (tgt := 77) hx hb d_E_document_34 (by rw [h6]; decide) (by rw [h6]; decide) (by rw [h6]; rfl) (by decide) ?_
        cases hm
      have hm := it_f hm h6
      by_cases h7 : v2 = 3
      · have hm := it_t hm h7
        refine lv_tableIn (off := 48) (tgt := 82) hx hb d_E_document_34 (by rw [h7]; decide) (by rw [h7]; decide) (by rw [h7]; rfl) (by decide) ?_
        cases hm
      have hm := it_f hm h7
      refine lv_tableOut (tgt := 90) hx hb d_E_document_34 (sw_out4 h4 h5 h6 h7) (by decide) ?_
      have hst : St dC dI A s.heap H locs (pW 5 ksD spD 1 tk dP 3 (rA 4 (LS 0) 3 tk (fun i => some (dP i).1.1) (oW 4 (LE 2) ksS spS tk LS gS aS (oW 1 hE ksE spE tk LE gE aE rw)))) := gr3 (a := (rX 4 (LS 0) 3 tk (fun i => some (dP i).1.1))) (b := (oX 4 (LE 2) ksS spS tk LS gS aS)) (x := (oX 1 hE ksE spE tk LE gE aE)) (y := (pF 5 ksD spD 1 tk dP 3)) (r := rw) hst
      have hst : St dC dI A s.heap H locs (rA 4 (LS 0) 3 tk (fun i => some (dP i).1.1) (pW 5 ksD spD 1 tk dP 3 (oW 4 (LE 2) ksS spS tk LS gS aS (oW 1 hE ksE spE tk LE gE aE rw)))) := gr1 (a := (pF 5 ksD spD 1 tk dP 3)) (b := (rX 4 (LS 0) 3 tk (fun i => some (dP i).1.1))) (r := (oW 4 (LE 2) ksS spS tk LS gS aS (oW 1 hE ksE spE tk LE gE aE rw))) hst
      have hst : St dC dI A s.heap H locs (oW 4 (LE 2) ksS spS tk LS gS aS (rA 4 (LS 0) 3 tk (fun i => some (dP i).1.1) (pW 5 ksD spD 1 tk dP 3 (oW 1 hE ksE spE tk LE gE aE rw)))) := gr2 (a := (rX 4 (LS 0) 3 tk (fun i => some (dP i).1.1))) (b := (pF 5 ksD spD 1 tk dP 3)) (x := (oX 4 (LE 2) ksS spS tk LS gS aS)) (r := (oW 1 hE ksE spE tk LE gE aE rw)) hst
      have hst : St dC dI A s.heap H locs (oW 1 hE ksE spE tk LE gE aE (oW 4 (LE 2) ksS spS tk LS gS aS (rA 4 (LS 0) 3 tk (fun i => some (dP i).1.1) (pW 5 ksD spD 1 tk dP 3 rw)))) := gr3 (a := (oX 4 (LE 2) ksS spS tk LS gS aS)) (b := (rX 4 (LS 0) 3 tk (fun i => some (dP i).1.1))) (x := (pF 5 ksD spD 1 tk dP 3)) (y := (oX 1 hE ksE spE tk LE gE aE)) (r := rw) hst
      subst hH
      subst hlc
      exact ro_throw hx hb hml hown hlk hxt hG hg hst hNT k_774 k_775 k_23 (by decide +kernel) (oa_a hG hg.2.2.2.2.2.2.2.2.2.2.2.2.1 hg.2.2.2.2.2.2.2.2.2.2.2.2.2.1) hl.1 d_E_document_90 d_E_document_93 d_E_document_94 d_E_document_97
    · have hm := it_f hm h2
      cases hm
def mE_text_i (v1 : Int32) (v2 : Int32) (gE : aG) (aE : aA) (gS : aG) (aS : aA) (dP : aP) : Option Unit := if v1 < 0 then (some (())) else (if (gS 2) ≤ v1 then (some (())) else (if v2 < 0 then (some (())) else (gd (inb v1 3) (if v2 < ((dP v1.toNatClampNeg).2.2.2.1 1) then (none) else (some (()))))))
set_option maxHeartbeats 4000000 in
set_option maxRecDepth 100000 in
theorem cE_text_i (l : Launch) (hNT : NoTr l) (dC : Nat → ClassId) (dI : Nat → Nat → Nat) (tk : Nat → ClassId) (A : Nat → Prop) (hE : Nat) (LE : Nat → Nat) (gE : aG) (aE : aA) (LS : Nat → Nat) (gS : aG) (aS : aA) (dP : aP) (rw : va_W) (v1 : Int32) (v2 : Int32) (hm : mE_text_i v1 v2 gE aE gS aS dP = some ()) : CtX l dC dI tk A ⟨"EditorServer", "text", "(II)C"⟩ prog_1_method_14_code 3 (some .char) [.ref hE, .int v1, .int v2] "java/lang/IndexOutOfBoundsException" (oW 1 hE ksE spE tk LE gE aE (oW 4 (LE 2) ksS spS tk LS gS aS (rA 4 (LS 0) 3 tk (fun i => some (dP i).1.1) (pW 5 ksD spD 1 tk dP 3 rw)))) := by
  refine entX (by decide) (Nat.le_of_ble_eq_true rfl) ?_
  intro p e s m args below meth c hx hb hr hml hown hlk hxt hG hg hst ls hl
  unfold mE_text_i at hm
  have hl : lv_has ls 3 [(0, .ref hE), (1, .int v1), (2, .int v2)] := hl
  obtain ⟨H, hH⟩ : ∃ H, H = s.heap := ⟨_, rfl⟩
  obtain ⟨locs, hlc⟩ : ∃ locs : List Loc, locs = [] := ⟨_, rfl⟩
  have hst : St dC dI A s.heap H locs (oW 1 hE ksE spE tk LE gE aE (oW 4 (LE 2) ksS spS tk LS gS aS (rA 4 (LS 0) 3 tk (fun i => some (dP i).1.1) (pW 5 ksD spD 1 tk dP 3 rw)))) := by rw [hH, hlc]; exact hst
  suffices hw : W p l e (rmn 6 100 1 6) s m args below meth c H locs 0 0 (MQX below (QX dC dI A "java/lang/IndexOutOfBoundsException" (oW 1 hE ksE spE tk LE gE aE (oW 4 (LE 2) ksS spS tk LS gS aS (rA 4 (LS 0) 3 tk (fun i => some (dP i).1.1) (pW 5 ksD spD 1 tk dP 3 rw))))) args s 1 6 A) (F0 m 0 ls []) by rw [hH, hlc] at hw; exact hw
  refine lv_iload_n hx hb d_E_text_0 rfl (lv_at hl 1 rfl) ?_
  refine lv_if_lt (tgt := 38) hx hb d_E_text_1 (by decide) (fun h1 => ?_) (fun h1 => ?_)
  · have hm := it_t hm h1
    subst hH
    subst hlc
    exact ro_throw hx hb hml hown hlk hxt hG hg hst hNT k_680 k_681 k_22 (by decide +kernel) (oa_i hG hg.2.2.2.2.2.2.2.2.2.2.2.2.1 hg.2.2.2.2.2.2.2.2.2.2.2.2.2.1) hl.1 d_E_text_38 d_E_text_41 d_E_text_42 d_E_text_45
  · have hm := it_f hm h1
    refine lv_iload_n hx hb d_E_text_4 rfl (lv_at hl 1 rfl) ?_
    refine lv_aload_n hx hb d_E_text_5 rfl (lv_at hl 0 rfl) ?_
    refine ro_geta hx hb hown hG hg cE hst 2 2 (by decide) rfl rfl k_286 d_E_text_6 ?_
    have hst : St dC dI A s.heap H locs (oW 4 (LE 2) ksS spS tk LS gS aS (oW 1 hE ksE spE tk LE gE aE (rA 4 (LS 0) 3 tk (fun i => some (dP i).1.1) (pW 5 ksD spD 1 tk dP 3 rw)))) := gr1 (a := (oX 1 hE ksE spE tk LE gE aE)) (b := (oX 4 (LE 2) ksS spS tk LS gS aS)) (r := (rA 4 (LS 0) 3 tk (fun i => some (dP i).1.1) (pW 5 ksD spD 1 tk dP 3 rw))) hst
    refine rn_geti hx hb hown hG hg cS hst 2 (by decide) rfl rfl t_167 d_E_text_9 ?_
    refine lv_icmp_ge (tgt := 38) hx hb d_E_text_12 (by decide) (fun h2 => ?_) (fun h2 => ?_)
    · have hm := it_t hm h2
      have hst : St dC dI A s.heap H locs (pW 5 ksD spD 1 tk dP 3 (oW 4 (LE 2) ksS spS tk LS gS aS (oW 1 hE ksE spE tk LE gE aE (rA 4 (LS 0) 3 tk (fun i => some (dP i).1.1) rw)))) := gr3 (a := (oX 4 (LE 2) ksS spS tk LS gS aS)) (b := (oX 1 hE ksE spE tk LE gE aE)) (x := (rX 4 (LS 0) 3 tk (fun i => some (dP i).1.1))) (y := (pF 5 ksD spD 1 tk dP 3)) (r := rw) hst
      have hst : St dC dI A s.heap H locs (rA 4 (LS 0) 3 tk (fun i => some (dP i).1.1) (pW 5 ksD spD 1 tk dP 3 (oW 4 (LE 2) ksS spS tk LS gS aS (oW 1 hE ksE spE tk LE gE aE rw)))) := gr3 (a := (pF 5 ksD spD 1 tk dP 3)) (b := (oX 4 (LE 2) ksS spS tk LS gS aS)) (x := (oX 1 hE ksE spE tk LE gE aE)) (y := (rX 4 (LS 0) 3 tk (fun i => some (dP i).1.1))) (r := rw) hst
      have hst : St dC dI A s.heap H locs (oW 4 (LE 2) ksS spS tk LS gS aS (rA 4 (LS 0) 3 tk (fun i => some (dP i).1.1) (pW 5 ksD spD 1 tk dP 3 (oW 1 hE ksE spE tk LE gE aE rw)))) := gr2 (a := (rX 4 (LS 0) 3 tk (fun i => some (dP i).1.1))) (b := (pF 5 ksD spD 1 tk dP 3)) (x := (oX 4 (LE 2) ksS spS tk LS gS aS)) (r := (oW 1 hE ksE spE tk LE gE aE rw)) hst
      have hst : St dC dI A s.heap H locs (oW 1 hE ksE spE tk LE gE aE (oW 4 (LE 2) ksS spS tk LS gS aS (rA 4 (LS 0) 3 tk (fun i => some (dP i).1.1) (pW 5 ksD spD 1 tk dP 3 rw)))) := gr3 (a := (oX 4 (LE 2) ksS spS tk LS gS aS)) (b := (rX 4 (LS 0) 3 tk (fun i => some (dP i).1.1))) (x := (pF 5 ksD spD 1 tk dP 3)) (y := (oX 1 hE ksE spE tk LE gE aE)) (r := rw) hst
      subst hH
      subst hlc
      exact ro_throw hx hb hml hown hlk hxt hG hg hst hNT k_680 k_681 k_22 (by decide +kernel) (oa_i hG hg.2.2.2.2.2.2.2.2.2.2.2.2.1 hg.2.2.2.2.2.2.2.2.2.2.2.2.2.1) hl.1 d_E_text_38 d_E_text_41 d_E_text_42 d_E_text_45
    · have hm := it_f hm h2
      refine lv_iload_n hx hb d_E_text_15 rfl (lv_at hl 2 rfl) ?_
      refine lv_if_lt (tgt := 38) hx hb d_E_text_16 (by decide) (fun h3 => ?_) (fun h3 => ?_)
      · have hm := it_t hm h3
        have hst : St dC dI A s.heap H locs (pW 5 ksD spD 1 tk dP 3 (oW 4 (LE 2) ksS spS tk LS gS aS (oW 1 hE ksE spE tk LE gE aE (rA 4 (LS 0) 3 tk (fun i => some (dP i).1.1) rw)))) := gr3 (a := (oX 4 (LE 2) ksS spS tk LS gS aS)) (b := (oX 1 hE ksE spE tk LE gE aE)) (x := (rX 4 (LS 0) 3 tk (fun i => some (dP i).1.1))) (y := (pF 5 ksD spD 1 tk dP 3)) (r := rw) hst
        have hst : St dC dI A s.heap H locs (rA 4 (LS 0) 3 tk (fun i => some (dP i).1.1) (pW 5 ksD spD 1 tk dP 3 (oW 4 (LE 2) ksS spS tk LS gS aS (oW 1 hE ksE spE tk LE gE aE rw)))) := gr3 (a := (pF 5 ksD spD 1 tk dP 3)) (b := (oX 4 (LE 2) ksS spS tk LS gS aS)) (x := (oX 1 hE ksE spE tk LE gE aE)) (y := (rX 4 (LS 0) 3 tk (fun i => some (dP i).1.1))) (r := rw) hst
        have hst : St dC dI A s.heap H locs (oW 4 (LE 2) ksS spS tk LS gS aS (rA 4 (LS 0) 3 tk (fun i => some (dP i).1.1) (pW 5 ksD spD 1 tk dP 3 (oW 1 hE ksE spE tk LE gE aE rw)))) := gr2 (a := (rX 4 (LS 0) 3 tk (fun i => some (dP i).1.1))) (b := (pF 5 ksD spD 1 tk dP 3)) (x := (oX 4 (LE 2) ksS spS tk LS gS aS)) (r := (oW 1 hE ksE spE tk LE gE aE rw)) hst
        have hst : St dC dI A s.heap H locs (oW 1 hE ksE spE tk LE gE aE (oW 4 (LE 2) ksS spS tk LS gS aS (rA 4 (LS 0) 3 tk (fun i => some (dP i).1.1) (pW 5 ksD spD 1 tk dP 3 rw)))) := gr3 (a := (oX 4 (LE 2) ksS spS tk LS gS aS)) (b := (rX 4 (LS 0) 3 tk (fun i => some (dP i).1.1))) (x := (pF 5 ksD spD 1 tk dP 3)) (y := (oX 1 hE ksE spE tk LE gE aE)) (r := rw) hst
        subst hH
        subst hlc
        exact ro_throw hx hb hml hown hlk hxt hG hg hst hNT k_680 k_681 k_22 (by decide +kernel) (oa_i hG hg.2.2.2.2.2.2.2.2.2.2.2.2.1 hg.2.2.2.2.2.2.2.2.2.2.2.2.2.1) hl.1 d_E_text_38 d_E_text_41 d_E_text_42 d_E_text_45
      · have hm := it_f hm h3
        refine lv_iload_n hx hb d_E_text_19 rfl (lv_at hl 2 rfl) ?_
        refine lv_aload_n hx hb d_E_text_20 rfl (lv_at hl 0 rfl) ?_
        have hst : St dC dI A s.heap H locs (oW 1 hE ksE spE tk LE gE aE (oW 4 (LE 2) ksS spS tk LS gS aS (rA 4 (LS 0) 3 tk (fun i => some (dP i).1.1) (pW 5 ksD spD 1 tk dP 3 rw)))) := gr1 (a := (oX 4 (LE 2) ksS spS tk LS gS aS)) (b := (oX 1 hE ksE spE tk LE gE aE)) (r := (rA 4 (LS 0) 3 tk (fun i => some (dP i).1.1) (pW 5 ksD spD 1 tk dP 3 rw))) hst
        refine ro_geta hx hb hown hG hg cE hst 2 2 (by decide) rfl rfl k_286 d_E_text_21 ?_
        have hst : St dC dI A s.heap H locs (oW 4 (LE 2) ksS spS tk LS gS aS (oW 1 hE ksE spE tk LE gE aE (rA 4 (LS 0) 3 tk (fun i => some (dP i).1.1) (pW 5 ksD spD 1 tk dP 3 rw)))) := gr1 (a := (oX 1 hE ksE spE tk LE gE aE)) (b := (oX 4 (LE 2) ksS spS tk LS gS aS)) (r := (rA 4 (LS 0) 3 tk (fun i => some (dP i).1.1) (pW 5 ksD spD 1 tk dP 3 rw))) hst
        refine rn_geta hx hb hown hG hg cS hst 0 0 (by decide) rfl rfl t_164 d_E_text_24 ?_
        refine lv_iload_n hx hb d_E_text_27 rfl (lv_at hl 1 rfl) ?_
        obtain ⟨hn4, hm⟩ := gd_u hm
        have hst : St dC dI A s.heap H locs (rA 4 (LS 0) 3 tk (fun i => some (dP i).1.1) (oW 4 (LE 2) ksS spS tk LS gS aS (oW 1 hE ksE spE tk LE gE aE (pW 5 ksD spD 1 tk dP 3 rw)))) := gr2 (a := (oX 4 (LE 2) ksS spS tk LS gS aS)) (b := (oX 1 hE ksE spE tk LE gE aE)) (x := (rX 4 (LS 0) 3 tk (fun i => some (dP i).1.1))) (r := (pW 5 ksD spD 1 tk dP 3 rw)) hst
        refine ro_aald (a := (dP v1.toNatClampNeg).1.1) hx hb hg hst rfl hn4 rfl d_E_text_28 ?_
        have hst : St dC dI A s.heap H locs (pW 5 ksD spD 1 tk dP 3 (rA 4 (LS 0) 3 tk (fun i => some (dP i).1.1) (oW 4 (LE 2) ksS spS tk LS gS aS (oW 1 hE ksE spE tk LE gE aE rw)))) := gr3 (a := (rX 4 (LS 0) 3 tk (fun i => some (dP i).1.1))) (b := (oX 4 (LE 2) ksS spS tk LS gS aS)) (x := (oX 1 hE ksE spE tk LE gE aE)) (y := (pF 5 ksD spD 1 tk dP 3)) (r := rw) hst
        have hst := foc (d := v1.toNatClampNeg) hst (inb_lt hn4)
        refine rn_geta hx hb hown hG hg cD hst 1 1 (by decide) rfl rfl t_148 d_E_text_29 ?_
        have hst : St dC dI A s.heap H locs (oW 6 ((dP v1.toNatClampNeg).1.2.1 1) ksT spT tk (dP v1.toNatClampNeg).1.2.2 (dP v1.toNatClampNeg).2.2.2.1 (dP v1.toNatClampNeg).2.2.2.2 (oW 5 (dP v1.toNatClampNeg).1.1 ksD spD tk (dP v1.toNatClampNeg).1.2.1 (dP v1.toNatClampNeg).2.1 (dP v1.toNatClampNeg).2.2.1 (pO 5 ksD spD 1 tk dP 3 v1.toNatClampNeg (rA 4 (LS 0) 3 tk (fun i => some (dP i).1.1) (oW 4 (LE 2) ksS spS tk LS gS aS (oW 1 hE ksE spE tk LE gE aE rw)))))) := gr1 (a := (oX 5 (dP v1.toNatClampNeg).1.1 ksD spD tk (dP v1.toNatClampNeg).1.2.1 (dP v1.toNatClampNeg).2.1 (dP v1.toNatClampNeg).2.2.1)) (b := (oX 6 ((dP v1.toNatClampNeg).1.2.1 1) ksT spT tk (dP v1.toNatClampNeg).1.2.2 (dP v1.toNatClampNeg).2.2.2.1 (dP v1.toNatClampNeg).2.2.2.2)) (r := (pO 5 ksD spD 1 tk dP 3 v1.toNatClampNeg (rA 4 (LS 0) 3 tk (fun i => some (dP i).1.1) (oW 4 (LE 2) ksS spS tk LS gS aS (oW 1 hE ksE spE tk LE gE aE rw))))) hst
        refine rn_geti hx hb hown hG hg cT hst 1 (by decide) rfl rfl t_131 d_E_text_32 ?_
        refine lv_icmp_lt (tgt := 46) hx hb d_E_text_35 (by decide) (fun h5 => ?_) (fun h5 => ?_)
        · have hm := it_t hm h5
          cases hm
        · have hm := it_f hm h5
          have hst : St dC dI A s.heap H locs (pO 5 ksD spD 1 tk dP 3 v1.toNatClampNeg (oW 6 ((dP v1.toNatClampNeg).1.2.1 1) ksT spT tk (dP v1.toNatClampNeg).1.2.2 (dP v1.toNatClampNeg).2.2.2.1 (dP v1.toNatClampNeg).2.2.2.2 (oW 5 (dP v1.toNatClampNeg).1.1 ksD spD tk (dP v1.toNatClampNeg).1.2.1 (dP v1.toNatClampNeg).2.1 (dP v1.toNatClampNeg).2.2.1 (rA 4 (LS 0) 3 tk (fun i => some (dP i).1.1) (oW 4 (LE 2) ksS spS tk LS gS aS (oW 1 hE ksE spE tk LE gE aE rw)))))) := gr2 (a := (oX 6 ((dP v1.toNatClampNeg).1.2.1 1) ksT spT tk (dP v1.toNatClampNeg).1.2.2 (dP v1.toNatClampNeg).2.2.2.1 (dP v1.toNatClampNeg).2.2.2.2)) (b := (oX 5 (dP v1.toNatClampNeg).1.1 ksD spD tk (dP v1.toNatClampNeg).1.2.1 (dP v1.toNatClampNeg).2.1 (dP v1.toNatClampNeg).2.2.1)) (x := (pG 5 ksD spD 1 tk dP 3 v1.toNatClampNeg)) (r := (rA 4 (LS 0) 3 tk (fun i => some (dP i).1.1) (oW 4 (LE 2) ksS spS tk LS gS aS (oW 1 hE ksE spE tk LE gE aE rw)))) hst
          have hst : St dC dI A s.heap H locs (oW 6 ((dP v1.toNatClampNeg).1.2.1 1) ksT spT tk (dP v1.toNatClampNeg).1.2.2 (dP v1.toNatClampNeg).2.2.2.1 (dP v1.toNatClampNeg).2.2.2.2 (pO 5 ksD spD 1 tk dP 3 v1.toNatClampNeg (oW 5 (dP v1.toNatClampNeg).1.1 ksD spD tk (dP v1.toNatClampNeg).1.2.1 (dP v1.toNatClampNeg).2.1 (dP v1.toNatClampNeg).2.2.1 (rA 4 (LS 0) 3 tk (fun i => some (dP i).1.1) (oW 4 (LE 2) ksS spS tk LS gS aS (oW 1 hE ksE spE tk LE gE aE rw)))))) := gr1 (a := (pG 5 ksD spD 1 tk dP 3 v1.toNatClampNeg)) (b := (oX 6 ((dP v1.toNatClampNeg).1.2.1 1) ksT spT tk (dP v1.toNatClampNeg).1.2.2 (dP v1.toNatClampNeg).2.2.2.1 (dP v1.toNatClampNeg).2.2.2.2)) (r := (oW 5 (dP v1.toNatClampNeg).1.1 ksD spD tk (dP v1.toNatClampNeg).1.2.1 (dP v1.toNatClampNeg).2.1 (dP v1.toNatClampNeg).2.2.1 (rA 4 (LS 0) 3 tk (fun i => some (dP i).1.1) (oW 4 (LE 2) ksS spS tk LS gS aS (oW 1 hE ksE spE tk LE gE aE rw))))) hst
          have hst : St dC dI A s.heap H locs (oW 5 (dP v1.toNatClampNeg).1.1 ksD spD tk (dP v1.toNatClampNeg).1.2.1 (dP v1.toNatClampNeg).2.1 (dP v1.toNatClampNeg).2.2.1 (oW 6 ((dP v1.toNatClampNeg).1.2.1 1) ksT spT tk (dP v1.toNatClampNeg).1.2.2 (dP v1.toNatClampNeg).2.2.2.1 (dP v1.toNatClampNeg).2.2.2.2 (pO 5 ksD spD 1 tk dP 3 v1.toNatClampNeg (rA 4 (LS 0) 3 tk (fun i => some (dP i).1.1) (oW 4 (LE 2) ksS spS tk LS gS aS (oW 1 hE ksE spE tk LE gE aE rw)))))) := gr2 (a := (oX 6 ((dP v1.toNatClampNeg).1.2.1 1) ksT spT tk (dP v1.toNatClampNeg).1.2.2 (dP v1.toNatClampNeg).2.2.2.1 (dP v1.toNatClampNeg).2.2.2.2)) (b := (pG 5 ksD spD 1 tk dP 3 v1.toNatClampNeg)) (x := (oX 5 (dP v1.toNatClampNeg).1.1 ksD spD tk (dP v1.toNatClampNeg).1.2.1 (dP v1.toNatClampNeg).2.1 (dP v1.toNatClampNeg).2.2.1)) (r := (rA 4 (LS 0) 3 tk (fun i => some (dP i).1.1) (oW 4 (LE 2) ksS spS tk LS gS aS (oW 1 hE ksE spE tk LE gE aE rw)))) hst
          have hst := unf0 (d := v1.toNatClampNeg) hst (inb_lt hn4)
          have hst : St dC dI A s.heap H locs (rA 4 (LS 0) 3 tk (fun i => some (dP i).1.1) (pW 5 ksD spD 1 tk dP 3 (oW 4 (LE 2) ksS spS tk LS gS aS (oW 1 hE ksE spE tk LE gE aE rw)))) := gr1 (a := (pF 5 ksD spD 1 tk dP 3)) (b := (rX 4 (LS 0) 3 tk (fun i => some (dP i).1.1))) (r := (oW 4 (LE 2) ksS spS tk LS gS aS (oW 1 hE ksE spE tk LE gE aE rw))) hst
          have hst : St dC dI A s.heap H locs (oW 4 (LE 2) ksS spS tk LS gS aS (rA 4 (LS 0) 3 tk (fun i => some (dP i).1.1) (pW 5 ksD spD 1 tk dP 3 (oW 1 hE ksE spE tk LE gE aE rw)))) := gr2 (a := (rX 4 (LS 0) 3 tk (fun i => some (dP i).1.1))) (b := (pF 5 ksD spD 1 tk dP 3)) (x := (oX 4 (LE 2) ksS spS tk LS gS aS)) (r := (oW 1 hE ksE spE tk LE gE aE rw)) hst
          have hst : St dC dI A s.heap H locs (oW 1 hE ksE spE tk LE gE aE (oW 4 (LE 2) ksS spS tk LS gS aS (rA 4 (LS 0) 3 tk (fun i => some (dP i).1.1) (pW 5 ksD spD 1 tk dP 3 rw)))) := gr3 (a := (oX 4 (LE 2) ksS spS tk LS gS aS)) (b := (rX 4 (LS 0) 3 tk (fun i => some (dP i).1.1))) (x := (pF 5 ksD spD 1 tk dP 3)) (y := (oX 1 hE ksE spE tk LE gE aE)) (r := rw) hst
          subst hH
          subst hlc
          exact ro_throw hx hb hml hown hlk hxt hG hg hst hNT k_680 k_681 k_22 (by decide +kernel) (oa_i hG hg.2.2.2.2.2.2.2.2.2.2.2.2.1 hg.2.2.2.2.2.2.2.2.2.2.2.2.2.1) hl.1 d_E_text_38 d_E_text_41 d_E_text_42 d_E_text_45
def mE_name_i (v1 : Int32) (v2 : Int32) (gE : aG) (aE : aA) (gS : aG) (aS : aA) (dP : aP) : Option Unit := if v1 < 0 then (some (())) else (if (gS 2) ≤ v1 then (some (())) else (if v2 < 0 then (some (())) else (gd (inb v1 3) (if v2 < ((dP v1.toNatClampNeg).2.1 2) then (none) else (some (()))))))
set_option maxHeartbeats 4000000 in
set_option maxRecDepth 100000 in
theorem cE_name_i (l : Launch) (hNT : NoTr l) (dC : Nat → ClassId) (dI : Nat → Nat → Nat) (tk : Nat → ClassId) (A : Nat → Prop) (hE : Nat) (LE : Nat → Nat) (gE : aG) (aE : aA) (LS : Nat → Nat) (gS : aG) (aS : aA) (dP : aP) (rw : va_W) (v1 : Int32) (v2 : Int32) (hm : mE_name_i v1 v2 gE aE gS aS dP = some ()) : CtX l dC dI tk A ⟨"EditorServer", "name", "(II)C"⟩ prog_1_method_15_code 3 (some .char) [.ref hE, .int v1, .int v2] "java/lang/IndexOutOfBoundsException" (oW 1 hE ksE spE tk LE gE aE (oW 4 (LE 2) ksS spS tk LS gS aS (rA 4 (LS 0) 3 tk (fun i => some (dP i).1.1) (pW 5 ksD spD 1 tk dP 3 rw)))) := by
  refine entX (by decide) (Nat.le_of_ble_eq_true rfl) ?_
  intro p e s m args below meth c hx hb hr hml hown hlk hxt hG hg hst ls hl
  unfold mE_name_i at hm
  have hl : lv_has ls 3 [(0, .ref hE), (1, .int v1), (2, .int v2)] := hl
  obtain ⟨H, hH⟩ : ∃ H, H = s.heap := ⟨_, rfl⟩
  obtain ⟨locs, hlc⟩ : ∃ locs : List Loc, locs = [] := ⟨_, rfl⟩
  have hst : St dC dI A s.heap H locs (oW 1 hE ksE spE tk LE gE aE (oW 4 (LE 2) ksS spS tk LS gS aS (rA 4 (LS 0) 3 tk (fun i => some (dP i).1.1) (pW 5 ksD spD 1 tk dP 3 rw)))) := by rw [hH, hlc]; exact hst
  suffices hw : W p l e (rmn 6 100 1 6) s m args below meth c H locs 0 0 (MQX below (QX dC dI A "java/lang/IndexOutOfBoundsException" (oW 1 hE ksE spE tk LE gE aE (oW 4 (LE 2) ksS spS tk LS gS aS (rA 4 (LS 0) 3 tk (fun i => some (dP i).1.1) (pW 5 ksD spD 1 tk dP 3 rw))))) args s 1 6 A) (F0 m 0 ls []) by rw [hH, hlc] at hw; exact hw
  refine lv_iload_n hx hb d_E_name_0 rfl (lv_at hl 1 rfl) ?_
  refine lv_if_lt (tgt := 35) hx hb d_E_name_1 (by decide) (fun h1 => ?_) (fun h1 => ?_)
  · have hm := it_t hm h1
    subst hH
    subst hlc
    exact ro_throw hx hb hml hown hlk hxt hG hg hst hNT k_680 k_681 k_22 (by decide +kernel) (oa_i hG hg.2.2.2.2.2.2.2.2.2.2.2.2.1 hg.2.2.2.2.2.2.2.2.2.2.2.2.2.1) hl.1 d_E_name_35 d_E_name_38 d_E_name_39 d_E_name_42
  · have hm := it_f hm h1
    refine lv_iload_n hx hb d_E_name_4 rfl (lv_at hl 1 rfl) ?_
    refine lv_aload_n hx hb d_E_name_5 rfl (lv_at hl 0 rfl) ?_
    refine ro_geta hx hb hown hG hg cE hst 2 2 (by decide) rfl rfl k_286 d_E_name_6 ?_
    have hst : St dC dI A s.heap H locs (oW 4 (LE 2) ksS spS tk LS gS aS (oW 1 hE ksE spE tk LE gE aE (rA 4 (LS 0) 3 tk (fun i => some (dP i).1.1) (pW 5 ksD spD 1 tk dP 3 rw)))) := gr1 (a := (oX 1 hE ksE spE tk LE gE aE)) (b := (oX 4 (LE 2) ksS spS tk LS gS aS)) (r := (rA 4 (LS 0) 3 tk (fun i => some (dP i).1.1) (pW 5 ksD spD 1 tk dP 3 rw))) hst
    refine rn_geti hx hb hown hG hg cS hst 2 (by decide) rfl rfl t_167 d_E_name_9 ?_
    refine lv_icmp_ge (tgt := 35) hx hb d_E_name_12 (by decide) (fun h2 => ?_) (fun h2 => ?_)
    · have hm := it_t hm h2
      have hst : St dC dI A s.heap H locs (pW 5 ksD spD 1 tk dP 3 (oW 4 (LE 2) ksS spS tk LS gS aS (oW 1 hE ksE spE tk LE gE aE (rA 4 (LS 0) 3 tk (fun i => some (dP i).1.1) rw)))) := gr3 (a := (oX 4 (LE 2) ksS spS tk LS gS aS)) (b := (oX 1 hE ksE spE tk LE gE aE)) (x := (rX 4 (LS 0) 3 tk (fun i => some (dP i).1.1))) (y := (pF 5 ksD spD 1 tk dP 3)) (r := rw) hst
      have hst : St dC dI A s.heap H locs (rA 4 (LS 0) 3 tk (fun i => some (dP i).1.1) (pW 5 ksD spD 1 tk dP 3 (oW 4 (LE 2) ksS spS tk LS gS aS (oW 1 hE ksE spE tk LE gE aE rw)))) := gr3 (a := (pF 5 ksD spD 1 tk dP 3)) (b := (oX 4 (LE 2) ksS spS tk LS gS aS)) (x := (oX 1 hE ksE spE tk LE gE aE)) (y := (rX 4 (LS 0) 3 tk (fun i => some (dP i).1.1))) (r := rw) hst
      have hst : St dC dI A s.heap H locs (oW 4 (LE 2) ksS spS tk LS gS aS (rA 4 (LS 0) 3 tk (fun i => some (dP i).1.1) (pW 5 ksD spD 1 tk dP 3 (oW 1 hE ksE spE tk LE gE aE rw)))) := gr2 (a := (rX 4 (LS 0) 3 tk (fun i => some (dP i).1.1))) (b := (pF 5 ksD spD 1 tk dP 3)) (x := (oX 4 (LE 2) ksS spS tk LS gS aS)) (r := (oW 1 hE ksE spE tk LE gE aE rw)) hst
      have hst : St dC dI A s.heap H locs (oW 1 hE ksE spE tk LE gE aE (oW 4 (LE 2) ksS spS tk LS gS aS (rA 4 (LS 0) 3 tk (fun i => some (dP i).1.1) (pW 5 ksD spD 1 tk dP 3 rw)))) := gr3 (a := (oX 4 (LE 2) ksS spS tk LS gS aS)) (b := (rX 4 (LS 0) 3 tk (fun i => some (dP i).1.1))) (x := (pF 5 ksD spD 1 tk dP 3)) (y := (oX 1 hE ksE spE tk LE gE aE)) (r := rw) hst
      subst hH
      subst hlc
      exact ro_throw hx hb hml hown hlk hxt hG hg hst hNT k_680 k_681 k_22 (by decide +kernel) (oa_i hG hg.2.2.2.2.2.2.2.2.2.2.2.2.1 hg.2.2.2.2.2.2.2.2.2.2.2.2.2.1) hl.1 d_E_name_35 d_E_name_38 d_E_name_39 d_E_name_42
    · have hm := it_f hm h2
      refine lv_iload_n hx hb d_E_name_15 rfl (lv_at hl 2 rfl) ?_
      refine lv_if_lt (tgt := 35) hx hb d_E_name_16 (by decide) (fun h3 => ?_) (fun h3 => ?_)
      · have hm := it_t hm h3
        have hst : St dC dI A s.heap H locs (pW 5 ksD spD 1 tk dP 3 (oW 4 (LE 2) ksS spS tk LS gS aS (oW 1 hE ksE spE tk LE gE aE (rA 4 (LS 0) 3 tk (fun i => some (dP i).1.1) rw)))) := gr3 (a := (oX 4 (LE 2) ksS spS tk LS gS aS)) (b := (oX 1 hE ksE spE tk LE gE aE)) (x := (rX 4 (LS 0) 3 tk (fun i => some (dP i).1.1))) (y := (pF 5 ksD spD 1 tk dP 3)) (r := rw) hst
        have hst : St dC dI A s.heap H locs (rA 4 (LS 0) 3 tk (fun i => some (dP i).1.1) (pW 5 ksD spD 1 tk dP 3 (oW 4 (LE 2) ksS spS tk LS gS aS (oW 1 hE ksE spE tk LE gE aE rw)))) := gr3 (a := (pF 5 ksD spD 1 tk dP 3)) (b := (oX 4 (LE 2) ksS spS tk LS gS aS)) (x := (oX 1 hE ksE spE tk LE gE aE)) (y := (rX 4 (LS 0) 3 tk (fun i => some (dP i).1.1))) (r := rw) hst
        have hst : St dC dI A s.heap H locs (oW 4 (LE 2) ksS spS tk LS gS aS (rA 4 (LS 0) 3 tk (fun i => some (dP i).1.1) (pW 5 ksD spD 1 tk dP 3 (oW 1 hE ksE spE tk LE gE aE rw)))) := gr2 (a := (rX 4 (LS 0) 3 tk (fun i => some (dP i).1.1))) (b := (pF 5 ksD spD 1 tk dP 3)) (x := (oX 4 (LE 2) ksS spS tk LS gS aS)) (r := (oW 1 hE ksE spE tk LE gE aE rw)) hst
        have hst : St dC dI A s.heap H locs (oW 1 hE ksE spE tk LE gE aE (oW 4 (LE 2) ksS spS tk LS gS aS (rA 4 (LS 0) 3 tk (fun i => some (dP i).1.1) (pW 5 ksD spD 1 tk dP 3 rw)))) := gr3 (a := (oX 4 (LE 2) ksS spS tk LS gS aS)) (b := (rX 4 (LS 0) 3 tk (fun i => some (dP i).1.1))) (x := (pF 5 ksD spD 1 tk dP 3)) (y := (oX 1 hE ksE spE tk LE gE aE)) (r := rw) hst
        subst hH
        subst hlc
        exact ro_throw hx hb hml hown hlk hxt hG hg hst hNT k_680 k_681 k_22 (by decide +kernel) (oa_i hG hg.2.2.2.2.2.2.2.2.2.2.2.2.1 hg.2.2.2.2.2.2.2.2.2.2.2.2.2.1) hl.1 d_E_name_35 d_E_name_38 d_E_name_39 d_E_name_42
      · have hm := it_f hm h3
        refine lv_iload_n hx hb d_E_name_19 rfl (lv_at hl 2 rfl) ?_
        refine lv_aload_n hx hb d_E_name_20 rfl (lv_at hl 0 rfl) ?_
        have hst : St dC dI A s.heap H locs (oW 1 hE ksE spE tk LE gE aE (oW 4 (LE 2) ksS spS tk LS gS aS (rA 4 (LS 0) 3 tk (fun i => some (dP i).1.1) (pW 5 ksD spD 1 tk dP 3 rw)))) := gr1 (a := (oX 4 (LE 2) ksS spS tk LS gS aS)) (b := (oX 1 hE ksE spE tk LE gE aE)) (r := (rA 4 (LS 0) 3 tk (fun i => some (dP i).1.1) (pW 5 ksD spD 1 tk dP 3 rw))) hst
        refine ro_geta hx hb hown hG hg cE hst 2 2 (by decide) rfl rfl k_286 d_E_name_21 ?_
        have hst : St dC dI A s.heap H locs (oW 4 (LE 2) ksS spS tk LS gS aS (oW 1 hE ksE spE tk LE gE aE (rA 4 (LS 0) 3 tk (fun i => some (dP i).1.1) (pW 5 ksD spD 1 tk dP 3 rw)))) := gr1 (a := (oX 1 hE ksE spE tk LE gE aE)) (b := (oX 4 (LE 2) ksS spS tk LS gS aS)) (r := (rA 4 (LS 0) 3 tk (fun i => some (dP i).1.1) (pW 5 ksD spD 1 tk dP 3 rw))) hst
        refine rn_geta hx hb hown hG hg cS hst 0 0 (by decide) rfl rfl t_164 d_E_name_24 ?_
        refine lv_iload_n hx hb d_E_name_27 rfl (lv_at hl 1 rfl) ?_
        obtain ⟨hn4, hm⟩ := gd_u hm
        have hst : St dC dI A s.heap H locs (rA 4 (LS 0) 3 tk (fun i => some (dP i).1.1) (oW 4 (LE 2) ksS spS tk LS gS aS (oW 1 hE ksE spE tk LE gE aE (pW 5 ksD spD 1 tk dP 3 rw)))) := gr2 (a := (oX 4 (LE 2) ksS spS tk LS gS aS)) (b := (oX 1 hE ksE spE tk LE gE aE)) (x := (rX 4 (LS 0) 3 tk (fun i => some (dP i).1.1))) (r := (pW 5 ksD spD 1 tk dP 3 rw)) hst
        refine ro_aald (a := (dP v1.toNatClampNeg).1.1) hx hb hg hst rfl hn4 rfl d_E_name_28 ?_
        have hst : St dC dI A s.heap H locs (pW 5 ksD spD 1 tk dP 3 (rA 4 (LS 0) 3 tk (fun i => some (dP i).1.1) (oW 4 (LE 2) ksS spS tk LS gS aS (oW 1 hE ksE spE tk LE gE aE rw)))) := gr3 (a := (rX 4 (LS 0) 3 tk (fun i => some (dP i).1.1))) (b := (oX 4 (LE 2) ksS spS tk LS gS aS)) (x := (oX 1 hE ksE spE tk LE gE aE)) (y := (pF 5 ksD spD 1 tk dP 3)) (r := rw) hst
        have hst := foc (d := v1.toNatClampNeg) hst (inb_lt hn4)
        refine rn_geti hx hb hown hG hg cD hst 2 (by decide) rfl rfl t_150 d_E_name_29 ?_
        refine lv_icmp_lt (tgt := 43) hx hb d_E_name_32 (by decide) (fun h5 => ?_) (fun h5 => ?_)
        · have hm := it_t hm h5
          cases hm
        · have hm := it_f hm h5
          have hst := unf0 (d := v1.toNatClampNeg) hst (inb_lt hn4)
          have hst : St dC dI A s.heap H locs (rA 4 (LS 0) 3 tk (fun i => some (dP i).1.1) (pW 5 ksD spD 1 tk dP 3 (oW 4 (LE 2) ksS spS tk LS gS aS (oW 1 hE ksE spE tk LE gE aE rw)))) := gr1 (a := (pF 5 ksD spD 1 tk dP 3)) (b := (rX 4 (LS 0) 3 tk (fun i => some (dP i).1.1))) (r := (oW 4 (LE 2) ksS spS tk LS gS aS (oW 1 hE ksE spE tk LE gE aE rw))) hst
          have hst : St dC dI A s.heap H locs (oW 4 (LE 2) ksS spS tk LS gS aS (rA 4 (LS 0) 3 tk (fun i => some (dP i).1.1) (pW 5 ksD spD 1 tk dP 3 (oW 1 hE ksE spE tk LE gE aE rw)))) := gr2 (a := (rX 4 (LS 0) 3 tk (fun i => some (dP i).1.1))) (b := (pF 5 ksD spD 1 tk dP 3)) (x := (oX 4 (LE 2) ksS spS tk LS gS aS)) (r := (oW 1 hE ksE spE tk LE gE aE rw)) hst
          have hst : St dC dI A s.heap H locs (oW 1 hE ksE spE tk LE gE aE (oW 4 (LE 2) ksS spS tk LS gS aS (rA 4 (LS 0) 3 tk (fun i => some (dP i).1.1) (pW 5 ksD spD 1 tk dP 3 rw)))) := gr3 (a := (oX 4 (LE 2) ksS spS tk LS gS aS)) (b := (rX 4 (LS 0) 3 tk (fun i => some (dP i).1.1))) (x := (pF 5 ksD spD 1 tk dP 3)) (y := (oX 1 hE ksE spE tk LE gE aE)) (r := rw) hst
          subst hH
          subst hlc
          exact ro_throw hx hb hml hown hlk hxt hG hg hst hNT k_680 k_681 k_22 (by decide +kernel) (oa_i hG hg.2.2.2.2.2.2.2.2.2.2.2.2.1 hg.2.2.2.2.2.2.2.2.2.2.2.2.2.1) hl.1 d_E_name_35 d_E_name_38 d_E_name_39 d_E_name_42
def mE_place_i (v1 : Int32) (v2 : Int32) (v3 : Int32) (gE : aG) (aE : aA) (gS : aG) (aS : aA) (dP : aP) : Option Unit := if v1 < 0 then (some (())) else (if v1 < (gS 2) then (none) else (some (())))
set_option maxHeartbeats 4000000 in
set_option maxRecDepth 100000 in
theorem cE_place_i (l : Launch) (hNT : NoTr l) (dC : Nat → ClassId) (dI : Nat → Nat → Nat) (tk : Nat → ClassId) (A : Nat → Prop) (hE : Nat) (LE : Nat → Nat) (gE : aG) (aE : aA) (LS : Nat → Nat) (gS : aG) (aS : aA) (dP : aP) (rw : va_W) (v1 : Int32) (v2 : Int32) (v3 : Int32) (hm : mE_place_i v1 v2 v3 gE aE gS aS dP = some ()) : CtX l dC dI tk A ⟨"EditorServer", "place", "(III)I"⟩ prog_1_method_16_code 4 (some .int) [.ref hE, .int v1, .int v2, .int v3] "java/lang/IndexOutOfBoundsException" (oW 1 hE ksE spE tk LE gE aE (oW 4 (LE 2) ksS spS tk LS gS aS (rA 4 (LS 0) 3 tk (fun i => some (dP i).1.1) (pW 5 ksD spD 1 tk dP 3 rw)))) := by
  refine entX (by decide) (Nat.le_of_ble_eq_true rfl) ?_
  intro p e s m args below meth c hx hb hr hml hown hlk hxt hG hg hst ls hl
  unfold mE_place_i at hm
  have hl : lv_has ls 4 [(0, .ref hE), (1, .int v1), (2, .int v2), (3, .int v3)] := hl
  obtain ⟨H, hH⟩ : ∃ H, H = s.heap := ⟨_, rfl⟩
  obtain ⟨locs, hlc⟩ : ∃ locs : List Loc, locs = [] := ⟨_, rfl⟩
  have hst : St dC dI A s.heap H locs (oW 1 hE ksE spE tk LE gE aE (oW 4 (LE 2) ksS spS tk LS gS aS (rA 4 (LS 0) 3 tk (fun i => some (dP i).1.1) (pW 5 ksD spD 1 tk dP 3 rw)))) := by rw [hH, hlc]; exact hst
  suffices hw : W p l e (rmn 6 100 1 6) s m args below meth c H locs 0 0 (MQX below (QX dC dI A "java/lang/IndexOutOfBoundsException" (oW 1 hE ksE spE tk LE gE aE (oW 4 (LE 2) ksS spS tk LS gS aS (rA 4 (LS 0) 3 tk (fun i => some (dP i).1.1) (pW 5 ksD spD 1 tk dP 3 rw))))) args s 1 6 A) (F0 m 0 ls []) by rw [hH, hlc] at hw; exact hw
  refine lv_iload_n hx hb d_E_place_0 rfl (lv_at hl 1 rfl) ?_
  refine lv_if_lt (tgt := 15) hx hb d_E_place_1 (by decide) (fun h1 => ?_) (fun h1 => ?_)
  · have hm := it_t hm h1
    subst hH
    subst hlc
    exact ro_throw hx hb hml hown hlk hxt hG hg hst hNT k_680 k_681 k_22 (by decide +kernel) (oa_i hG hg.2.2.2.2.2.2.2.2.2.2.2.2.1 hg.2.2.2.2.2.2.2.2.2.2.2.2.2.1) hl.1 d_E_place_15 d_E_place_18 d_E_place_19 d_E_place_22
  · have hm := it_f hm h1
    refine lv_iload_n hx hb d_E_place_4 rfl (lv_at hl 1 rfl) ?_
    refine lv_aload_n hx hb d_E_place_5 rfl (lv_at hl 0 rfl) ?_
    refine ro_geta hx hb hown hG hg cE hst 2 2 (by decide) rfl rfl k_286 d_E_place_6 ?_
    have hst : St dC dI A s.heap H locs (oW 4 (LE 2) ksS spS tk LS gS aS (oW 1 hE ksE spE tk LE gE aE (rA 4 (LS 0) 3 tk (fun i => some (dP i).1.1) (pW 5 ksD spD 1 tk dP 3 rw)))) := gr1 (a := (oX 1 hE ksE spE tk LE gE aE)) (b := (oX 4 (LE 2) ksS spS tk LS gS aS)) (r := (rA 4 (LS 0) 3 tk (fun i => some (dP i).1.1) (pW 5 ksD spD 1 tk dP 3 rw))) hst
    refine rn_geti hx hb hown hG hg cS hst 2 (by decide) rfl rfl t_167 d_E_place_9 ?_
    refine lv_icmp_lt (tgt := 23) hx hb d_E_place_12 (by decide) (fun h2 => ?_) (fun h2 => ?_)
    · have hm := it_t hm h2
      cases hm
    · have hm := it_f hm h2
      have hst : St dC dI A s.heap H locs (pW 5 ksD spD 1 tk dP 3 (oW 4 (LE 2) ksS spS tk LS gS aS (oW 1 hE ksE spE tk LE gE aE (rA 4 (LS 0) 3 tk (fun i => some (dP i).1.1) rw)))) := gr3 (a := (oX 4 (LE 2) ksS spS tk LS gS aS)) (b := (oX 1 hE ksE spE tk LE gE aE)) (x := (rX 4 (LS 0) 3 tk (fun i => some (dP i).1.1))) (y := (pF 5 ksD spD 1 tk dP 3)) (r := rw) hst
      have hst : St dC dI A s.heap H locs (rA 4 (LS 0) 3 tk (fun i => some (dP i).1.1) (pW 5 ksD spD 1 tk dP 3 (oW 4 (LE 2) ksS spS tk LS gS aS (oW 1 hE ksE spE tk LE gE aE rw)))) := gr3 (a := (pF 5 ksD spD 1 tk dP 3)) (b := (oX 4 (LE 2) ksS spS tk LS gS aS)) (x := (oX 1 hE ksE spE tk LE gE aE)) (y := (rX 4 (LS 0) 3 tk (fun i => some (dP i).1.1))) (r := rw) hst
      have hst : St dC dI A s.heap H locs (oW 4 (LE 2) ksS spS tk LS gS aS (rA 4 (LS 0) 3 tk (fun i => some (dP i).1.1) (pW 5 ksD spD 1 tk dP 3 (oW 1 hE ksE spE tk LE gE aE rw)))) := gr2 (a := (rX 4 (LS 0) 3 tk (fun i => some (dP i).1.1))) (b := (pF 5 ksD spD 1 tk dP 3)) (x := (oX 4 (LE 2) ksS spS tk LS gS aS)) (r := (oW 1 hE ksE spE tk LE gE aE rw)) hst
      have hst : St dC dI A s.heap H locs (oW 1 hE ksE spE tk LE gE aE (oW 4 (LE 2) ksS spS tk LS gS aS (rA 4 (LS 0) 3 tk (fun i => some (dP i).1.1) (pW 5 ksD spD 1 tk dP 3 rw)))) := gr3 (a := (oX 4 (LE 2) ksS spS tk LS gS aS)) (b := (rX 4 (LS 0) 3 tk (fun i => some (dP i).1.1))) (x := (pF 5 ksD spD 1 tk dP 3)) (y := (oX 1 hE ksE spE tk LE gE aE)) (r := rw) hst
      subst hH
      subst hlc
      exact ro_throw hx hb hml hown hlk hxt hG hg hst hNT k_680 k_681 k_22 (by decide +kernel) (oa_i hG hg.2.2.2.2.2.2.2.2.2.2.2.2.1 hg.2.2.2.2.2.2.2.2.2.2.2.2.2.1) hl.1 d_E_place_15 d_E_place_18 d_E_place_19 d_E_place_22
