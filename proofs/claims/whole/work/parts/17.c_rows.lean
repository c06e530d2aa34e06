/-- cells of arrays of references that agree below their length are one cell -/
theorem rA_ext {t hr n : Nat} {tk : Nat → ClassId} {f f2 : Nat → Option Nat} {rw : va_W} {dC : Nat → ClassId} {dI : Nat → Nat → Nat} {A : Nat → Prop} {H0 H : Heap} {locs : List Loc} (h : St dC dI A H0 H locs (rA t hr n tk f rw)) (e : ∀ i, i < n → f i = f2 i) : St dC dI A H0 H locs (rA t hr n tk f2 rw) := by
  have ec : vp_cell (tk t) (n, .inr (.inr (.inr (.inr f)))) = vp_cell (tk t) (n, .inr (.inr (.inr (.inr f2)))) := by
    rw [vp_cell_q, vp_cell_q]
    unfold arrV
    congr 1
    apply congrArg
    funext j
    show va_rf (f j.val) = va_rf (f2 j.val)
    rw [e j.val j.isLt]
  obtain ⟨h1, h2⟩ := va_D.nd.mp h.2.1
  refine ⟨va_P.mem.mpr fun q hq => ?_, va_D.nd.mpr ⟨h1, fun q hq => ?_⟩, h.2.2⟩
  · rcases List.mem_cons.mp hq with rfl | hq
    · have h3 := va_P.mem.mp h.1 _ List.mem_cons_self
      show H[hr]? = some (vp_cell (tk t) _)
      rw [← ec]
      exact h3
    · exact va_P.mem.mp h.1 _ (List.mem_cons_of_mem _ hq)
  · rcases List.mem_cons.mp hq with rfl | hq
    · exact h2 (hr, .inl (tk t, n, .inr (.inr (.inr (.inr f))))) List.mem_cons_self
    · exact h2 q (List.mem_cons_of_mem _ hq)
/-- rows as they are when new -/
def zD (ad : Nat → aAd) : aP := fun i => (ad i, (fun _ => 0), (fun _ _ => 0), (fun _ => 0), (fun _ _ => 0))
theorem zD_up {ad : Nat → aAd} {k : Nat} {x : aAd} : va_up (zD ad) k (x, (fun _ => 0), (fun _ _ => 0), (fun _ => 0), (fun _ _ => 0)) = zD (va_up ad k x) := by
  funext i
  unfold zD va_up
  split <;> rfl
theorem pF_0 {c1 : Nat} {k1 : List (Option Nat)} {s1 : List (Nat × Nat)} {rj : Nat} {tk : Nat → ClassId} {dS : aP} : pF c1 k1 s1 rj tk dS 0 = [] := rfl
theorem d_Q_init_0 : decode prog_6_method_1_code 0 = .ok (.aload_n 0, 1) := by decide +kernel
theorem d_Q_init_1 : decode prog_6_method_1_code 1 = .ok (.invokespecial 3, 3) := by decide +kernel
theorem d_Q_init_4 : decode prog_6_method_1_code 4 = .ok (.aload_n 0, 1) := by decide +kernel
theorem d_Q_init_5 : decode prog_6_method_1_code 5 = .ok (.bipush 8, 2) := by decide +kernel
theorem d_Q_init_7 : decode prog_6_method_1_code 7 = .ok (.anewarray 11, 3) := by decide +kernel
theorem d_Q_init_10 : decode prog_6_method_1_code 10 = .ok (.putfield 13, 3) := by decide +kernel
theorem d_Q_init_13 : decode prog_6_method_1_code 13 = .ok (.iconst 0, 1) := by decide +kernel
theorem d_Q_init_14 : decode prog_6_method_1_code 14 = .ok (.istore_n 1, 1) := by decide +kernel
theorem d_Q_init_15 : decode prog_6_method_1_code 15 = .ok (.iload_n 1, 1) := by decide +kernel
theorem d_Q_init_16 : decode prog_6_method_1_code 16 = .ok (.bipush 8, 2) := by decide +kernel
theorem d_Q_init_18 : decode prog_6_method_1_code 18 = .ok (.if_icmp .ge 22, 3) := by decide +kernel
theorem d_Q_init_21 : decode prog_6_method_1_code 21 = .ok (.aload_n 0, 1) := by decide +kernel
theorem d_Q_init_22 : decode prog_6_method_1_code 22 = .ok (.getfield 13, 3) := by decide +kernel
theorem d_Q_init_25 : decode prog_6_method_1_code 25 = .ok (.iload_n 1, 1) := by decide +kernel
theorem d_Q_init_26 : decode prog_6_method_1_code 26 = .ok (.new 11, 3) := by decide +kernel
theorem d_Q_init_29 : decode prog_6_method_1_code 29 = .ok (.dup, 1) := by decide +kernel
theorem d_Q_init_30 : decode prog_6_method_1_code 30 = .ok (.invokespecial 17, 3) := by decide +kernel
theorem d_Q_init_33 : decode prog_6_method_1_code 33 = .ok (.aastore, 1) := by decide +kernel
theorem d_Q_init_34 : decode prog_6_method_1_code 34 = .ok (.iinc 1 1, 3) := by decide +kernel
theorem d_Q_init_37 : decode prog_6_method_1_code 37 = .ok (.goto (-22), 3) := by decide +kernel
theorem d_Q_init_40 : decode prog_6_method_1_code 40 = .ok (.return_, 1) := by decide +kernel
set_option maxHeartbeats 4000000 in
set_option maxRecDepth 100000 in
theorem cQ_init (l : Launch) (dC : Nat → ClassId) (dI : Nat → Nat → Nat) (tk : Nat → ClassId) (A : Nat → Prop) (h : Nat) (L0 : Nat → Nat) (rw : va_W) : Met l ⟨"EditorServer$Queue", "<init>", "()V"⟩ (Cond.code ⟨"EditorServer$Queue", "<init>", "()V"⟩ prog_6_method_1_code 2 none :: gW) (rmn 3 90 25 552) (va_Pc [.ref h] (Pr dC dI tk A (oN 7 h ksQ spQ tk L0 rw 0))) (va_Qv (fun (_ : (Nat → Nat) × (Nat → aAd)) => True) (fun u t => Po dC dI A ((fun u : (Nat → Nat) × (Nat → aAd) => oW 7 h ksQ spQ tk u.1 (fun _ => 0) (fun _ _ => 0) (rA 5 (u.1 0) 8 tk (fun i => some (zD u.2 i).1.1) (pW 8 ksK spK 0 tk (zD u.2) 8 rw))) u) t) A) 25 552 A := by
  refine entN (by decide) (Nat.le_of_ble_eq_true rfl) ?_
  intro p e s m args below meth c hx hb hr hml hown hlk hin hG hg hst ls hl
  have hl : lv_has ls 2 [(0, .ref h)] := hl
  refine lv_aload_n hx hb d_Q_init_0 rfl (lv_at hl 0 rfl) ?_
  refine W.objInit hx hb hown (hG _ k_180) (hG _ k_33) (hG _ k_34) rfl (by rw [hml]; exact hl.1) rfl d_Q_init_1 (Nat.le_of_ble_eq_true rfl) (Nat.le_of_ble_eq_true rfl) ?_
  refine W.eq (g2 := F0 m 4 ls []) rfl ?_
  refine lv_aload_n hx hb d_Q_init_4 rfl (lv_at hl 0 rfl) ?_
  refine lv_bipush (v := 8) hx hb d_Q_init_5 (by decide) ?_
  refine ro_newq 5 8 hx hb hown hG hg hg.2.2.2.2.2.2.2.2.2.2.2.1 hst k_181 rfl (by decide) (by decide) (by decide) (by decide) (by decide) d_Q_init_7 (fun q H hst => ?_)
  refine W.cs (cells' := 1) (slots' := 8) rfl rfl ?_
  have hst : St dC dI A s.heap H [] ((h, .inr (7, oFn ksQ L0 0)) :: (rX 5 q 8 tk (fun _ => none) ++ rw)) := gr1 (a := (rX 5 q 8 tk (fun _ => none))) (b := [(h, .inr (7, oFn ksQ L0 0))]) (r := rw) hst
  refine ro_putF hx hb hown hin hG hg cQ hst 0 (by decide) rfl rfl rfl rfl rfl (Nat.le_of_ble_eq_true rfl) k_212 d_Q_init_10 (fun H locs hst => ?_)
  have hst : St dC dI A s.heap H locs ((h, .inr (7, oFn ksQ (va_up L0 0 q) 1)) :: (rX 5 q 8 tk (fun _ => none) ++ rw)) := by rw [← oFn_set (fi := 0) rfl (uq (by decide))]; exact hst
  rw [oFn_full (fl (by decide))] at hst
  obtain ⟨L1, hL1⟩ : ∃ L1, L1 = va_up L0 0 q := ⟨_, rfl⟩
  have hq : q = L1 0 := by rw [hL1, va_up_self]
  rw [← hL1] at hst
  clear hL1
  subst hq
  have hst : St dC dI A s.heap H locs (oW 7 h ksQ spQ tk L1 (fun _ => 0) (fun _ _ => 0) (rA 5 (L1 0) 8 tk (fun _ => none) (pW 8 ksK spK 0 tk (zD (fun _ => (0, (fun _ => 0), (fun _ => 0)))) 0 rw))) := hst
  refine lv_iconst (v := 0) hx hb d_Q_init_13 (by decide) ?_
  refine lv_istore_n (lv' := [(1, .int 0), (0, .ref h)]) hx hb d_Q_init_14 rfl hl (by decide) rfl (fun ls hl => ?_)
  suffices hw : ∀ (d k : Nat), k + d = 8 → ∀ (H : Heap) (locs : List Loc) (ls : Array Slot) (ad : Nat → aAd) (f : Nat → Option Nat), lv_has ls 2 [(0, .ref h), (1, .int (nI k))] → (∀ j, j < k → f j = some (ad j).1) → St dC dI A s.heap H locs (oW 7 h ksQ spQ tk L1 (fun _ => 0) (fun _ _ => 0) (rA 5 (L1 0) 8 tk f (pW 8 ksK spK 0 tk (zD ad) k rw))) → W p l e (rmn 3 90 25 552) s m args below meth c H locs (1 + 3 * k) (8 + 68 * k) (MQ below (va_Qv (fun (_ : (Nat → Nat) × (Nat → aAd)) => True) (fun u t => Po dC dI A ((fun u : (Nat → Nat) × (Nat → aAd) => oW 7 h ksQ spQ tk u.1 (fun _ => 0) (fun _ _ => 0) (rA 5 (u.1 0) 8 tk (fun i => some (zD u.2 i).1.1) (pW 8 ksK spK 0 tk (zD u.2) 8 rw))) u) t) A) args s 25 552 A) (F0 m 15 ls []) from hw 8 0 rfl H locs ls _ _ (lv_sub hl [1, 0] rfl) (fun j hj => absurd hj (Nat.not_lt_zero j)) hst
  intro d
  induction d with
  | zero =>
    intro k hk H locs ls ad f hl hf hst
    have hk : k = 8 := by omega
    subst hk
    refine lv_iload_n hx hb d_Q_init_15 rfl (lv_at hl 1 rfl) ?_
    refine lv_bipush (v := 8) hx hb d_Q_init_16 (by decide) ?_
    refine lv_icmp_ge (tgt := 40) hx hb d_Q_init_18 (by decide) (fun h1 => ?_) (fun h1 => absurd (by decide) h1)
    have hst : St dC dI A s.heap H locs ((fun u : (Nat → Nat) × (Nat → aAd) => oW 7 h ksQ spQ tk u.1 (fun _ => 0) (fun _ _ => 0) (rA 5 (u.1 0) 8 tk (fun i => some (zD u.2 i).1.1) (pW 8 ksK spK 0 tk (zD u.2) 8 rw))) (L1, ad)) := gr1 (rA_ext (f2 := fun i => some (zD ad i).1.1) (gr1 (a := (oX 7 h ksQ spQ tk L1 (fun _ => 0) (fun _ _ => 0))) (b := (rX 5 (L1 0) 8 tk f)) (r := (pF 8 ksK spK 0 tk (zD ad) 8 ++ rw)) hst) hf)
    exact rt_vn (u := (L1, ad)) (wf := (fun u : (Nat → Nat) × (Nat → aAd) => oW 7 h ksQ spQ tk u.1 (fun _ => 0) (fun _ _ => 0) (rA 5 (u.1 0) 8 tk (fun i => some (zD u.2 i).1.1) (pW 8 ksK spK 0 tk (zD u.2) 8 rw)))) hx hb hr hlk hst d_Q_init_40
  | succ d ih =>
    intro k hk H locs ls ad f hl hf hst
    refine lv_iload_n hx hb d_Q_init_15 rfl (lv_at hl 1 rfl) ?_
    refine lv_bipush (v := 8) hx hb d_Q_init_16 (by decide) ?_
    refine lv_icmp_ge (tgt := 40) hx hb d_Q_init_18 (by decide) (fun h1 => absurd h1 (by rw [show (8 : Int32) = nI 8 from rfl]; exact nI_ge (by omega) (by omega))) (fun h1 => ?_)
    refine lv_aload_n hx hb d_Q_init_21 rfl (lv_at hl 0 rfl) ?_
    refine ro_geta hx hb hown hG hg cQ hst 0 0 (by decide) rfl rfl k_212 d_Q_init_22 ?_
    refine lv_iload_n hx hb d_Q_init_25 rfl (lv_at hl 1 rfl) ?_
    refine ro_newO (ks := ksK) (sp := spK) (fun _ => 0) hx hb hown hG hg cK hst k_181 k_183 k_8 (by decide) (by show _ ≤ 25; omega) (by show _ ≤ 552; omega) d_Q_init_26 (fun q2 H hst => ?_)
    refine lv_dup hx hb d_Q_init_29 rfl ?_
    refine cl_in hx hb hml hown hG hg (cK_init l dC dI tk A q2 (fun _ => 0) _) t_184 k_185 k_8 k_186 rfl (by decide +kernel) ⟨by decide, by decide⟩ hst hl.1 (Nat.le_of_ble_eq_true rfl) ⟨by show _ ≤ 25; omega, by show _ ≤ 552; omega⟩ d_Q_init_30 (fun LK H locs hst => ?_)
    refine W.cs (cells' := 1 + 3 * (k + 1)) (slots' := 8 + 68 * (k + 1)) (by omega) (by omega) ?_
    have hst := gr3 (a := (oX 8 q2 ksK spK tk LK.1 (fun _ => 0) (fun _ _ => 0))) (b := (oX 6 (LK.1 0) ksT spT tk LK.2 (fun _ => 0) (fun _ _ => 0))) (x := (oX 7 h ksQ spQ tk L1 (fun _ => 0) (fun _ _ => 0))) (y := (rX 5 (L1 0) 8 tk f)) (r := ((pF 8 ksK spK 0 tk (zD ad) k) ++ rw)) hst
    refine ro_aast (C := RK) (v := q2) (vs := oF ksK LK.1 (fun _ => 0)) hx hb hg (rw := ((oX 8 q2 ksK spK tk LK.1 (fun _ => 0) (fun _ _ => 0)) ++ ((oX 6 (LK.1 0) ksT spT tk LK.2 (fun _ => 0) (fun _ _ => 0)) ++ ((oX 7 h ksQ spQ tk L1 (fun _ => 0) (fun _ _ => 0)) ++ ((pF 8 ksK spK 0 tk (zD ad) k) ++ rw))))) hst rfl cK.1 List.mem_cons_self (decide_eq_true (fun h => h.elim (nI_pos (by omega)) (fun h => by rw [nI_clamp (by omega)] at h; omega))) d_Q_init_33 (fun f1 H locs ef1 hst => ?_)
    rw [nI_clamp (by omega)] at ef1
    have hst := gr3 (a := (rX 5 (L1 0) 8 tk f1)) (b := (oX 8 q2 ksK spK tk LK.1 (fun _ => 0) (fun _ _ => 0))) (x := (oX 6 (LK.1 0) ksT spT tk LK.2 (fun _ => 0) (fun _ _ => 0))) (y := (oX 7 h ksQ spQ tk L1 (fun _ => 0) (fun _ _ => 0))) (r := ((pF 8 ksK spK 0 tk (zD ad) k) ++ rw)) hst
    have hst := gr4 (a := (oX 7 h ksQ spQ tk L1 (fun _ => 0) (fun _ _ => 0))) (b := (rX 5 (L1 0) 8 tk f1)) (x := (oX 8 q2 ksK spK tk LK.1 (fun _ => 0) (fun _ _ => 0))) (y := (oX 6 (LK.1 0) ksT spT tk LK.2 (fun _ => 0) (fun _ _ => 0))) (z := (pF 8 ksK spK 0 tk (zD ad) k)) (r := rw) hst
    have hst := gr4 (a := (pF 8 ksK spK 0 tk (zD ad) k)) (b := (oX 7 h ksQ spQ tk L1 (fun _ => 0) (fun _ _ => 0))) (x := (rX 5 (L1 0) 8 tk f1)) (y := (oX 8 q2 ksK spK tk LK.1 (fun _ => 0) (fun _ _ => 0))) (z := (oX 6 (LK.1 0) ksT spT tk LK.2 (fun _ => 0) (fun _ _ => 0))) (r := rw) hst
    have hst := gr4 (a := (oX 6 (LK.1 0) ksT spT tk LK.2 (fun _ => 0) (fun _ _ => 0))) (b := (pF 8 ksK spK 0 tk (zD ad) k)) (x := (oX 7 h ksQ spQ tk L1 (fun _ => 0) (fun _ _ => 0))) (y := (rX 5 (L1 0) 8 tk f1)) (z := (oX 8 q2 ksK spK tk LK.1 (fun _ => 0) (fun _ _ => 0))) (r := rw) hst
    have hst : St dC dI A s.heap H locs (pX 8 ksK spK 0 tk ((q2, LK.1, LK.2), (fun _ => 0), (fun _ _ => 0), (fun _ => 0), (fun _ _ => 0)) ++ pW 8 ksK spK 0 tk (zD ad) k ((oX 7 h ksQ spQ tk L1 (fun _ => 0) (fun _ _ => 0)) ++ ((rX 5 (L1 0) 8 tk f1) ++ rw))) := by
      unfold pX pW
      rw [List.append_assoc]
      exact hst
    have hst := pW_grow hst
    rw [zD_up] at hst
    have hst := gr2 (a := (pF 8 ksK spK 0 tk (zD (va_up ad k (q2, LK.1, LK.2))) (k + 1))) (b := (oX 7 h ksQ spQ tk L1 (fun _ => 0) (fun _ _ => 0))) (x := (rX 5 (L1 0) 8 tk f1)) (r := rw) hst
    have hst := gr2 (a := (rX 5 (L1 0) 8 tk f1)) (b := (pF 8 ksK spK 0 tk (zD (va_up ad k (q2, LK.1, LK.2))) (k + 1))) (x := (oX 7 h ksQ spQ tk L1 (fun _ => 0) (fun _ _ => 0))) (r := rw) hst
    refine lv_iinc (k := 1) (v := (nI k + 1)) (lv' := [(1, .int (nI k + 1)), (0, .ref h)]) hx hb d_Q_init_34 hl rfl (by rfl) (by decide) rfl (fun ls hl => ?_)
    refine lv_goto (tgt := 15) hx hb d_Q_init_37 (by decide) ?_
    rw [nI_1] at hl
    refine ih (k + 1) (by omega) H locs ls (va_up ad k (q2, LK.1, LK.2)) f1 (lv_sub hl [1, 0] rfl) (fun j hj => ?_) hst
    rw [ef1]
    by_cases ej : j = k
    · subst ej
      rw [va_up_self, va_up_self]
    · rw [va_up_ne _ _ ej, va_up_ne _ _ ej]
      exact hf j (by omega)
theorem d_S_init_0 : decode prog_7_method_1_code 0 = .ok (.aload_n 0, 1) := by decide +kernel
theorem d_S_init_1 : decode prog_7_method_1_code 1 = .ok (.invokespecial 3, 3) := by decide +kernel
theorem d_S_init_4 : decode prog_7_method_1_code 4 = .ok (.aload_n 0, 1) := by decide +kernel
theorem d_S_init_5 : decode prog_7_method_1_code 5 = .ok (.iconst 3, 1) := by decide +kernel
theorem d_S_init_6 : decode prog_7_method_1_code 6 = .ok (.anewarray 11, 3) := by decide +kernel
theorem d_S_init_9 : decode prog_7_method_1_code 9 = .ok (.putfield 13, 3) := by decide +kernel
theorem d_S_init_12 : decode prog_7_method_1_code 12 = .ok (.aload_n 0, 1) := by decide +kernel
theorem d_S_init_13 : decode prog_7_method_1_code 13 = .ok (.new 17, 3) := by decide +kernel
theorem d_S_init_16 : decode prog_7_method_1_code 16 = .ok (.dup, 1) := by decide +kernel
theorem d_S_init_17 : decode prog_7_method_1_code 17 = .ok (.invokespecial 19, 3) := by decide +kernel
theorem d_S_init_20 : decode prog_7_method_1_code 20 = .ok (.putfield 20, 3) := by decide +kernel
theorem d_S_init_23 : decode prog_7_method_1_code 23 = .ok (.iconst 0, 1) := by decide +kernel
theorem d_S_init_24 : decode prog_7_method_1_code 24 = .ok (.istore_n 1, 1) := by decide +kernel
theorem d_S_init_25 : decode prog_7_method_1_code 25 = .ok (.iload_n 1, 1) := by decide +kernel
theorem d_S_init_26 : decode prog_7_method_1_code 26 = .ok (.iconst 3, 1) := by decide +kernel
theorem d_S_init_27 : decode prog_7_method_1_code 27 = .ok (.if_icmp .ge 22, 3) := by decide +kernel
theorem d_S_init_30 : decode prog_7_method_1_code 30 = .ok (.aload_n 0, 1) := by decide +kernel
theorem d_S_init_31 : decode prog_7_method_1_code 31 = .ok (.getfield 13, 3) := by decide +kernel
theorem d_S_init_34 : decode prog_7_method_1_code 34 = .ok (.iload_n 1, 1) := by decide +kernel
theorem d_S_init_35 : decode prog_7_method_1_code 35 = .ok (.new 11, 3) := by decide +kernel
theorem d_S_init_38 : decode prog_7_method_1_code 38 = .ok (.dup, 1) := by decide +kernel
theorem d_S_init_39 : decode prog_7_method_1_code 39 = .ok (.invokespecial 24, 3) := by decide +kernel
theorem d_S_init_42 : decode prog_7_method_1_code 42 = .ok (.aastore, 1) := by decide +kernel
theorem d_S_init_43 : decode prog_7_method_1_code 43 = .ok (.iinc 1 1, 3) := by decide +kernel
theorem d_S_init_46 : decode prog_7_method_1_code 46 = .ok (.goto (-21), 3) := by decide +kernel
theorem d_S_init_49 : decode prog_7_method_1_code 49 = .ok (.return_, 1) := by decide +kernel
set_option maxHeartbeats 4000000 in
set_option maxRecDepth 100000 in
theorem cS_init (l : Launch) (dC : Nat → ClassId) (dI : Nat → Nat → Nat) (tk : Nat → ClassId) (A : Nat → Prop) (h : Nat) (L0 : Nat → Nat) (rw : va_W) : Met l ⟨"EditorServer$Shelf", "<init>", "()V"⟩ (Cond.code ⟨"EditorServer$Shelf", "<init>", "()V"⟩ prog_7_method_1_code 2 none :: gW) (rmn 3 90 15 275) (va_Pc [.ref h] (Pr dC dI tk A (oN 4 h ksS spS tk L0 rw 0))) (va_Qv (fun (_ : (Nat → Nat) × (Nat → Nat) × (Nat → aAd)) => True) (fun u t => Po dC dI A ((fun u : (Nat → Nat) × (Nat → Nat) × (Nat → aAd) => oW 4 h ksS spS tk u.1 (fun _ => 0) (fun _ _ => 0) (rA 4 (u.1 0) 3 tk (fun i => some (zD u.2.2 i).1.1) (oW 6 (u.1 1) ksT spT tk u.2.1 (fun _ => 0) (fun _ _ => 0) (pW 5 ksD spD 1 tk (zD u.2.2) 3 rw)))) u) t) A) 15 275 A := by
  refine entN (by decide) (Nat.le_of_ble_eq_true rfl) ?_
  intro p e s m args below meth c hx hb hr hml hown hlk hin hG hg hst ls hl
  have hl : lv_has ls 2 [(0, .ref h)] := hl
  refine lv_aload_n hx hb d_S_init_0 rfl (lv_at hl 0 rfl) ?_
  refine W.objInit hx hb hown (hG _ k_116) (hG _ k_33) (hG _ k_34) rfl (by rw [hml]; exact hl.1) rfl d_S_init_1 (Nat.le_of_ble_eq_true rfl) (Nat.le_of_ble_eq_true rfl) ?_
  refine W.eq (g2 := F0 m 4 ls []) rfl ?_
  refine lv_aload_n hx hb d_S_init_4 rfl (lv_at hl 0 rfl) ?_
  refine lv_iconst (v := 3) hx hb d_S_init_5 (by decide) ?_
  refine ro_newq 4 3 hx hb hown hG hg hg.2.2.2.2.2.2.2.2.2.2.1 hst k_117 rfl (by decide) (by decide) (by decide) (by decide) (by decide) d_S_init_6 (fun q H hst => ?_)
  refine W.cs (cells' := 1) (slots' := 3) rfl rfl ?_
  have hst : St dC dI A s.heap H [] ((h, .inr (4, oFn ksS L0 0)) :: (rX 4 q 3 tk (fun _ => none) ++ rw)) := gr1 (a := (rX 4 q 3 tk (fun _ => none))) (b := [(h, .inr (4, oFn ksS L0 0))]) (r := rw) hst
  refine ro_putF hx hb hown hin hG hg cS hst 0 (by decide) rfl rfl rfl rfl rfl (Nat.le_of_ble_eq_true rfl) k_163 d_S_init_9 (fun H locs hst => ?_)
  have hst : St dC dI A s.heap H locs ((h, .inr (4, oFn ksS (va_up L0 0 q) 1)) :: (rX 4 q 3 tk (fun _ => none) ++ rw)) := by rw [← oFn_set (fi := 0) rfl (uq (by decide))]; exact hst
  refine lv_aload_n hx hb d_S_init_12 rfl (lv_at hl 0 rfl) ?_
  refine ro_newO (ks := ksT) (sp := spT) (fun _ => 0) hx hb hown hG hg cT hst k_119 k_120 k_5 (by decide) (by decide) (by decide) d_S_init_13 (fun q2 H hst => ?_)
  refine W.cs (cells' := 2) (slots' := 5) rfl rfl ?_
  refine lv_dup hx hb d_S_init_16 rfl ?_
  refine cl_in hx hb hml hown hG hg (cT_init l dC dI tk A q2 (fun _ => 0) _) t_121 k_122 k_5 k_123 rfl (by decide +kernel) ⟨by decide, by decide⟩ hst hl.1 (Nat.le_of_ble_eq_true rfl) ⟨by decide, by decide⟩ d_S_init_17 (fun LT H locs hst => ?_)
  refine W.cs (cells' := 3) (slots' := 65) rfl rfl ?_
  have hst : St dC dI A s.heap H locs ((h, .inr (4, oFn ksS (va_up L0 0 q) 1)) :: ((oX 6 q2 ksT spT tk LT (fun _ => 0) (fun _ _ => 0)) ++ (rX 4 q 3 tk (fun _ => none) ++ rw))) := gr1 (a := (oX 6 q2 ksT spT tk LT (fun _ => 0) (fun _ _ => 0))) (b := [(h, .inr (4, oFn ksS (va_up L0 0 q) 1))]) (r := (rX 4 q 3 tk (fun _ => none) ++ rw)) hst
  refine ro_putF hx hb hown hin hG hg cS hst 1 (by decide) rfl rfl rfl rfl rfl (Nat.le_of_ble_eq_true rfl) k_165 d_S_init_20 (fun H locs hst => ?_)
  have hst : St dC dI A s.heap H locs ((h, .inr (4, oFn ksS (va_up (va_up L0 0 q) 1 q2) 2)) :: ((oX 6 q2 ksT spT tk LT (fun _ => 0) (fun _ _ => 0)) ++ (rX 4 q 3 tk (fun _ => none) ++ rw))) := by rw [← oFn_set (fi := 1) rfl (uq (by decide))]; exact hst
  rw [oFn_full (fl (by decide))] at hst
  obtain ⟨L1, hL1⟩ : ∃ L1, L1 = va_up (va_up L0 0 q) 1 q2 := ⟨_, rfl⟩
  have hq : q = L1 0 := by rw [hL1, va_up_ne _ _ (by decide), va_up_self]
  have hq2 : q2 = L1 1 := by rw [hL1, va_up_self]
  rw [← hL1] at hst
  clear hL1
  subst hq
  subst hq2
  have hst : St dC dI A s.heap H locs (oW 4 h ksS spS tk L1 (fun _ => 0) (fun _ _ => 0) (rA 4 (L1 0) 3 tk (fun _ => none) (oW 6 (L1 1) ksT spT tk LT (fun _ => 0) (fun _ _ => 0) (pW 5 ksD spD 1 tk (zD (fun _ => (0, (fun _ => 0), (fun _ => 0)))) 0 rw)))) := gr1 (a := (rX 4 (L1 0) 3 tk (fun _ => none))) (b := (oX 4 h ksS spS tk L1 (fun _ => 0) (fun _ _ => 0))) (r := ((oX 6 (L1 1) ksT spT tk LT (fun _ => 0) (fun _ _ => 0)) ++ rw)) (gr2 (a := (oX 4 h ksS spS tk L1 (fun _ => 0) (fun _ _ => 0))) (b := (oX 6 (L1 1) ksT spT tk LT (fun _ => 0) (fun _ _ => 0))) (x := (rX 4 (L1 0) 3 tk (fun _ => none))) (r := rw) hst)
  refine lv_iconst (v := 0) hx hb d_S_init_23 (by decide) ?_
  refine lv_istore_n (lv' := [(1, .int 0), (0, .ref h)]) hx hb d_S_init_24 rfl hl (by decide) rfl (fun ls hl => ?_)
  suffices hw : ∀ (d k : Nat), k + d = 3 → ∀ (H : Heap) (locs : List Loc) (ls : Array Slot) (ad : Nat → aAd) (f : Nat → Option Nat), lv_has ls 2 [(0, .ref h), (1, .int (nI k))] → (∀ j, j < k → f j = some (ad j).1) → St dC dI A s.heap H locs (oW 4 h ksS spS tk L1 (fun _ => 0) (fun _ _ => 0) (rA 4 (L1 0) 3 tk f (oW 6 (L1 1) ksT spT tk LT (fun _ => 0) (fun _ _ => 0) (pW 5 ksD spD 1 tk (zD ad) k rw)))) → W p l e (rmn 3 90 15 275) s m args below meth c H locs (3 + 4 * k) (65 + 70 * k) (MQ below (va_Qv (fun (_ : (Nat → Nat) × (Nat → Nat) × (Nat → aAd)) => True) (fun u t => Po dC dI A ((fun u : (Nat → Nat) × (Nat → Nat) × (Nat → aAd) => oW 4 h ksS spS tk u.1 (fun _ => 0) (fun _ _ => 0) (rA 4 (u.1 0) 3 tk (fun i => some (zD u.2.2 i).1.1) (oW 6 (u.1 1) ksT spT tk u.2.1 (fun _ => 0) (fun _ _ => 0) (pW 5 ksD spD 1 tk (zD u.2.2) 3 rw)))) u) t) A) args s 15 275 A) (F0 m 25 ls []) from hw 3 0 rfl H locs ls _ _ (lv_sub hl [1, 0] rfl) (fun j hj => absurd hj (Nat.not_lt_zero j)) hst
  intro d
  induction d with
  | zero =>
    intro k hk H locs ls ad f hl hf hst
    have hk : k = 3 := by omega
    subst hk
    refine lv_iload_n hx hb d_S_init_25 rfl (lv_at hl 1 rfl) ?_
    refine lv_iconst (v := 3) hx hb d_S_init_26 (by decide) ?_
    refine lv_icmp_ge (tgt := 49) hx hb d_S_init_27 (by decide) (fun h1 => ?_) (fun h1 => absurd (by decide) h1)
    have hst : St dC dI A s.heap H locs ((fun u : (Nat → Nat) × (Nat → Nat) × (Nat → aAd) => oW 4 h ksS spS tk u.1 (fun _ => 0) (fun _ _ => 0) (rA 4 (u.1 0) 3 tk (fun i => some (zD u.2.2 i).1.1) (oW 6 (u.1 1) ksT spT tk u.2.1 (fun _ => 0) (fun _ _ => 0) (pW 5 ksD spD 1 tk (zD u.2.2) 3 rw)))) (L1, LT, ad)) := gr1 (rA_ext (f2 := fun i => some (zD ad i).1.1) (gr1 (a := (oX 4 h ksS spS tk L1 (fun _ => 0) (fun _ _ => 0))) (b := (rX 4 (L1 0) 3 tk f)) (r := ((oX 6 (L1 1) ksT spT tk LT (fun _ => 0) (fun _ _ => 0)) ++ (pF 5 ksD spD 1 tk (zD ad) 3 ++ rw))) hst) hf)
    exact rt_vn (u := (L1, LT, ad)) (wf := (fun u : (Nat → Nat) × (Nat → Nat) × (Nat → aAd) => oW 4 h ksS spS tk u.1 (fun _ => 0) (fun _ _ => 0) (rA 4 (u.1 0) 3 tk (fun i => some (zD u.2.2 i).1.1) (oW 6 (u.1 1) ksT spT tk u.2.1 (fun _ => 0) (fun _ _ => 0) (pW 5 ksD spD 1 tk (zD u.2.2) 3 rw))))) hx hb hr hlk hst d_S_init_49
  | succ d ih =>
    intro k hk H locs ls ad f hl hf hst
    refine lv_iload_n hx hb d_S_init_25 rfl (lv_at hl 1 rfl) ?_
    refine lv_iconst (v := 3) hx hb d_S_init_26 (by decide) ?_
    refine lv_icmp_ge (tgt := 49) hx hb d_S_init_27 (by decide) (fun h1 => absurd h1 (by rw [show (3 : Int32) = nI 3 from rfl]; exact nI_ge (by omega) (by omega))) (fun h1 => ?_)
    refine lv_aload_n hx hb d_S_init_30 rfl (lv_at hl 0 rfl) ?_
    refine ro_geta hx hb hown hG hg cS hst 0 0 (by decide) rfl rfl k_163 d_S_init_31 ?_
    refine lv_iload_n hx hb d_S_init_34 rfl (lv_at hl 1 rfl) ?_
    refine ro_newO (ks := ksD) (sp := spD) (fun _ => 0) hx hb hown hG hg cD hst k_117 k_137 k_6 (by decide) (by show _ ≤ 15; omega) (by show _ ≤ 275; omega) d_S_init_35 (fun q2 H hst => ?_)
    refine lv_dup hx hb d_S_init_38 rfl ?_
    refine cl_in hx hb hml hown hG hg (cD_init l dC dI tk A q2 (fun _ => 0) _) t_138 k_139 k_6 k_140 rfl (by decide +kernel) ⟨by decide, by decide⟩ hst hl.1 (Nat.le_of_ble_eq_true rfl) ⟨by show _ ≤ 15; omega, by show _ ≤ 275; omega⟩ d_S_init_39 (fun LK H locs hst => ?_)
    refine W.cs (cells' := 3 + 4 * (k + 1)) (slots' := 65 + 70 * (k + 1)) (by omega) (by omega) ?_
    have hst := gr3 (a := (oX 5 q2 ksD spD tk LK.1 (fun _ => 0) (fun _ _ => 0))) (b := (oX 6 (LK.1 1) ksT spT tk LK.2 (fun _ => 0) (fun _ _ => 0))) (x := (oX 4 h ksS spS tk L1 (fun _ => 0) (fun _ _ => 0))) (y := (rX 4 (L1 0) 3 tk f)) (r := ((oX 6 (L1 1) ksT spT tk LT (fun _ => 0) (fun _ _ => 0)) ++ ((pF 5 ksD spD 1 tk (zD ad) k) ++ rw))) hst
    refine ro_aast (C := RD) (v := q2) (vs := oF ksD LK.1 (fun _ => 0)) hx hb hg (rw := ((oX 5 q2 ksD spD tk LK.1 (fun _ => 0) (fun _ _ => 0)) ++ ((oX 6 (LK.1 1) ksT spT tk LK.2 (fun _ => 0) (fun _ _ => 0)) ++ ((oX 4 h ksS spS tk L1 (fun _ => 0) (fun _ _ => 0)) ++ ((oX 6 (L1 1) ksT spT tk LT (fun _ => 0) (fun _ _ => 0)) ++ ((pF 5 ksD spD 1 tk (zD ad) k) ++ rw)))))) hst rfl cD.1 List.mem_cons_self (decide_eq_true (fun h => h.elim (nI_pos (by omega)) (fun h => by rw [nI_clamp (by omega)] at h; omega))) d_S_init_42 (fun f1 H locs ef1 hst => ?_)
    rw [nI_clamp (by omega)] at ef1
    have hst := gr4 (a := (rX 4 (L1 0) 3 tk f1)) (b := (oX 5 q2 ksD spD tk LK.1 (fun _ => 0) (fun _ _ => 0))) (x := (oX 6 (LK.1 1) ksT spT tk LK.2 (fun _ => 0) (fun _ _ => 0))) (y := (oX 4 h ksS spS tk L1 (fun _ => 0) (fun _ _ => 0))) (z := (oX 6 (L1 1) ksT spT tk LT (fun _ => 0) (fun _ _ => 0))) (r := ((pF 5 ksD spD 1 tk (zD ad) k) ++ rw)) hst
    have hst := gr4 (a := (oX 6 (L1 1) ksT spT tk LT (fun _ => 0) (fun _ _ => 0))) (b := (rX 4 (L1 0) 3 tk f1)) (x := (oX 5 q2 ksD spD tk LK.1 (fun _ => 0) (fun _ _ => 0))) (y := (oX 6 (LK.1 1) ksT spT tk LK.2 (fun _ => 0) (fun _ _ => 0))) (z := (oX 4 h ksS spS tk L1 (fun _ => 0) (fun _ _ => 0))) (r := ((pF 5 ksD spD 1 tk (zD ad) k) ++ rw)) hst
    have hst := gr5 (a := (oX 4 h ksS spS tk L1 (fun _ => 0) (fun _ _ => 0))) (b := (oX 6 (L1 1) ksT spT tk LT (fun _ => 0) (fun _ _ => 0))) (x := (rX 4 (L1 0) 3 tk f1)) (y := (oX 5 q2 ksD spD tk LK.1 (fun _ => 0) (fun _ _ => 0))) (z := (oX 6 (LK.1 1) ksT spT tk LK.2 (fun _ => 0) (fun _ _ => 0))) (u := (pF 5 ksD spD 1 tk (zD ad) k)) (r := rw) hst
    have hst := gr5 (a := (pF 5 ksD spD 1 tk (zD ad) k)) (b := (oX 4 h ksS spS tk L1 (fun _ => 0) (fun _ _ => 0))) (x := (oX 6 (L1 1) ksT spT tk LT (fun _ => 0) (fun _ _ => 0))) (y := (rX 4 (L1 0) 3 tk f1)) (z := (oX 5 q2 ksD spD tk LK.1 (fun _ => 0) (fun _ _ => 0))) (u := (oX 6 (LK.1 1) ksT spT tk LK.2 (fun _ => 0) (fun _ _ => 0))) (r := rw) hst
    have hst := gr5 (a := (oX 6 (LK.1 1) ksT spT tk LK.2 (fun _ => 0) (fun _ _ => 0))) (b := (pF 5 ksD spD 1 tk (zD ad) k)) (x := (oX 4 h ksS spS tk L1 (fun _ => 0) (fun _ _ => 0))) (y := (oX 6 (L1 1) ksT spT tk LT (fun _ => 0) (fun _ _ => 0))) (z := (rX 4 (L1 0) 3 tk f1)) (u := (oX 5 q2 ksD spD tk LK.1 (fun _ => 0) (fun _ _ => 0))) (r := rw) hst
    have hst : St dC dI A s.heap H locs (pX 5 ksD spD 1 tk ((q2, LK.1, LK.2), (fun _ => 0), (fun _ _ => 0), (fun _ => 0), (fun _ _ => 0)) ++ pW 5 ksD spD 1 tk (zD ad) k ((oX 4 h ksS spS tk L1 (fun _ => 0) (fun _ _ => 0)) ++ ((oX 6 (L1 1) ksT spT tk LT (fun _ => 0) (fun _ _ => 0)) ++ ((rX 4 (L1 0) 3 tk f1) ++ rw)))) := by
      unfold pX pW
      rw [List.append_assoc]
      exact hst
    have hst := pW_grow hst
    rw [zD_up] at hst
    have hst := gr2 (a := (pF 5 ksD spD 1 tk (zD (va_up ad k (q2, LK.1, LK.2))) (k + 1))) (b := (oX 4 h ksS spS tk L1 (fun _ => 0) (fun _ _ => 0))) (x := (oX 6 (L1 1) ksT spT tk LT (fun _ => 0) (fun _ _ => 0))) (r := ((rX 4 (L1 0) 3 tk f1) ++ rw)) hst
    have hst := gr3 (a := (oX 6 (L1 1) ksT spT tk LT (fun _ => 0) (fun _ _ => 0))) (b := (pF 5 ksD spD 1 tk (zD (va_up ad k (q2, LK.1, LK.2))) (k + 1))) (x := (oX 4 h ksS spS tk L1 (fun _ => 0) (fun _ _ => 0))) (y := (rX 4 (L1 0) 3 tk f1)) (r := rw) hst
    have hst := gr3 (a := (rX 4 (L1 0) 3 tk f1)) (b := (oX 6 (L1 1) ksT spT tk LT (fun _ => 0) (fun _ _ => 0))) (x := (pF 5 ksD spD 1 tk (zD (va_up ad k (q2, LK.1, LK.2))) (k + 1))) (y := (oX 4 h ksS spS tk L1 (fun _ => 0) (fun _ _ => 0))) (r := rw) hst
    refine lv_iinc (k := 1) (v := (nI k + 1)) (lv' := [(1, .int (nI k + 1)), (0, .ref h)]) hx hb d_S_init_43 hl rfl (by rfl) (by decide) rfl (fun ls hl => ?_)
    refine lv_goto (tgt := 25) hx hb d_S_init_46 (by decide) ?_
    rw [nI_1] at hl
    refine ih (k + 1) (by omega) H locs ls (va_up ad k (q2, LK.1, LK.2)) f1 (lv_sub hl [1, 0] rfl) (fun j hj => ?_) hst
    rw [ef1]
    by_cases ej : j = k
    · subst ej
      rw [va_up_self, va_up_self]
    · rw [va_up_ne _ _ ej, va_up_ne _ _ ej]
      exact hf j (by omega)
