/-! strings -/
def cns (c : Int32) : Option (List Int32 × Nat) → Option (List Int32 × Nat)
  | none => none
  | some q => some (c :: q.1, q.2)
def scn (b : Nat → Int32) (N : Nat) : Nat → Nat → Option (List Int32 × Nat)
  | 0, _ => none
  | m + 1, p => if N ≤ p then none else if b p = 34 then some ([], p + 1) else if b p = 92 then (if N ≤ p + 1 then none else if b (p + 1) = 110 then cns 10 (scn b N m (p + 2)) else if b (p + 1) = 34 then cns 34 (scn b N m (p + 2)) else if b (p + 1) = 92 then cns 92 (scn b N m (p + 2)) else none) else if b p < 32 then none else if b p ≤ 126 then cns (b p) (scn b N m (p + 1)) else none
def ws (f : Nat → Int32) (u : Nat) (l : List Int32) : Nat → Int32 := fun i => if u ≤ i ∧ i < u + l.length then l.getD (i - u) 0 else f i
theorem ws_0 (f : Nat → Int32) (u : Nat) : ws f u [] = f := by
  funext i
  unfold ws
  rw [if_neg (by simp only [List.length_nil]; omega)]
theorem ws_c (f : Nat → Int32) (u : Nat) (c : Int32) (l : List Int32) : ws (upd f u c) (u + 1) l = ws f u (c :: l) := by
  funext i
  simp only [ws, upd_ap, List.length_cons]
  by_cases h : i = u
  · subst h
    rw [if_neg (by omega), if_pos rfl, if_pos (by omega), Nat.sub_self]; rfl
  · by_cases h2 : u + 1 ≤ i ∧ i < u + 1 + l.length
    · rw [if_pos h2, if_pos (by omega), show i - u = (i - (u + 1)) + 1 by omega]; rfl
    · rw [if_neg h2, if_neg h, if_neg (by omega)]
theorem nar_n : ∀ y, y < 128 → vp_nar .char (nI y) = nI y := by decide +kernel
theorem nar_c {y : Int32} (h : chr y) : vp_nar .char y = y := by
  obtain ⟨c, _, h2, rfl⟩ := h
  exact nar_n c h2
theorem chr_0 {y : Int32} (h : chr y) : ¬ y = 0 := by
  obtain ⟨c, h1, h2, rfl⟩ := h
  exact nI_ne0 (by omega) (by omega)
/-- both readers on what is left of a string behind its opening quote -/
def bV_let (n : Nat) : aG × aA → Option ((aG × aA) ⊕ (Int32 × aG × aA)) := (fun q8 => if (q8.1 9) ≤ (q8.1 10) then (some (.inr ((0, q8.1, q8.2)))) else (bd (mV_skip n 34 q8.1 q8.2) (fun q16 => if q16.1 = 0 then (gd (inb (q16.2 10) 200) (lt (q8.2 8 (q16.2 10).toNatClampNeg) (fun x19 => lt (va_up q16.2 10 ((q16.2 10) + 1)) (fun g20 => jn (α := Int32 × aG) (if x19 = 92 then (bd (mV_escaped n g20 q8.2) (fun q37 => some (.inl (q37.1, q37.2)))) else (if x19 < 32 then (some (.inr (.inr ((0, g20, q8.2))))) else (if x19 ≤ 126 then (some (.inl (x19, g20))) else (some (.inr (.inr ((0, g20, q8.2)))))))) (fun q25 => if q25.1 = 0 then (some (.inr ((0, q25.2, q8.2)))) else (if (q25.2 12) < 200 then (gd (inb (q25.2 12) 200) (lt (va_up q8.2 7 (upd (q8.2 7) (q25.2 12).toNatClampNeg (vp_nar .char q25.1))) (fun a29 => lt (va_up q25.2 12 ((q25.2 12) + 1)) (fun g30 => some (.inl (g30, a29)))))) else (some (.inr ((0, q25.2, q8.2)))))))))) else (some (.inr ((1, q16.2, q8.2)))))))
theorem let_e (n : Nat) (gV : aG) (aV : aA) : mV_readLetters n gV aV = bd (mV_skip n 34 gV aV) (fun q4 => if q4.1 = 0 then (some ((0, q4.2, aV))) else lp (bV_let n) n (q4.2, aV)) := rfl
def bM_str (n : Nat) : aG × aA → Option ((aG × aA) ⊕ ((aG × aA) ⊕ (Int32 × aG × aA))) := (fun q11 => if (q11.1 6) ≤ (q11.1 20) then (some (.inr (.inl (q11.1, q11.2)))) else (gd (inb (q11.1 20) 200) (lt (q11.2 0 (q11.1 20).toNatClampNeg) (fun x17 => if x17 = 34 then (some (.inr (.inl (q11.1, q11.2)))) else (gd (inb (q11.1 20) 200) (lt (q11.2 0 (q11.1 20).toNatClampNeg) (fun x20 => if x20 < 32 then (some (.inr (.inr ((0, q11.1, q11.2))))) else (if x20 ≤ 126 then (jn (α := Int32 × aG) (if x20 = 92 then (lt (va_up q11.1 20 ((q11.1 20) + 1)) (fun g33 => bd (mM_peek n g33 q11.2) (fun x35 => jn (α := Int32) (if x35 = 110 then (some (.inl 10)) else (some (.inl x35))) (fun x39 => if x35 = 34 then (some (.inl (x39, g33))) else (if x35 = 92 then (some (.inl (x39, g33))) else (if x35 = 110 then (some (.inl (x39, g33))) else (some (.inr (.inr (.inr ((0, g33, q11.2)))))))))))) else (some (.inl (x20, q11.1)))) (fun q27 => gd (inb (q27.2 17) 201) (lt (va_up q11.2 8 (upd (q11.2 8) (q27.2 17).toNatClampNeg q27.1)) (fun a29 => lt (va_up q27.2 17 ((q27.2 17) + 1)) (fun g30 => lt (va_up g30 20 ((g30 20) + 1)) (fun g31 => some (.inl (g31, a29)))))))) else (some (.inr (.inr ((0, q11.1, q11.2)))))))))))))
theorem str_e (n : Nat) (g : aG) (a : aA) : mM_string n g a = lt (va_up g 20 ((g 20) + 1)) (fun g1 => jn (lp (bM_str n) n (g1, a)) (fun q6 => lt (va_up q6.1 20 ((q6.1 20) + 1)) (fun g7 => if (g7 6) < (g7 20) then (some ((0, g7, q6.2))) else (some ((1, g7, q6.2)))))) := rfl
theorem escV {gV : aG} {aV : aA} {b : Nat → Int32} {N p v u n : Nat} (hN : N ≤ 200) (hb : ∀ i, i < N → aV 8 i = b i) (h : p < N) : mV_escaped n (cG gV N p v u) aV = some (if b p = 110 then 10 else if b p = 34 then 34 else if b p = 92 then 92 else 0, cG gV N (p + 1) v u) := by
  have ok10 : okc 10 = true := by decide
  have ok34 : okc 34 = true := by decide
  have ok92 : okc 92 = true := by decide
  have e : ¬ nI N ≤ nI p := nI_ge h (by omega)
  simp (disch := omega) only [mV_escaped, e, hb p h, cG_9, cG_10, inb_T, nI_clamp, gd_T, lt, reduceIte, jn_l, ad_L, cG_u10]
  by_cases h1 : b p = 110
  · simp only [h1, ok10, gd_T, if_true]
  · rw [if_neg h1, if_neg h1]
    by_cases h2 : b p = 34
    · rw [if_pos h2, if_pos h2, h2, ok34, gd_T]
    · rw [if_neg h2, if_neg h2]
      by_cases h3 : b p = 92
      · rw [if_pos h3, if_pos h3, h3, ok92, gd_T]
      · rw [if_neg h3, if_neg h3]
theorem escV0 {gV : aG} {aV : aA} {N p v u n : Nat} (h : N ≤ p) (hp : p < 1000) : mV_escaped n (cG gV N p v u) aV = some (0, cG gV N (p + 1) v u) := by
  have o1 : ¬ ((0 : Int32) = 110) := by decide
  have o2 : ¬ ((0 : Int32) = 34) := by decide
  have o3 : ¬ ((0 : Int32) = 92) := by decide
  have e : nI N ≤ nI p := nI_le h (by omega)
  simp (disch := omega) only [mV_escaped, e, cG_9, cG_10, lt, reduceIte, jn_l, ad_L, cG_u10, o1, o2, o3]
theorem letV {gV : aG} {b : Nat → Int32} {N v n : Nat} (hN : N ≤ 200) (hc : ∀ i, i < N → chr (b i)) : ∀ m p u aV k, N ≤ p + m → p ≤ N → u < p → m < k → (∀ i, i < N → aV 8 i = b i) → (∀ l q, scn b N (m + 1) p = some (l, q) → lp (bV_let n) k (cG gV N p v u, aV) = some (1, cG gV N q v (u + l.length), va_up aV 7 (ws (aV 7) u l))) ∧ (scn b N (m + 1) p = none → ∃ p' u' f', p' ≤ 202 ∧ lp (bV_let n) k (cG gV N p v u, aV) = some (0, cG gV N p' v u', va_up aV 7 f')) := by
  intro m
  induction m with
  | zero =>
    intro p u aV k h1 h2 h3 h4 hb
    have h5 : N ≤ p := by omega
    have e : scn b N 1 p = none := by simp only [scn, if_pos h5]
    refine ⟨(fun l q h => by rw [e] at h; cases h), fun _ => ⟨p, u, aV 7, by omega, lp_e ?_ h4⟩⟩
    rw [va_upE]
    simp (disch := omega) only [bV_let, h5, rG_6, rG_8, rG_17, rG_19, rG_20, rG_21, rG_u8, rG_u17, rG_u19, rG_u20, rG_u21, rG_u21L, cG_9, cG_10, cG_11, cG_12, cG_u10, cG_u11, cG_u12, le_L, L_le, lt_L, L_lt, eq_L, L_eq, ad_L, nI_add, nI_sb, sb_L, mu_L, nI_leI, nI_ltI, nI_eq, nI_clamp, inb_T, nI_cl0, lt, jn_b, bd_b, bd_s, bd_i, jn_l, jn_r, jn_i, gd_T, va_ap, upd_ap, reduceIte, Nat.reduceEqDiff, Nat.reduceAdd, Nat.reduceSub, Nat.reduceMul, Nat.reduceLT, Nat.reduceLeDiff, reduceCtorEq, Int32.reduceLT, Int32.reduceLE, one_ne_zero, zero_ne_one, not_true_eq_false, not_false_eq_true, true_and, and_true, if_true, if_false, ite_self, Nat.add_zero, Nat.zero_add]
  | succ m ih =>
    intro p u aV k h1 h2 h3 h4 hb
    by_cases h5 : N ≤ p
    · have e : scn b N (m + 1 + 1) p = none := by rw [scn, if_pos h5]
      refine ⟨(fun l q h => by rw [e] at h; cases h), fun _ => ⟨p, u, aV 7, by omega, lp_e ?_ (by omega)⟩⟩
      rw [va_upE]
      simp (disch := omega) only [bV_let, h5, rG_6, rG_8, rG_17, rG_19, rG_20, rG_21, rG_u8, rG_u17, rG_u19, rG_u20, rG_u21, rG_u21L, cG_9, cG_10, cG_11, cG_12, cG_u10, cG_u11, cG_u12, le_L, L_le, lt_L, L_lt, eq_L, L_eq, ad_L, nI_add, nI_sb, sb_L, mu_L, nI_leI, nI_ltI, nI_eq, nI_clamp, inb_T, nI_cl0, lt, jn_b, bd_b, bd_s, bd_i, jn_l, jn_r, jn_i, gd_T, va_ap, upd_ap, reduceIte, Nat.reduceEqDiff, Nat.reduceAdd, Nat.reduceSub, Nat.reduceMul, Nat.reduceLT, Nat.reduceLeDiff, reduceCtorEq, Int32.reduceLT, Int32.reduceLE, one_ne_zero, zero_ne_one, not_true_eq_false, not_false_eq_true, true_and, and_true, if_true, if_false, ite_self, Nat.add_zero, Nat.zero_add]
    have hp := hb p (by omega)
    have hcp := hc p (by omega)
    by_cases h6 : b p = 34
    · have e : scn b N (m + 1 + 1) p = some ([], p + 1) := by rw [scn, if_neg h5, if_pos h6]
      refine ⟨fun l q h => ?_, fun h => by rw [e] at h; cases h⟩
      rw [e] at h
      cases h
      refine lp_e ?_ (by omega)
      have e9 : va_up aV 7 (ws (aV 7) u []) = aV := by rw [ws_0]; exact va_upE
      simp (disch := omega) only [bV_let, h5, skV (n := n) (gV := gV) (v := v) (u := u) hN hb (show p < N by omega) h6, e9, List.length_nil, rG_6, rG_8, rG_17, rG_19, rG_20, rG_21, rG_u8, rG_u17, rG_u19, rG_u20, rG_u21, rG_u21L, cG_9, cG_10, cG_11, cG_12, cG_u10, cG_u11, cG_u12, le_L, L_le, lt_L, L_lt, eq_L, L_eq, ad_L, nI_add, nI_sb, sb_L, mu_L, nI_leI, nI_ltI, nI_eq, nI_clamp, inb_T, nI_cl0, lt, jn_b, bd_b, bd_s, bd_i, jn_l, jn_r, jn_i, gd_T, va_ap, upd_ap, reduceIte, Nat.reduceEqDiff, Nat.reduceAdd, Nat.reduceSub, Nat.reduceMul, Nat.reduceLT, Nat.reduceLeDiff, reduceCtorEq, Int32.reduceLT, Int32.reduceLE, one_ne_zero, zero_ne_one, not_true_eq_false, not_false_eq_true, true_and, and_true, if_true, if_false, ite_self, Nat.add_zero, Nat.zero_add]
    have k0 := skV0 (n := n) (gV := gV) (v := v) (u := u) (c := 34) hN hb h2 (fun _ => h6)
    -- one letter c, next position p1
    have step : ∀ (c : Int32) (p1 : Nat), chr c → p < p1 → p1 ≤ N → bV_let n (cG gV N p v u, aV) = some (.inl (cG gV N p1 v (u + 1), va_up aV 7 (upd (aV 7) u c))) → scn b N (m + 1 + 1) p = cns c (scn b N (m + 1) p1) → (∀ l q, scn b N (m + 1 + 1) p = some (l, q) → lp (bV_let n) k (cG gV N p v u, aV) = some (1, cG gV N q v (u + l.length), va_up aV 7 (ws (aV 7) u l))) ∧ (scn b N (m + 1 + 1) p = none → ∃ p' u' f', p' ≤ 202 ∧ lp (bV_let n) k (cG gV N p v u, aV) = some (0, cG gV N p' v u', va_up aV 7 f')) := by
      intro c p1 c1 c2 c3 c4 c5
      obtain ⟨i1, i2⟩ := ih p1 (u + 1) (va_up aV 7 (upd (aV 7) u c)) (k - 1) (by omega) c3 (by omega) (by omega) (fun i hi => hb i hi)
      rw [c5, lp_s c4 (by omega)]
      cases hs : scn b N (m + 1) p1 with
      | none =>
        refine ⟨(fun l q h => by simp [cns] at h), fun _ => ?_⟩
        obtain ⟨p', u', f', i3, i4⟩ := i2 hs
        exact ⟨p', u', f', i3, by rw [i4, up_up]⟩
      | some lq =>
        refine ⟨fun l q h => ?_, fun h => by simp [cns] at h⟩
        simp only [cns] at h
        cases h
        rw [i1 lq.1 lq.2 hs, up_up, va_up_self, ws_c]
        simp only [List.length_cons]
        rw [show u + 1 + lq.1.length = u + (lq.1.length + 1) by omega]
    by_cases h7 : b p = 92
    · by_cases h8 : N ≤ p + 1
      · have e : scn b N (m + 1 + 1) p = none := by rw [scn, if_neg h5, if_neg h6, if_pos h7, if_pos h8]
        refine ⟨(fun l q h => by rw [e] at h; cases h), fun _ => ⟨(p + 1 + 1), u, aV 7, by omega, lp_e ?_ (by omega)⟩⟩
        rw [va_upE]
        have o1 : ¬ ((0 : Int32) = 110) := by decide
        have o2 : ¬ ((0 : Int32) = 34) := by decide
        have o3 : ¬ ((0 : Int32) = 92) := by decide
        simp (disch := omega) only [bV_let, h5, h8, k0, hp, h7, escV0 (gV := gV) (aV := aV) (v := v) (u := u) (n := n) h8 (by omega), rG_6, rG_8, rG_17, rG_19, rG_20, rG_21, rG_u8, rG_u17, rG_u19, rG_u20, rG_u21, rG_u21L, cG_9, cG_10, cG_11, cG_12, cG_u10, cG_u11, cG_u12, le_L, L_le, lt_L, L_lt, eq_L, L_eq, ad_L, nI_add, nI_sb, sb_L, mu_L, nI_leI, nI_ltI, nI_eq, nI_clamp, inb_T, nI_cl0, lt, jn_b, bd_b, bd_s, bd_i, jn_l, jn_r, jn_i, gd_T, va_ap, upd_ap, reduceIte, Nat.reduceEqDiff, Nat.reduceAdd, Nat.reduceSub, Nat.reduceMul, Nat.reduceLT, Nat.reduceLeDiff, reduceCtorEq, Int32.reduceLT, Int32.reduceLE, one_ne_zero, zero_ne_one, not_true_eq_false, not_false_eq_true, true_and, and_true, if_true, if_false, ite_self, Nat.add_zero, Nat.zero_add]
      have hE := escV (gV := gV) (v := v) (u := u) (n := n) hN hb (show p + 1 < N by omega)
      have hcp1 := hc (p + 1) (by omega)
      have ok10 : okc 10 = true := by decide
      have ok34 : okc 34 = true := by decide
      have ok92 : okc 92 = true := by decide
      have z10 : ¬ ((10 : Int32) = 0) := by decide
      have z34 : ¬ ((34 : Int32) = 0) := by decide
      have z92 : ¬ ((92 : Int32) = 0) := by decide
      have y34 : ¬ ((34 : Int32) = 110) := by decide
      have y92 : ¬ ((92 : Int32) = 110) := by decide
      have w92 : ¬ ((92 : Int32) = 34) := by decide
      have c10 : vp_nar .char 10 = 10 := nar_n 10 (by omega)
      have c34 : vp_nar .char 34 = 34 := nar_n 34 (by omega)
      have c92 : vp_nar .char 92 = 92 := nar_n 92 (by omega)
      have hu : u < 200 := by omega
      by_cases h9 : b (p + 1) = 110
      · refine step 10 (p + 2) ⟨10, by omega, by omega, rfl⟩ (by omega) (by omega) ?_ (by rw [scn, if_neg h5, if_neg h6, if_pos h7, if_neg h8, if_pos h9])
        simp (disch := omega) only [bV_let, h5, h8, k0, hp, h7, hE, h9, z10, c10, hu, rG_6, rG_8, rG_17, rG_19, rG_20, rG_21, rG_u8, rG_u17, rG_u19, rG_u20, rG_u21, rG_u21L, cG_9, cG_10, cG_11, cG_12, cG_u10, cG_u11, cG_u12, le_L, L_le, lt_L, L_lt, eq_L, L_eq, ad_L, nI_add, nI_sb, sb_L, mu_L, nI_leI, nI_ltI, nI_eq, nI_clamp, inb_T, nI_cl0, lt, jn_b, bd_b, bd_s, bd_i, jn_l, jn_r, jn_i, gd_T, va_ap, upd_ap, reduceIte, Nat.reduceEqDiff, Nat.reduceAdd, Nat.reduceSub, Nat.reduceMul, Nat.reduceLT, Nat.reduceLeDiff, reduceCtorEq, Int32.reduceLT, Int32.reduceLE, one_ne_zero, zero_ne_one, not_true_eq_false, not_false_eq_true, true_and, and_true, if_true, if_false, ite_self, Nat.add_zero, Nat.zero_add]
      by_cases h10 : b (p + 1) = 34
      · refine step 34 (p + 2) ⟨34, by omega, by omega, rfl⟩ (by omega) (by omega) ?_ (by rw [scn, if_neg h5, if_neg h6, if_pos h7, if_neg h8, if_neg h9, if_pos h10])
        simp (disch := omega) only [bV_let, h5, h8, k0, hp, h7, hE, h10, y34, z34, c34, hu, rG_6, rG_8, rG_17, rG_19, rG_20, rG_21, rG_u8, rG_u17, rG_u19, rG_u20, rG_u21, rG_u21L, cG_9, cG_10, cG_11, cG_12, cG_u10, cG_u11, cG_u12, le_L, L_le, lt_L, L_lt, eq_L, L_eq, ad_L, nI_add, nI_sb, sb_L, mu_L, nI_leI, nI_ltI, nI_eq, nI_clamp, inb_T, nI_cl0, lt, jn_b, bd_b, bd_s, bd_i, jn_l, jn_r, jn_i, gd_T, va_ap, upd_ap, reduceIte, Nat.reduceEqDiff, Nat.reduceAdd, Nat.reduceSub, Nat.reduceMul, Nat.reduceLT, Nat.reduceLeDiff, reduceCtorEq, Int32.reduceLT, Int32.reduceLE, one_ne_zero, zero_ne_one, not_true_eq_false, not_false_eq_true, true_and, and_true, if_true, if_false, ite_self, Nat.add_zero, Nat.zero_add]
      by_cases h11 : b (p + 1) = 92
      · refine step 92 (p + 2) ⟨92, by omega, by omega, rfl⟩ (by omega) (by omega) ?_ (by rw [scn, if_neg h5, if_neg h6, if_pos h7, if_neg h8, if_neg h9, if_neg h10, if_pos h11])
        simp (disch := omega) only [bV_let, h5, h8, k0, hp, h7, hE, h11, y92, w92, z92, c92, hu, rG_6, rG_8, rG_17, rG_19, rG_20, rG_21, rG_u8, rG_u17, rG_u19, rG_u20, rG_u21, rG_u21L, cG_9, cG_10, cG_11, cG_12, cG_u10, cG_u11, cG_u12, le_L, L_le, lt_L, L_lt, eq_L, L_eq, ad_L, nI_add, nI_sb, sb_L, mu_L, nI_leI, nI_ltI, nI_eq, nI_clamp, inb_T, nI_cl0, lt, jn_b, bd_b, bd_s, bd_i, jn_l, jn_r, jn_i, gd_T, va_ap, upd_ap, reduceIte, Nat.reduceEqDiff, Nat.reduceAdd, Nat.reduceSub, Nat.reduceMul, Nat.reduceLT, Nat.reduceLeDiff, reduceCtorEq, Int32.reduceLT, Int32.reduceLE, one_ne_zero, zero_ne_one, not_true_eq_false, not_false_eq_true, true_and, and_true, if_true, if_false, ite_self, Nat.add_zero, Nat.zero_add]
      · have e : scn b N (m + 1 + 1) p = none := by rw [scn, if_neg h5, if_neg h6, if_pos h7, if_neg h8, if_neg h9, if_neg h10, if_neg h11]
        refine ⟨(fun l q h => by rw [e] at h; cases h), fun _ => ⟨(p + 1 + 1), u, aV 7, by omega, lp_e ?_ (by omega)⟩⟩
        rw [va_upE]
        simp (disch := omega) only [bV_let, h5, h8, k0, hp, h7, hE, h9, h10, h11, rG_6, rG_8, rG_17, rG_19, rG_20, rG_21, rG_u8, rG_u17, rG_u19, rG_u20, rG_u21, rG_u21L, cG_9, cG_10, cG_11, cG_12, cG_u10, cG_u11, cG_u12, le_L, L_le, lt_L, L_lt, eq_L, L_eq, ad_L, nI_add, nI_sb, sb_L, mu_L, nI_leI, nI_ltI, nI_eq, nI_clamp, inb_T, nI_cl0, lt, jn_b, bd_b, bd_s, bd_i, jn_l, jn_r, jn_i, gd_T, va_ap, upd_ap, reduceIte, Nat.reduceEqDiff, Nat.reduceAdd, Nat.reduceSub, Nat.reduceMul, Nat.reduceLT, Nat.reduceLeDiff, reduceCtorEq, Int32.reduceLT, Int32.reduceLE, one_ne_zero, zero_ne_one, not_true_eq_false, not_false_eq_true, true_and, and_true, if_true, if_false, ite_self, Nat.add_zero, Nat.zero_add]
    by_cases h8 : b p < 32
    · have e : scn b N (m + 1 + 1) p = none := by rw [scn, if_neg h5, if_neg h6, if_neg h7, if_pos h8]
      refine ⟨(fun l q h => by rw [e] at h; cases h), fun _ => ⟨(p + 1), u, aV 7, by omega, lp_e ?_ (by omega)⟩⟩
      rw [va_upE]
      simp (disch := omega) only [bV_let, h5, k0, hp, h7, h8, rG_6, rG_8, rG_17, rG_19, rG_20, rG_21, rG_u8, rG_u17, rG_u19, rG_u20, rG_u21, rG_u21L, cG_9, cG_10, cG_11, cG_12, cG_u10, cG_u11, cG_u12, le_L, L_le, lt_L, L_lt, eq_L, L_eq, ad_L, nI_add, nI_sb, sb_L, mu_L, nI_leI, nI_ltI, nI_eq, nI_clamp, inb_T, nI_cl0, lt, jn_b, bd_b, bd_s, bd_i, jn_l, jn_r, jn_i, gd_T, va_ap, upd_ap, reduceIte, Nat.reduceEqDiff, Nat.reduceAdd, Nat.reduceSub, Nat.reduceMul, Nat.reduceLT, Nat.reduceLeDiff, reduceCtorEq, Int32.reduceLT, Int32.reduceLE, one_ne_zero, zero_ne_one, not_true_eq_false, not_false_eq_true, true_and, and_true, if_true, if_false, ite_self, Nat.add_zero, Nat.zero_add]
    by_cases h9 : b p ≤ 126
    · have hu : u < 200 := by omega
      refine step (b p) (p + 1) hcp (by omega) (by omega) ?_ (by rw [scn, if_neg h5, if_neg h6, if_neg h7, if_neg h8, if_pos h9])
      simp (disch := omega) only [bV_let, h5, k0, hp, h7, h8, h9, chr_0 hcp, nar_c hcp, hu, rG_6, rG_8, rG_17, rG_19, rG_20, rG_21, rG_u8, rG_u17, rG_u19, rG_u20, rG_u21, rG_u21L, cG_9, cG_10, cG_11, cG_12, cG_u10, cG_u11, cG_u12, le_L, L_le, lt_L, L_lt, eq_L, L_eq, ad_L, nI_add, nI_sb, sb_L, mu_L, nI_leI, nI_ltI, nI_eq, nI_clamp, inb_T, nI_cl0, lt, jn_b, bd_b, bd_s, bd_i, jn_l, jn_r, jn_i, gd_T, va_ap, upd_ap, reduceIte, Nat.reduceEqDiff, Nat.reduceAdd, Nat.reduceSub, Nat.reduceMul, Nat.reduceLT, Nat.reduceLeDiff, reduceCtorEq, Int32.reduceLT, Int32.reduceLE, one_ne_zero, zero_ne_one, not_true_eq_false, not_false_eq_true, true_and, and_true, if_true, if_false, ite_self, Nat.add_zero, Nat.zero_add]
    · have e : scn b N (m + 1 + 1) p = none := by rw [scn, if_neg h5, if_neg h6, if_neg h7, if_neg h8, if_neg h9]
      refine ⟨(fun l q h => by rw [e] at h; cases h), fun _ => ⟨(p + 1), u, aV 7, by omega, lp_e ?_ (by omega)⟩⟩
      rw [va_upE]
      simp (disch := omega) only [bV_let, h5, k0, hp, h7, h8, h9, rG_6, rG_8, rG_17, rG_19, rG_20, rG_21, rG_u8, rG_u17, rG_u19, rG_u20, rG_u21, rG_u21L, cG_9, cG_10, cG_11, cG_12, cG_u10, cG_u11, cG_u12, le_L, L_le, lt_L, L_lt, eq_L, L_eq, ad_L, nI_add, nI_sb, sb_L, mu_L, nI_leI, nI_ltI, nI_eq, nI_clamp, inb_T, nI_cl0, lt, jn_b, bd_b, bd_s, bd_i, jn_l, jn_r, jn_i, gd_T, va_ap, upd_ap, reduceIte, Nat.reduceEqDiff, Nat.reduceAdd, Nat.reduceSub, Nat.reduceMul, Nat.reduceLT, Nat.reduceLeDiff, reduceCtorEq, Int32.reduceLT, Int32.reduceLE, one_ne_zero, zero_ne_one, not_true_eq_false, not_false_eq_true, true_and, and_true, if_true, if_false, ite_self, Nat.add_zero, Nat.zero_add]
