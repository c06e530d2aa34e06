theorem pkM {g : aG} {a : aA} {b : Nat → Int32} {N p v u d e n : Nat} (hN : N ≤ 200) (hg : g 6 = nI N) (hb : ∀ i, i < N → a 0 i = b i) (h : p < N) : mM_peek n (rG g p v u d e) a = some (b p) := by
  simp (disch := omega) only [mM_peek, hg, hb p h, rG_6, rG_8, rG_17, rG_19, rG_20, rG_21, rG_u8, rG_u17, rG_u19, rG_u20, rG_u21, rG_u21L, cG_9, cG_10, cG_11, cG_12, cG_u10, cG_u11, cG_u12, le_L, L_le, lt_L, L_lt, eq_L, L_eq, ad_L, nI_add, nI_sb, sb_L, mu_L, nI_leI, nI_ltI, nI_eq, nI_clamp, inb_T, nI_cl0, lt, jn_b, bd_b, bd_s, bd_i, jn_l, jn_r, jn_i, gd_T, va_ap, upd_ap, reduceIte, Nat.reduceEqDiff, Nat.reduceAdd, Nat.reduceSub, Nat.reduceMul, Nat.reduceLT, Nat.reduceLeDiff, reduceCtorEq, Int32.reduceLT, Int32.reduceLE, one_ne_zero, zero_ne_one, not_true_eq_false, not_false_eq_true, true_and, and_true, if_true, if_false, ite_self, Nat.add_zero, Nat.zero_add]
  rw [if_neg (by omega)]
theorem pkM0 {g : aG} {a : aA} {N p v u d e n : Nat} (hp : p < 1000) (hg : g 6 = nI N) (h : N ≤ p) : mM_peek n (rG g p v u d e) a = some 0 := by
  simp (disch := omega) only [mM_peek, hg, rG_6, rG_8, rG_17, rG_19, rG_20, rG_21, rG_u8, rG_u17, rG_u19, rG_u20, rG_u21, rG_u21L, cG_9, cG_10, cG_11, cG_12, cG_u10, cG_u11, cG_u12, le_L, L_le, lt_L, L_lt, eq_L, L_eq, ad_L, nI_add, nI_sb, sb_L, mu_L, nI_leI, nI_ltI, nI_eq, nI_clamp, inb_T, nI_cl0, lt, jn_b, bd_b, bd_s, bd_i, jn_l, jn_r, jn_i, gd_T, va_ap, upd_ap, reduceIte, Nat.reduceEqDiff, Nat.reduceAdd, Nat.reduceSub, Nat.reduceMul, Nat.reduceLT, Nat.reduceLeDiff, reduceCtorEq, Int32.reduceLT, Int32.reduceLE, one_ne_zero, zero_ne_one, not_true_eq_false, not_false_eq_true, true_and, and_true, if_true, if_false, ite_self, Nat.add_zero, Nat.zero_add]
  rw [if_pos (by omega)]
theorem scn_q {b : Nat → Int32} {N : Nat} (hc : ∀ i, i < N → chr (b i)) : ∀ m p l q, scn b N m p = some (l, q) → p + l.length < q ∧ q ≤ N ∧ ∀ y ∈ l, chr y := by
  intro m
  induction m with
  | zero => intro p l q h; simp [scn] at h
  | succ m ih =>
    intro p l q h
    have go : ∀ (c : Int32) (p1 : Nat), p < p1 → chr c → cns c (scn b N m p1) = some (l, q) → p + l.length < q ∧ q ≤ N ∧ ∀ y ∈ l, chr y := by
      intro c p1 h1 h2 h3
      cases hs : scn b N m p1 with
      | none => rw [hs] at h3; cases h3
      | some lq =>
        rw [hs] at h3
        cases h3
        obtain ⟨i1, i2, i3⟩ := ih p1 lq.1 lq.2 hs
        refine ⟨by simp only [List.length_cons]; omega, i2, fun y hy => ?_⟩
        rcases List.mem_cons.mp hy with rfl | hy
        · exact h2
        · exact i3 y hy
    rw [scn] at h
    by_cases h5 : N ≤ p
    · rw [if_pos h5] at h; cases h
    rw [if_neg h5] at h
    by_cases h6 : b p = 34
    · rw [if_pos h6] at h
      cases h
      exact ⟨by simp only [List.length_nil]; omega, by omega, fun y hy => absurd hy List.not_mem_nil⟩
    rw [if_neg h6] at h
    by_cases h7 : b p = 92
    · rw [if_pos h7] at h
      by_cases h8 : N ≤ p + 1
      · rw [if_pos h8] at h; cases h
      rw [if_neg h8] at h
      by_cases h9 : b (p + 1) = 110
      · rw [if_pos h9] at h; exact go 10 (p + 2) (by omega) ⟨10, by omega, by omega, rfl⟩ h
      rw [if_neg h9] at h
      by_cases h10 : b (p + 1) = 34
      · rw [if_pos h10] at h; exact go 34 (p + 2) (by omega) ⟨34, by omega, by omega, rfl⟩ h
      rw [if_neg h10] at h
      by_cases h11 : b (p + 1) = 92
      · rw [if_pos h11] at h; exact go 92 (p + 2) (by omega) ⟨92, by omega, by omega, rfl⟩ h
      rw [if_neg h11] at h; cases h
    rw [if_neg h7] at h
    by_cases h8 : b p < 32
    · rw [if_pos h8] at h; cases h
    rw [if_neg h8] at h
    by_cases h9 : b p ≤ 126
    · rw [if_pos h9] at h; exact go (b p) (p + 1) (by omega) (hc p (by omega)) h
    rw [if_neg h9] at h; cases h
theorem strM_l {g : aG} {b : Nat → Int32} {N v d e n : Nat} (hN : N ≤ 200) (hg : g 6 = nI N) (hc : ∀ i, i < N → chr (b i)) : ∀ m p u a k, N ≤ p + m → p ≤ N → u < p → m < k → (∀ i, i < N → a 0 i = b i) → (∀ l q, scn b N (m + 1) p = some (l, q) → lp (bM_str n) k (rG g p v u d e, a) = some (.inl (rG g (q - 1) v (u + l.length) d e, va_up a 8 (ws (a 8) u l)))) ∧ (scn b N (m + 1) p = none → (∃ p' u' f', lp (bM_str n) k (rG g p v u d e, a) = some (.inr (0, rG g p' v u' d e, va_up a 8 f'))) ∨ ∃ u' f', lp (bM_str n) k (rG g p v u d e, a) = some (.inl (rG g N v u' d e, va_up a 8 f'))) := by
  intro m
  induction m with
  | zero =>
    intro p u a k h1 h2 h3 h4 hb
    have h5 : N ≤ p := by omega
    have h6 : p = N := by omega
    subst h6
    have e : scn b p 1 p = none := by simp only [scn, if_pos h5]
    refine ⟨(fun l q h => by rw [e] at h; cases h), fun _ => .inr ⟨u, a 8, lp_e ?_ h4⟩⟩
    simp only [bM_str, rG_6, rG_20, hg, show nI p ≤ nI p from Int32.le_refl _, reduceIte]
    rw [va_upE]
  | succ m ih =>
    intro p u a k h1 h2 h3 h4 hb
    by_cases h5 : N ≤ p
    · have h6 : p = N := by omega
      subst h6
      have e : scn b p (m + 1 + 1) p = none := by rw [scn, if_pos h5]
      refine ⟨(fun l q h => by rw [e] at h; cases h), fun _ => .inr ⟨u, a 8, lp_e ?_ (by omega)⟩⟩
      simp only [bM_str, rG_6, rG_20, hg, show nI p ≤ nI p from Int32.le_refl _, reduceIte]
      rw [va_upE]
    have hp := hb p (by omega)
    have hcp := hc p (by omega)
    by_cases h6 : b p = 34
    · have es : scn b N (m + 1 + 1) p = some ([], p + 1) := by rw [scn, if_neg h5, if_pos h6]
      refine ⟨fun l q h => ?_, (fun h => by rw [es] at h; cases h)⟩
      rw [es] at h
      cases h
      refine lp_e ?_ (by omega)
      have e9 : va_up a 8 (ws (a 8) u []) = a := by rw [ws_0]; exact va_upE
      simp (disch := omega) only [bM_str, hg, h5, hp, h6, e9, List.length_nil, Nat.add_sub_cancel, rG_6, rG_8, rG_17, rG_19, rG_20, rG_21, rG_u8, rG_u17, rG_u19, rG_u20, rG_u21, rG_u21L, cG_9, cG_10, cG_11, cG_12, cG_u10, cG_u11, cG_u12, le_L, L_le, lt_L, L_lt, eq_L, L_eq, ad_L, nI_add, nI_sb, sb_L, mu_L, nI_leI, nI_ltI, nI_eq, nI_clamp, inb_T, nI_cl0, lt, jn_b, bd_b, bd_s, bd_i, jn_l, jn_r, jn_i, gd_T, va_ap, upd_ap, reduceIte, Nat.reduceEqDiff, Nat.reduceAdd, Nat.reduceSub, Nat.reduceMul, Nat.reduceLT, Nat.reduceLeDiff, reduceCtorEq, Int32.reduceLT, Int32.reduceLE, one_ne_zero, zero_ne_one, not_true_eq_false, not_false_eq_true, true_and, and_true, if_true, if_false, ite_self, Nat.add_zero, Nat.zero_add]
    have step : ∀ (c : Int32) (p1 : Nat), chr c → p < p1 → p1 ≤ N → bM_str n (rG g p v u d e, a) = some (.inl (rG g p1 v (u + 1) d e, va_up a 8 (upd (a 8) u c))) → scn b N (m + 1 + 1) p = cns c (scn b N (m + 1) p1) → (∀ l q, scn b N (m + 1 + 1) p = some (l, q) → lp (bM_str n) k (rG g p v u d e, a) = some (.inl (rG g (q - 1) v (u + l.length) d e, va_up a 8 (ws (a 8) u l)))) ∧ (scn b N (m + 1 + 1) p = none → (∃ p' u' f', lp (bM_str n) k (rG g p v u d e, a) = some (.inr (0, rG g p' v u' d e, va_up a 8 f'))) ∨ ∃ u' f', lp (bM_str n) k (rG g p v u d e, a) = some (.inl (rG g N v u' d e, va_up a 8 f'))) := by
      intro c p1 c1 c2 c3 c4 c5
      obtain ⟨i1, i2⟩ := ih p1 (u + 1) (va_up a 8 (upd (a 8) u c)) (k - 1) (by omega) c3 (by omega) (by omega) (fun i hi => hb i hi)
      rw [c5, lp_s c4 (by omega)]
      cases hs : scn b N (m + 1) p1 with
      | none =>
        refine ⟨(fun l q h => by simp [cns] at h), fun _ => ?_⟩
        rcases i2 hs with ⟨p', u', f', i3⟩ | ⟨u', f', i3⟩
        · exact .inl ⟨p', u', f', by rw [i3, up_up]⟩
        · exact .inr ⟨u', f', by rw [i3, up_up]⟩
      | some lq =>
        refine ⟨fun l q h => ?_, (fun h => by simp [cns] at h)⟩
        simp only [cns] at h
        cases h
        rw [i1 lq.1 lq.2 hs, up_up, va_up_self, ws_c]
        simp only [List.length_cons]
        rw [show u + 1 + lq.1.length = u + (lq.1.length + 1) by omega]
    have bad : ∀ (p' : Nat), bM_str n (rG g p v u d e, a) = some (.inr (.inr (0, rG g p' v u d e, a))) → scn b N (m + 1 + 1) p = none → (∀ l q, scn b N (m + 1 + 1) p = some (l, q) → lp (bM_str n) k (rG g p v u d e, a) = some (.inl (rG g (q - 1) v (u + l.length) d e, va_up a 8 (ws (a 8) u l)))) ∧ (scn b N (m + 1 + 1) p = none → (∃ p' u' f', lp (bM_str n) k (rG g p v u d e, a) = some (.inr (0, rG g p' v u' d e, va_up a 8 f'))) ∨ ∃ u' f', lp (bM_str n) k (rG g p v u d e, a) = some (.inl (rG g N v u' d e, va_up a 8 f'))) := by
      intro p' c1 c2
      refine ⟨(fun l q h => by rw [c2] at h; cases h), fun _ => .inl ⟨p', u, a 8, ?_⟩⟩
      rw [va_upE]
      exact lp_e c1 (by omega)
    by_cases h7 : b p = 92
    · have o1 : ¬ ((92 : Int32) < 32) := by decide
      have o2 : (92 : Int32) ≤ 126 := by decide
      have o3 : ¬ ((92 : Int32) = 34) := by decide
      by_cases h8 : N ≤ p + 1
      · refine bad (p + 1) ?_ (by rw [scn, if_neg h5, if_neg h6, if_pos h7, if_pos h8])
        have z1 : ¬ ((0 : Int32) = 110) := by decide
        have z2 : ¬ ((0 : Int32) = 34) := by decide
        have z3 : ¬ ((0 : Int32) = 92) := by decide
        simp (disch := omega) only [bM_str, hg, h5, hp, h7, o1, o2, o3, pkM0 (g := g) (a := a) (N := N) (v := v) (u := u) (d := d) (e := e) (n := n) (show p + 1 < 1000 by omega) hg h8, z1, z2, z3, rG_6, rG_8, rG_17, rG_19, rG_20, rG_21, rG_u8, rG_u17, rG_u19, rG_u20, rG_u21, rG_u21L, cG_9, cG_10, cG_11, cG_12, cG_u10, cG_u11, cG_u12, le_L, L_le, lt_L, L_lt, eq_L, L_eq, ad_L, nI_add, nI_sb, sb_L, mu_L, nI_leI, nI_ltI, nI_eq, nI_clamp, inb_T, nI_cl0, lt, jn_b, bd_b, bd_s, bd_i, jn_l, jn_r, jn_i, gd_T, va_ap, upd_ap, reduceIte, Nat.reduceEqDiff, Nat.reduceAdd, Nat.reduceSub, Nat.reduceMul, Nat.reduceLT, Nat.reduceLeDiff, reduceCtorEq, Int32.reduceLT, Int32.reduceLE, one_ne_zero, zero_ne_one, not_true_eq_false, not_false_eq_true, true_and, and_true, if_true, if_false, ite_self, Nat.add_zero, Nat.zero_add]
      have hE := pkM (g := g) (a := a) (v := v) (u := u) (d := d) (e := e) (n := n) hN hg hb (show p + 1 < N by omega)
      have y34 : ¬ ((34 : Int32) = 110) := by decide
      have y92 : ¬ ((92 : Int32) = 110) := by decide
      have x34 : ¬ ((110 : Int32) = 34) := by decide
      have x92 : ¬ ((110 : Int32) = 92) := by decide
      by_cases h9 : b (p + 1) = 110
      · refine step 10 (p + 2) ⟨10, by omega, by omega, rfl⟩ (by omega) (by omega) ?_ (by rw [scn, if_neg h5, if_neg h6, if_pos h7, if_neg h8, if_pos h9])
        simp (disch := omega) only [bM_str, hg, h5, hp, h7, o1, o2, o3, hE, h9, x34, x92, rG_6, rG_8, rG_17, rG_19, rG_20, rG_21, rG_u8, rG_u17, rG_u19, rG_u20, rG_u21, rG_u21L, cG_9, cG_10, cG_11, cG_12, cG_u10, cG_u11, cG_u12, le_L, L_le, lt_L, L_lt, eq_L, L_eq, ad_L, nI_add, nI_sb, sb_L, mu_L, nI_leI, nI_ltI, nI_eq, nI_clamp, inb_T, nI_cl0, lt, jn_b, bd_b, bd_s, bd_i, jn_l, jn_r, jn_i, gd_T, va_ap, upd_ap, reduceIte, Nat.reduceEqDiff, Nat.reduceAdd, Nat.reduceSub, Nat.reduceMul, Nat.reduceLT, Nat.reduceLeDiff, reduceCtorEq, Int32.reduceLT, Int32.reduceLE, one_ne_zero, zero_ne_one, not_true_eq_false, not_false_eq_true, true_and, and_true, if_true, if_false, ite_self, Nat.add_zero, Nat.zero_add]
      by_cases h10 : b (p + 1) = 34
      · refine step 34 (p + 2) ⟨34, by omega, by omega, rfl⟩ (by omega) (by omega) ?_ (by rw [scn, if_neg h5, if_neg h6, if_pos h7, if_neg h8, if_neg h9, if_pos h10])
        simp (disch := omega) only [bM_str, hg, h5, hp, h7, o1, o2, o3, hE, h10, y34, rG_6, rG_8, rG_17, rG_19, rG_20, rG_21, rG_u8, rG_u17, rG_u19, rG_u20, rG_u21, rG_u21L, cG_9, cG_10, cG_11, cG_12, cG_u10, cG_u11, cG_u12, le_L, L_le, lt_L, L_lt, eq_L, L_eq, ad_L, nI_add, nI_sb, sb_L, mu_L, nI_leI, nI_ltI, nI_eq, nI_clamp, inb_T, nI_cl0, lt, jn_b, bd_b, bd_s, bd_i, jn_l, jn_r, jn_i, gd_T, va_ap, upd_ap, reduceIte, Nat.reduceEqDiff, Nat.reduceAdd, Nat.reduceSub, Nat.reduceMul, Nat.reduceLT, Nat.reduceLeDiff, reduceCtorEq, Int32.reduceLT, Int32.reduceLE, one_ne_zero, zero_ne_one, not_true_eq_false, not_false_eq_true, true_and, and_true, if_true, if_false, ite_self, Nat.add_zero, Nat.zero_add]
      by_cases h11 : b (p + 1) = 92
      · refine step 92 (p + 2) ⟨92, by omega, by omega, rfl⟩ (by omega) (by omega) ?_ (by rw [scn, if_neg h5, if_neg h6, if_pos h7, if_neg h8, if_neg h9, if_neg h10, if_pos h11])
        simp (disch := omega) only [bM_str, hg, h5, hp, h7, o1, o2, o3, hE, h11, y92, rG_6, rG_8, rG_17, rG_19, rG_20, rG_21, rG_u8, rG_u17, rG_u19, rG_u20, rG_u21, rG_u21L, cG_9, cG_10, cG_11, cG_12, cG_u10, cG_u11, cG_u12, le_L, L_le, lt_L, L_lt, eq_L, L_eq, ad_L, nI_add, nI_sb, sb_L, mu_L, nI_leI, nI_ltI, nI_eq, nI_clamp, inb_T, nI_cl0, lt, jn_b, bd_b, bd_s, bd_i, jn_l, jn_r, jn_i, gd_T, va_ap, upd_ap, reduceIte, Nat.reduceEqDiff, Nat.reduceAdd, Nat.reduceSub, Nat.reduceMul, Nat.reduceLT, Nat.reduceLeDiff, reduceCtorEq, Int32.reduceLT, Int32.reduceLE, one_ne_zero, zero_ne_one, not_true_eq_false, not_false_eq_true, true_and, and_true, if_true, if_false, ite_self, Nat.add_zero, Nat.zero_add]
      · refine bad (p + 1) ?_ (by rw [scn, if_neg h5, if_neg h6, if_pos h7, if_neg h8, if_neg h9, if_neg h10, if_neg h11])
        simp (disch := omega) only [bM_str, hg, h5, hp, h7, o1, o2, o3, hE, h9, h10, h11, rG_6, rG_8, rG_17, rG_19, rG_20, rG_21, rG_u8, rG_u17, rG_u19, rG_u20, rG_u21, rG_u21L, cG_9, cG_10, cG_11, cG_12, cG_u10, cG_u11, cG_u12, le_L, L_le, lt_L, L_lt, eq_L, L_eq, ad_L, nI_add, nI_sb, sb_L, mu_L, nI_leI, nI_ltI, nI_eq, nI_clamp, inb_T, nI_cl0, lt, jn_b, bd_b, bd_s, bd_i, jn_l, jn_r, jn_i, gd_T, va_ap, upd_ap, reduceIte, Nat.reduceEqDiff, Nat.reduceAdd, Nat.reduceSub, Nat.reduceMul, Nat.reduceLT, Nat.reduceLeDiff, reduceCtorEq, Int32.reduceLT, Int32.reduceLE, one_ne_zero, zero_ne_one, not_true_eq_false, not_false_eq_true, true_and, and_true, if_true, if_false, ite_self, Nat.add_zero, Nat.zero_add]
    by_cases h8 : b p < 32
    · refine bad p ?_ (by rw [scn, if_neg h5, if_neg h6, if_neg h7, if_pos h8])
      simp (disch := omega) only [bM_str, hg, h5, hp, h6, h8, rG_6, rG_8, rG_17, rG_19, rG_20, rG_21, rG_u8, rG_u17, rG_u19, rG_u20, rG_u21, rG_u21L, cG_9, cG_10, cG_11, cG_12, cG_u10, cG_u11, cG_u12, le_L, L_le, lt_L, L_lt, eq_L, L_eq, ad_L, nI_add, nI_sb, sb_L, mu_L, nI_leI, nI_ltI, nI_eq, nI_clamp, inb_T, nI_cl0, lt, jn_b, bd_b, bd_s, bd_i, jn_l, jn_r, jn_i, gd_T, va_ap, upd_ap, reduceIte, Nat.reduceEqDiff, Nat.reduceAdd, Nat.reduceSub, Nat.reduceMul, Nat.reduceLT, Nat.reduceLeDiff, reduceCtorEq, Int32.reduceLT, Int32.reduceLE, one_ne_zero, zero_ne_one, not_true_eq_false, not_false_eq_true, true_and, and_true, if_true, if_false, ite_self, Nat.add_zero, Nat.zero_add]
    by_cases h9 : b p ≤ 126
    · refine step (b p) (p + 1) hcp (by omega) (by omega) ?_ (by rw [scn, if_neg h5, if_neg h6, if_neg h7, if_neg h8, if_pos h9])
      simp (disch := omega) only [bM_str, hg, h5, hp, h6, h7, h8, h9, rG_6, rG_8, rG_17, rG_19, rG_20, rG_21, rG_u8, rG_u17, rG_u19, rG_u20, rG_u21, rG_u21L, cG_9, cG_10, cG_11, cG_12, cG_u10, cG_u11, cG_u12, le_L, L_le, lt_L, L_lt, eq_L, L_eq, ad_L, nI_add, nI_sb, sb_L, mu_L, nI_leI, nI_ltI, nI_eq, nI_clamp, inb_T, nI_cl0, lt, jn_b, bd_b, bd_s, bd_i, jn_l, jn_r, jn_i, gd_T, va_ap, upd_ap, reduceIte, Nat.reduceEqDiff, Nat.reduceAdd, Nat.reduceSub, Nat.reduceMul, Nat.reduceLT, Nat.reduceLeDiff, reduceCtorEq, Int32.reduceLT, Int32.reduceLE, one_ne_zero, zero_ne_one, not_true_eq_false, not_false_eq_true, true_and, and_true, if_true, if_false, ite_self, Nat.add_zero, Nat.zero_add]
    · refine bad p ?_ (by rw [scn, if_neg h5, if_neg h6, if_neg h7, if_neg h8, if_neg h9])
      simp (disch := omega) only [bM_str, hg, h5, hp, h6, h8, h9, rG_6, rG_8, rG_17, rG_19, rG_20, rG_21, rG_u8, rG_u17, rG_u19, rG_u20, rG_u21, rG_u21L, cG_9, cG_10, cG_11, cG_12, cG_u10, cG_u11, cG_u12, le_L, L_le, lt_L, L_lt, eq_L, L_eq, ad_L, nI_add, nI_sb, sb_L, mu_L, nI_leI, nI_ltI, nI_eq, nI_clamp, inb_T, nI_cl0, lt, jn_b, bd_b, bd_s, bd_i, jn_l, jn_r, jn_i, gd_T, va_ap, upd_ap, reduceIte, Nat.reduceEqDiff, Nat.reduceAdd, Nat.reduceSub, Nat.reduceMul, Nat.reduceLT, Nat.reduceLeDiff, reduceCtorEq, Int32.reduceLT, Int32.reduceLE, one_ne_zero, zero_ne_one, not_true_eq_false, not_false_eq_true, true_and, and_true, if_true, if_false, ite_self, Nat.add_zero, Nat.zero_add]
/-- a string from its opening quote at p, on both sides -/
def scq (b : Nat → Int32) (N p : Nat) : Option (List Int32 × Nat) := scn b N (N - (p + 1) + 1) (p + 1)
theorem strM {g : aG} {a : aA} {b : Nat → Int32} {N p v u d e n : Nat} (hN : N ≤ 200) (hg : g 6 = nI N) (hc : ∀ i, i < N → chr (b i)) (hb : ∀ i, i < N → a 0 i = b i) (hp : p < N) (hu : u ≤ p) (hn : 300 < n) : (∀ l q, scq b N p = some (l, q) → mM_string n (rG g p v u d e) a = some (1, rG g q v (u + l.length) d e, va_up a 8 (ws (a 8) u l))) ∧ (scq b N p = none → ∃ p' u' f', mM_string n (rG g p v u d e) a = some (0, rG g p' v u' d e, va_up a 8 f')) := by
  obtain ⟨h1, h2⟩ := strM_l (v := v) (d := d) (e := e) (n := n) hN hg hc (N - (p + 1)) (p + 1) u a n (by omega) (by omega) (by omega) (by omega) hb
  refine ⟨fun l q h => ?_, fun h => ?_⟩
  · obtain ⟨q1, q2, -⟩ := scn_q hc _ _ _ _ h
    rw [str_e]
    simp (disch := omega) only [h1 l q h, hg, show q - 1 + 1 = q by omega, rG_6, rG_8, rG_17, rG_19, rG_20, rG_21, rG_u8, rG_u17, rG_u19, rG_u20, rG_u21, rG_u21L, cG_9, cG_10, cG_11, cG_12, cG_u10, cG_u11, cG_u12, le_L, L_le, lt_L, L_lt, eq_L, L_eq, ad_L, nI_add, nI_sb, sb_L, mu_L, nI_leI, nI_ltI, nI_eq, nI_clamp, inb_T, nI_cl0, lt, jn_b, bd_b, bd_s, bd_i, jn_l, jn_r, jn_i, gd_T, va_ap, upd_ap, reduceIte, Nat.reduceEqDiff, Nat.reduceAdd, Nat.reduceSub, Nat.reduceMul, Nat.reduceLT, Nat.reduceLeDiff, reduceCtorEq, Int32.reduceLT, Int32.reduceLE, one_ne_zero, zero_ne_one, not_true_eq_false, not_false_eq_true, true_and, and_true, if_true, if_false, ite_self, Nat.add_zero, Nat.zero_add]
    rw [if_neg (by omega)]
  · rw [str_e]
    rcases h2 h with ⟨p', u', f', i3⟩ | ⟨u', f', i3⟩
    · refine ⟨p', u', f', ?_⟩
      simp (disch := omega) only [i3, rG_6, rG_8, rG_17, rG_19, rG_20, rG_21, rG_u8, rG_u17, rG_u19, rG_u20, rG_u21, rG_u21L, cG_9, cG_10, cG_11, cG_12, cG_u10, cG_u11, cG_u12, le_L, L_le, lt_L, L_lt, eq_L, L_eq, ad_L, nI_add, nI_sb, sb_L, mu_L, nI_leI, nI_ltI, nI_eq, nI_clamp, inb_T, nI_cl0, lt, jn_b, bd_b, bd_s, bd_i, jn_l, jn_r, jn_i, gd_T, va_ap, upd_ap, reduceIte, Nat.reduceEqDiff, Nat.reduceAdd, Nat.reduceSub, Nat.reduceMul, Nat.reduceLT, Nat.reduceLeDiff, reduceCtorEq, Int32.reduceLT, Int32.reduceLE, one_ne_zero, zero_ne_one, not_true_eq_false, not_false_eq_true, true_and, and_true, if_true, if_false, ite_self, Nat.add_zero, Nat.zero_add]
    · refine ⟨N + 1, u', f', ?_⟩
      simp (disch := omega) only [i3, hg, rG_6, rG_8, rG_17, rG_19, rG_20, rG_21, rG_u8, rG_u17, rG_u19, rG_u20, rG_u21, rG_u21L, cG_9, cG_10, cG_11, cG_12, cG_u10, cG_u11, cG_u12, le_L, L_le, lt_L, L_lt, eq_L, L_eq, ad_L, nI_add, nI_sb, sb_L, mu_L, nI_leI, nI_ltI, nI_eq, nI_clamp, inb_T, nI_cl0, lt, jn_b, bd_b, bd_s, bd_i, jn_l, jn_r, jn_i, gd_T, va_ap, upd_ap, reduceIte, Nat.reduceEqDiff, Nat.reduceAdd, Nat.reduceSub, Nat.reduceMul, Nat.reduceLT, Nat.reduceLeDiff, reduceCtorEq, Int32.reduceLT, Int32.reduceLE, one_ne_zero, zero_ne_one, not_true_eq_false, not_false_eq_true, true_and, and_true, if_true, if_false, ite_self, Nat.add_zero, Nat.zero_add]
      rw [if_pos (by omega)]
theorem ltrV {gV : aG} {aV : aA} {b : Nat → Int32} {N p v u n : Nat} (hN : N ≤ 200) (hc : ∀ i, i < N → chr (b i)) (hb : ∀ i, i < N → aV 8 i = b i) (hp : p < N) (hq : b p = 34) (hu : u ≤ p) (hn : 300 < n) : (∀ l q, scq b N p = some (l, q) → mV_readLetters n (cG gV N p v u) aV = some (1, cG gV N q v (u + l.length), va_up aV 7 (ws (aV 7) u l))) ∧ (scq b N p = none → ∃ p' u' f', p' ≤ 202 ∧ mV_readLetters n (cG gV N p v u) aV = some (0, cG gV N p' v u', va_up aV 7 f')) := by
  have h3 := letV (gV := gV) (v := v) (n := n) hN hc (N - (p + 1)) (p + 1) u aV n (by omega) (by omega) (by omega) (by omega) hb
  rw [let_e, skV hN hb hp hq, bd_s]
  exact h3
theorem ltrV0 {gV : aG} {aV : aA} {b : Nat → Int32} {N p v u n : Nat} (hN : N ≤ 200) (hb : ∀ i, i < N → aV 8 i = b i) (hp : p ≤ N) (hq : p < N → ¬ b p = 34) : ∃ p' u' f', p' ≤ 202 ∧ mV_readLetters n (cG gV N p v u) aV = some (0, cG gV N p' v u', va_up aV 7 f') := by
  rw [let_e, skV0 hN hb hp hq, bd_s]
  exact ⟨p, u, aV 7, by omega, by rw [va_upE]; rfl⟩
