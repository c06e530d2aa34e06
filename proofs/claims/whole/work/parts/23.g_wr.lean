theorem dTw_b {b : Bool} {w : Nat} (h : w < 10 ^ 6) : 1 ≤ (dTw b w).length ∧ (dTw b w).length ≤ 7 := by
  obtain ⟨j, j1, j2, j3, j4⟩ := u_2 h 5 0 10 (by omega) (by omega) (.inl rfl)
  have hd : dgs 10 w = dl w j := dl_d j w (by omega) j3 j4
  rw [dTw_len, hd, dl_len]
  unfold sgn
  cases b <;> simp <;> omega
theorem st_25 : stT 25 = [123, 34, 105, 100, 34, 58] := by decide +kernel
theorem st_26 : stT 26 = [110, 117, 108, 108] := by decide +kernel
theorem st_27 : stT 27 = [44, 34, 114, 101, 115, 117, 108, 116, 34, 58] := by decide +kernel
theorem st_28 : stT 28 = [44, 34, 101, 114, 114, 111, 114, 34, 58] := by decide +kernel
def bD (wi wr : Int32) (n1 n2 : List Int32) : List Int32 := bdy [] wi wr n1 n2
theorem bD_11 (n1 n2 : List Int32) : bD 1 1 n1 n2 = [123, 34, 105, 100, 34, 58] ++ (n1 ++ ([44, 34, 114, 101, 115, 117, 108, 116, 34, 58] ++ (n2 ++ [125]))) := by
  unfold bD bdy
  rw [if_neg (by decide), if_neg (by decide), st_25, st_27]
  simp only [List.nil_append, List.append_assoc]
  rfl
theorem bD_10 (n1 n2 : List Int32) : bD 1 0 n1 n2 = [123, 34, 105, 100, 34, 58] ++ (n1 ++ ([44, 34, 101, 114, 114, 111, 114, 34, 58] ++ (n2 ++ [125]))) := by
  unfold bD bdy
  rw [if_neg (by decide), if_pos (by decide), st_25, st_28]
  simp only [List.nil_append, List.append_assoc]
  rfl
theorem bD_01 (n1 n2 : List Int32) : bD 0 1 n1 n2 = [123, 34, 105, 100, 34, 58] ++ ([110, 117, 108, 108] ++ ([44, 34, 114, 101, 115, 117, 108, 116, 34, 58] ++ (n2 ++ [125]))) := by
  unfold bD bdy
  rw [if_pos (by decide), if_neg (by decide), st_25, st_26, st_27]
  simp only [List.nil_append, List.append_assoc]
  rfl
theorem bD_00 (n1 n2 : List Int32) : bD 0 0 n1 n2 = [123, 34, 105, 100, 34, 58] ++ ([110, 117, 108, 108] ++ ([44, 34, 101, 114, 114, 111, 114, 34, 58] ++ (n2 ++ [125]))) := by
  unfold bD bdy
  rw [if_pos (by decide), if_pos (by decide), st_25, st_26, st_28]
  simp only [List.nil_append, List.append_assoc]
  rfl
theorem wr_e {n k : Nat} {g : aG} {a : aA} {b1 b2 : Bool} {w1 w2 : Nat} (hk : k < 60) (hn : 20 < n) (h1 : a 22 k = sg b1 w1) (h2 : a 25 k = sg b2 w2) (hw1 : w1 < 10 ^ 6) (hw2 : w2 < 10 ^ 6) (hb1 : b1 = true → 1 ≤ w1) (hb2 : b2 = true → 1 ≤ w2) (h3 : bol (a 23 k)) (h4 : bol (a 24 k)) : mM_write n (nI k) g a = some (frG g (bD (a 23 k) (a 24 k) (dTw b1 w1) (dTw b2 w2)), frA a (bD (a 23 k) (a 24 k) (dTw b1 w1) (dTw b2 w2))) := by
  obtain ⟨l1, l2⟩ := dTw_b (b := b1) hw1
  obtain ⟨m1, m2⟩ := dTw_b (b := b2) hw2
  have e0 : mM_six n 123 34 105 100 34 58 (va_up g 44 0) a = some (frG g [123, 34, 105, 100, 34, 58], frA a [123, 34, 105, 100, 34, 58]) := by
    have := six_e (n := n) (c1 := 123) (c2 := 34) (c3 := 105) (c4 := 100) (c5 := 34) (c6 := 58) (g := g) (a := a) (l := []) (by decide) (by decide)
    rw [frA_0] at this
    exact this
  have q1 : ¬ ((1 : Int32) = 0) := by decide
  have k1 : (0 : Int32) < 34 := by decide
  have k2 : (0 : Int32) < 116 := by decide
  have N1 := fun l (hl : l.length < 50) => num_e (n := n) (g := g) (a := a) (l := l) hw1 hb1 hl hn
  have N2 := fun l (hl : l.length < 50) => num_e (n := n) (g := g) (a := a) (l := l) hw2 hb2 hl hn
  rcases h3 with h3 | h3 <;> rcases h4 with h4 | h4
  · rw [h3, h4, bD_00]
    simp (disch := first | omega | decide | (simp only [List.length_cons, List.length_nil, List.length_append]; omega)) only [mM_write, e0, six_e, five_e, put_e, N1, N2, frA_ne, h1, h2, h3, h4, List.append_assoc, List.cons_append, List.nil_append, le_L, L_le, lt_L, L_lt, eq_L, L_eq, ad_L, nI_add, nI_sb, sb_L, mu_L, nI_leI, nI_ltI, nI_eq, nI_clamp, inb_T, nI_cl0, lt, jn_b, bd_b, bd_s, bd_i, jn_l, jn_r, jn_i, gd_T, va_ap, upd_ap, reduceIte, Nat.reduceEqDiff, Nat.reduceAdd, Nat.reduceSub, Nat.reduceMul, Nat.reduceLT, Nat.reduceLeDiff, reduceCtorEq, Int32.reduceLT, Int32.reduceLE, one_ne_zero, zero_ne_one, not_true_eq_false, not_false_eq_true, true_and, and_true, if_true, if_false, ite_self, Nat.add_zero, Nat.zero_add]
  · rw [h3, h4, bD_01]
    simp (disch := first | omega | decide | (simp only [List.length_cons, List.length_nil, List.length_append]; omega)) only [mM_write, e0, six_e, five_e, put_e, N1, N2, frA_ne, h1, h2, h3, h4, List.append_assoc, List.cons_append, List.nil_append, le_L, L_le, lt_L, L_lt, eq_L, L_eq, ad_L, nI_add, nI_sb, sb_L, mu_L, nI_leI, nI_ltI, nI_eq, nI_clamp, inb_T, nI_cl0, lt, jn_b, bd_b, bd_s, bd_i, jn_l, jn_r, jn_i, gd_T, va_ap, upd_ap, reduceIte, Nat.reduceEqDiff, Nat.reduceAdd, Nat.reduceSub, Nat.reduceMul, Nat.reduceLT, Nat.reduceLeDiff, reduceCtorEq, Int32.reduceLT, Int32.reduceLE, one_ne_zero, zero_ne_one, not_true_eq_false, not_false_eq_true, true_and, and_true, if_true, if_false, ite_self, Nat.add_zero, Nat.zero_add]
  · rw [h3, h4, bD_10]
    simp (disch := first | omega | decide | (simp only [List.length_cons, List.length_nil, List.length_append]; omega)) only [mM_write, e0, six_e, five_e, put_e, N1, N2, frA_ne, h1, h2, h3, h4, List.append_assoc, List.cons_append, List.nil_append, le_L, L_le, lt_L, L_lt, eq_L, L_eq, ad_L, nI_add, nI_sb, sb_L, mu_L, nI_leI, nI_ltI, nI_eq, nI_clamp, inb_T, nI_cl0, lt, jn_b, bd_b, bd_s, bd_i, jn_l, jn_r, jn_i, gd_T, va_ap, upd_ap, reduceIte, Nat.reduceEqDiff, Nat.reduceAdd, Nat.reduceSub, Nat.reduceMul, Nat.reduceLT, Nat.reduceLeDiff, reduceCtorEq, Int32.reduceLT, Int32.reduceLE, one_ne_zero, zero_ne_one, not_true_eq_false, not_false_eq_true, true_and, and_true, if_true, if_false, ite_self, Nat.add_zero, Nat.zero_add]
  · rw [h3, h4, bD_11]
    simp (disch := first | omega | decide | (simp only [List.length_cons, List.length_nil, List.length_append]; omega)) only [mM_write, e0, six_e, five_e, put_e, N1, N2, frA_ne, h1, h2, h3, h4, List.append_assoc, List.cons_append, List.nil_append, le_L, L_le, lt_L, L_lt, eq_L, L_eq, ad_L, nI_add, nI_sb, sb_L, mu_L, nI_leI, nI_ltI, nI_eq, nI_clamp, inb_T, nI_cl0, lt, jn_b, bd_b, bd_s, bd_i, jn_l, jn_r, jn_i, gd_T, va_ap, upd_ap, reduceIte, Nat.reduceEqDiff, Nat.reduceAdd, Nat.reduceSub, Nat.reduceMul, Nat.reduceLT, Nat.reduceLeDiff, reduceCtorEq, Int32.reduceLT, Int32.reduceLE, one_ne_zero, zero_ne_one, not_true_eq_false, not_false_eq_true, true_and, and_true, if_true, if_false, ite_self, Nat.add_zero, Nat.zero_add]
