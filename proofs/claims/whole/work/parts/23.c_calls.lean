theorem chr_n : ∀ x, x < 128 → ((nI x).toUInt32 % 65536).toInt32 = nI x ∧ okc (nI x) = true := by decide +kernel
theorem chr_k {x : Int32} (h : chr x) : (x.toUInt32 % 65536).toInt32 = x ∧ okc x = true := by
  obtain ⟨c, _, h2, rfl⟩ := h
  exact chr_n c h2
theorem fail_0 {n : Nat} {x : Int32} {g : aG} {a : aA} : mM_fail n x g a = some (0, va_up g 45 x) := rfl
theorem up_up {α : Type} (f : Nat → α) (k : Nat) (v w : α) : va_up (va_up f k v) k w = va_up f k w := by
  funext j
  simp only [va_ap]
  split <;> rfl
section LQ
variable {gE gJ gV : aG} {aV : aA} {gN : aG} {aN : aA} {gS gZ : aG} {aZ : aA} {dP : aP} {gQ : aG} {dO : aP} {g : aG} {a : aA}
theorem L_req (h : Inv gE gJ gV aV gN aN gS gZ aZ dP gQ dO g a) (v : Int32) : L_request Inv gE gJ gV aV gN aN gS gZ aZ dP gQ dO g a v := by
  have h9 := h
  obtain ⟨-, -, -, ⟨nw, hw, w1, w2, h3⟩⟩ := h
  by_cases h0 : v < 0
  · right
    refine ⟨by rw [mE_request_i, if_pos h0], 0, 0, va_up g 45 1, ?_, rfl, Inv_c h9 1⟩
    simp only [mM_request, if_pos h0, fail_0, up_up, lt, jn_b, bd_b, bd_s, bd_i, jn_l, jn_r, jn_i, gd_T, va_ap, upd_ap, reduceIte, Nat.reduceEqDiff, Nat.reduceAdd, Nat.reduceSub, Nat.reduceMul, Nat.reduceLT, Nat.reduceLeDiff, reduceCtorEq, Int32.reduceLT, Int32.reduceLE, one_ne_zero, zero_ne_one, not_true_eq_false, not_false_eq_true, true_and, and_true, if_true, if_false, ite_self, Nat.add_zero, Nat.zero_add]
  obtain ⟨k, hk, rfl⟩ := nI_of h0
  by_cases h1 : k < nw
  · left
    refine ⟨0, 0, a 16 k, va_up g 45 0, ?_, ?_, rfl, Inv_c h9 0⟩
    · simp (disch := omega) only [mE_request, w1, le_L, L_le, lt_L, L_lt, eq_L, L_eq, ad_L, nI_add, nI_sb, sb_L, mu_L, nI_leI, nI_ltI, nI_eq, nI_clamp, inb_T, nI_cl0, lt, jn_b, bd_b, bd_s, bd_i, jn_l, jn_r, jn_i, gd_T, va_ap, upd_ap, reduceIte, Nat.reduceEqDiff, Nat.reduceAdd, Nat.reduceSub, Nat.reduceMul, Nat.reduceLT, Nat.reduceLeDiff, reduceCtorEq, Int32.reduceLT, Int32.reduceLE, one_ne_zero, zero_ne_one, not_true_eq_false, not_false_eq_true, true_and, and_true, if_true, if_false, ite_self, Nat.add_zero, Nat.zero_add]
      rw [if_neg (by omega), if_pos h1, (h3 k h1).1]
    · simp (disch := omega) only [mM_request, w2, le_L, L_le, lt_L, L_lt, eq_L, L_eq, ad_L, nI_add, nI_sb, sb_L, mu_L, nI_leI, nI_ltI, nI_eq, nI_clamp, inb_T, nI_cl0, lt, jn_b, bd_b, bd_s, bd_i, jn_l, jn_r, jn_i, gd_T, va_ap, upd_ap, reduceIte, Nat.reduceEqDiff, Nat.reduceAdd, Nat.reduceSub, Nat.reduceMul, Nat.reduceLT, Nat.reduceLeDiff, reduceCtorEq, Int32.reduceLT, Int32.reduceLE, one_ne_zero, zero_ne_one, not_true_eq_false, not_false_eq_true, true_and, and_true, if_true, if_false, ite_self, Nat.add_zero, Nat.zero_add]
      rw [if_neg (by omega), if_pos h1]
  · right
    refine ⟨?_, 0, 0, va_up g 45 1, ?_, rfl, Inv_c h9 1⟩
    · simp (disch := omega) only [mE_request_i, w1, le_L, L_le, lt_L, L_lt, eq_L, L_eq, ad_L, nI_add, nI_sb, sb_L, mu_L, nI_leI, nI_ltI, nI_eq, nI_clamp, inb_T, nI_cl0, lt, jn_b, bd_b, bd_s, bd_i, jn_l, jn_r, jn_i, gd_T, va_ap, upd_ap, reduceIte, Nat.reduceEqDiff, Nat.reduceAdd, Nat.reduceSub, Nat.reduceMul, Nat.reduceLT, Nat.reduceLeDiff, reduceCtorEq, Int32.reduceLT, Int32.reduceLE, one_ne_zero, zero_ne_one, not_true_eq_false, not_false_eq_true, true_and, and_true, if_true, if_false, ite_self, Nat.add_zero, Nat.zero_add]
      rw [if_neg (by omega), if_neg h1]
    · simp (disch := omega) only [mM_request, w2, fail_0, up_up, le_L, L_le, lt_L, L_lt, eq_L, L_eq, ad_L, nI_add, nI_sb, sb_L, mu_L, nI_leI, nI_ltI, nI_eq, nI_clamp, inb_T, nI_cl0, lt, jn_b, bd_b, bd_s, bd_i, jn_l, jn_r, jn_i, gd_T, va_ap, upd_ap, reduceIte, Nat.reduceEqDiff, Nat.reduceAdd, Nat.reduceSub, Nat.reduceMul, Nat.reduceLT, Nat.reduceLeDiff, reduceCtorEq, Int32.reduceLT, Int32.reduceLE, one_ne_zero, zero_ne_one, not_true_eq_false, not_false_eq_true, true_and, and_true, if_true, if_false, ite_self, Nat.add_zero, Nat.zero_add]
      rw [if_neg (by omega), if_neg h1]
theorem L_resp (h : Inv gE gJ gV aV gN aN gS gZ aZ dP gQ dO g a) (v w : Int32) : L_response Inv gE gJ gV aV gN aN gS gZ aZ dP gQ dO g a v w := by
  have h9 := h
  obtain ⟨-, ⟨nw, hw, w1, w2, h3⟩, -, -⟩ := h
  by_cases h0 : v < 0
  · right; left
    refine ⟨by rw [mE_response_i, if_pos h0], 0, 0, va_up g 45 1, ?_, rfl, Inv_c h9 1⟩
    simp only [mM_response, if_pos h0, fail_0, up_up, lt, jn_b, bd_b, bd_s, bd_i, jn_l, jn_r, jn_i, gd_T, va_ap, upd_ap, reduceIte, Nat.reduceEqDiff, Nat.reduceAdd, Nat.reduceSub, Nat.reduceMul, Nat.reduceLT, Nat.reduceLeDiff, reduceCtorEq, Int32.reduceLT, Int32.reduceLE, one_ne_zero, zero_ne_one, not_true_eq_false, not_false_eq_true, true_and, and_true, if_true, if_false, ite_self, Nat.add_zero, Nat.zero_add]
  obtain ⟨k, hk, rfl⟩ := nI_of h0
  by_cases h1 : k < nw
  · obtain ⟨a0, a1, a2, a3, -⟩ := h3 k h1
    by_cases q0 : w = 0
    · left
      refine ⟨0, 0, a 22 k, va_up g 45 0, ?_, ?_, rfl, Inv_c h9 0⟩
      · simp (disch := omega) only [mE_response, w1, q0, a0, le_L, L_le, lt_L, L_lt, eq_L, L_eq, ad_L, nI_add, nI_sb, sb_L, mu_L, nI_leI, nI_ltI, nI_eq, nI_clamp, inb_T, nI_cl0, lt, jn_b, bd_b, bd_s, bd_i, jn_l, jn_r, jn_i, gd_T, va_ap, upd_ap, reduceIte, Nat.reduceEqDiff, Nat.reduceAdd, Nat.reduceSub, Nat.reduceMul, Nat.reduceLT, Nat.reduceLeDiff, reduceCtorEq, Int32.reduceLT, Int32.reduceLE, one_ne_zero, zero_ne_one, not_true_eq_false, not_false_eq_true, true_and, and_true, if_true, if_false, ite_self, Nat.add_zero, Nat.zero_add]
        rw [if_neg (by omega), if_pos h1]
      · simp (disch := omega) only [mM_response, w2, q0, le_L, L_le, lt_L, L_lt, eq_L, L_eq, ad_L, nI_add, nI_sb, sb_L, mu_L, nI_leI, nI_ltI, nI_eq, nI_clamp, inb_T, nI_cl0, lt, jn_b, bd_b, bd_s, bd_i, jn_l, jn_r, jn_i, gd_T, va_ap, upd_ap, reduceIte, Nat.reduceEqDiff, Nat.reduceAdd, Nat.reduceSub, Nat.reduceMul, Nat.reduceLT, Nat.reduceLeDiff, reduceCtorEq, Int32.reduceLT, Int32.reduceLE, one_ne_zero, zero_ne_one, not_true_eq_false, not_false_eq_true, true_and, and_true, if_true, if_false, ite_self, Nat.add_zero, Nat.zero_add]
        rw [if_neg (by omega), if_pos h1]
    by_cases q1 : w = 1
    · left
      refine ⟨0, 0, if a 23 k = 0 then 0 else 1, va_up g 45 0, ?_, ?_, rfl, Inv_c h9 0⟩
      · simp (disch := omega) only [mE_response, w1, q1, a1, le_L, L_le, lt_L, L_lt, eq_L, L_eq, ad_L, nI_add, nI_sb, sb_L, mu_L, nI_leI, nI_ltI, nI_eq, nI_clamp, inb_T, nI_cl0, lt, jn_b, bd_b, bd_s, bd_i, jn_l, jn_r, jn_i, gd_T, va_ap, upd_ap, reduceIte, Nat.reduceEqDiff, Nat.reduceAdd, Nat.reduceSub, Nat.reduceMul, Nat.reduceLT, Nat.reduceLeDiff, reduceCtorEq, Int32.reduceLT, Int32.reduceLE, one_ne_zero, zero_ne_one, not_true_eq_false, not_false_eq_true, true_and, and_true, if_true, if_false, ite_self, Nat.add_zero, Nat.zero_add]
        rw [if_neg (by omega), if_pos h1]
        split <;> rfl
      · simp (disch := omega) only [mM_response, w2, q1, le_L, L_le, lt_L, L_lt, eq_L, L_eq, ad_L, nI_add, nI_sb, sb_L, mu_L, nI_leI, nI_ltI, nI_eq, nI_clamp, inb_T, nI_cl0, lt, jn_b, bd_b, bd_s, bd_i, jn_l, jn_r, jn_i, gd_T, va_ap, upd_ap, reduceIte, Nat.reduceEqDiff, Nat.reduceAdd, Nat.reduceSub, Nat.reduceMul, Nat.reduceLT, Nat.reduceLeDiff, reduceCtorEq, Int32.reduceLT, Int32.reduceLE, one_ne_zero, zero_ne_one, not_true_eq_false, not_false_eq_true, true_and, and_true, if_true, if_false, ite_self, Nat.add_zero, Nat.zero_add]
        rw [if_neg (by omega), if_pos h1]
        split <;> rfl
    by_cases q2 : w = 2
    · left
      refine ⟨0, 0, if a 24 k = 0 then 0 else 1, va_up g 45 0, ?_, ?_, rfl, Inv_c h9 0⟩
      · simp (disch := omega) only [mE_response, w1, q0, q1, q2, a2, le_L, L_le, lt_L, L_lt, eq_L, L_eq, ad_L, nI_add, nI_sb, sb_L, mu_L, nI_leI, nI_ltI, nI_eq, nI_clamp, inb_T, nI_cl0, lt, jn_b, bd_b, bd_s, bd_i, jn_l, jn_r, jn_i, gd_T, va_ap, upd_ap, reduceIte, Nat.reduceEqDiff, Nat.reduceAdd, Nat.reduceSub, Nat.reduceMul, Nat.reduceLT, Nat.reduceLeDiff, reduceCtorEq, Int32.reduceLT, Int32.reduceLE, one_ne_zero, zero_ne_one, not_true_eq_false, not_false_eq_true, true_and, and_true, if_true, if_false, ite_self, Nat.add_zero, Nat.zero_add]
        rw [if_neg (by omega), if_pos h1, if_neg (by decide), if_neg (by decide)]
        split <;> rfl
      · simp (disch := omega) only [mM_response, w2, q0, q1, q2, le_L, L_le, lt_L, L_lt, eq_L, L_eq, ad_L, nI_add, nI_sb, sb_L, mu_L, nI_leI, nI_ltI, nI_eq, nI_clamp, inb_T, nI_cl0, lt, jn_b, bd_b, bd_s, bd_i, jn_l, jn_r, jn_i, gd_T, va_ap, upd_ap, reduceIte, Nat.reduceEqDiff, Nat.reduceAdd, Nat.reduceSub, Nat.reduceMul, Nat.reduceLT, Nat.reduceLeDiff, reduceCtorEq, Int32.reduceLT, Int32.reduceLE, one_ne_zero, zero_ne_one, not_true_eq_false, not_false_eq_true, true_and, and_true, if_true, if_false, ite_self, Nat.add_zero, Nat.zero_add]
        rw [if_neg (by omega), if_pos h1, if_neg (by decide), if_neg (by decide)]
        split <;> rfl
    by_cases q3 : w = 3
    · left
      refine ⟨0, 0, a 25 k, va_up g 45 0, ?_, ?_, rfl, Inv_c h9 0⟩
      · simp (disch := omega) only [mE_response, w1, q3, a3, le_L, L_le, lt_L, L_lt, eq_L, L_eq, ad_L, nI_add, nI_sb, sb_L, mu_L, nI_leI, nI_ltI, nI_eq, nI_clamp, inb_T, nI_cl0, lt, jn_b, bd_b, bd_s, bd_i, jn_l, jn_r, jn_i, gd_T, va_ap, upd_ap, reduceIte, Nat.reduceEqDiff, Nat.reduceAdd, Nat.reduceSub, Nat.reduceMul, Nat.reduceLT, Nat.reduceLeDiff, reduceCtorEq, Int32.reduceLT, Int32.reduceLE, one_ne_zero, zero_ne_one, not_true_eq_false, not_false_eq_true, true_and, and_true, if_true, if_false, ite_self, Nat.add_zero, Nat.zero_add]
        rw [if_neg (by omega), if_pos h1, if_neg (by decide), if_neg (by decide), if_neg (by decide)]
      · simp (disch := omega) only [mM_response, w2, q3, le_L, L_le, lt_L, L_lt, eq_L, L_eq, ad_L, nI_add, nI_sb, sb_L, mu_L, nI_leI, nI_ltI, nI_eq, nI_clamp, inb_T, nI_cl0, lt, jn_b, bd_b, bd_s, bd_i, jn_l, jn_r, jn_i, gd_T, va_ap, upd_ap, reduceIte, Nat.reduceEqDiff, Nat.reduceAdd, Nat.reduceSub, Nat.reduceMul, Nat.reduceLT, Nat.reduceLeDiff, reduceCtorEq, Int32.reduceLT, Int32.reduceLE, one_ne_zero, zero_ne_one, not_true_eq_false, not_false_eq_true, true_and, and_true, if_true, if_false, ite_self, Nat.add_zero, Nat.zero_add]
        rw [if_neg (by omega), if_pos h1, if_neg (by decide), if_neg (by decide), if_neg (by decide)]
    right; right
    refine ⟨?_, 0, 0, va_up g 45 2, ?_, rfl, Inv_c h9 2⟩
    · simp (disch := omega) only [mE_response_a, w1, if_neg q0, if_neg q1, if_neg q2, if_neg q3, le_L, L_le, lt_L, L_lt, eq_L, L_eq, ad_L, nI_add, nI_sb, sb_L, mu_L, nI_leI, nI_ltI, nI_eq, nI_clamp, inb_T, nI_cl0, lt, jn_b, bd_b, bd_s, bd_i, jn_l, jn_r, jn_i, gd_T, va_ap, upd_ap, reduceIte, Nat.reduceEqDiff, Nat.reduceAdd, Nat.reduceSub, Nat.reduceMul, Nat.reduceLT, Nat.reduceLeDiff, reduceCtorEq, Int32.reduceLT, Int32.reduceLE, one_ne_zero, zero_ne_one, not_true_eq_false, not_false_eq_true, true_and, and_true, if_true, if_false, ite_self, Nat.add_zero, Nat.zero_add]
      rw [if_neg (by omega), if_pos h1]
    · simp (disch := omega) only [mM_response, w2, if_neg q0, if_neg q1, if_neg q2, if_neg q3, fail_0, up_up, le_L, L_le, lt_L, L_lt, eq_L, L_eq, ad_L, nI_add, nI_sb, sb_L, mu_L, nI_leI, nI_ltI, nI_eq, nI_clamp, inb_T, nI_cl0, lt, jn_b, bd_b, bd_s, bd_i, jn_l, jn_r, jn_i, gd_T, va_ap, upd_ap, reduceIte, Nat.reduceEqDiff, Nat.reduceAdd, Nat.reduceSub, Nat.reduceMul, Nat.reduceLT, Nat.reduceLeDiff, reduceCtorEq, Int32.reduceLT, Int32.reduceLE, one_ne_zero, zero_ne_one, not_true_eq_false, not_false_eq_true, true_and, and_true, if_true, if_false, ite_self, Nat.add_zero, Nat.zero_add]
      rw [if_neg (by omega), if_pos h1]
  · right; left
    refine ⟨?_, 0, 0, va_up g 45 1, ?_, rfl, Inv_c h9 1⟩
    · simp (disch := omega) only [mE_response_i, w1, le_L, L_le, lt_L, L_lt, eq_L, L_eq, ad_L, nI_add, nI_sb, sb_L, mu_L, nI_leI, nI_ltI, nI_eq, nI_clamp, inb_T, nI_cl0, lt, jn_b, bd_b, bd_s, bd_i, jn_l, jn_r, jn_i, gd_T, va_ap, upd_ap, reduceIte, Nat.reduceEqDiff, Nat.reduceAdd, Nat.reduceSub, Nat.reduceMul, Nat.reduceLT, Nat.reduceLeDiff, reduceCtorEq, Int32.reduceLT, Int32.reduceLE, one_ne_zero, zero_ne_one, not_true_eq_false, not_false_eq_true, true_and, and_true, if_true, if_false, ite_self, Nat.add_zero, Nat.zero_add]
      rw [if_neg (by omega), if_neg h1]
    · simp (disch := omega) only [mM_response, w2, fail_0, up_up, le_L, L_le, lt_L, L_lt, eq_L, L_eq, ad_L, nI_add, nI_sb, sb_L, mu_L, nI_leI, nI_ltI, nI_eq, nI_clamp, inb_T, nI_cl0, lt, jn_b, bd_b, bd_s, bd_i, jn_l, jn_r, jn_i, gd_T, va_ap, upd_ap, reduceIte, Nat.reduceEqDiff, Nat.reduceAdd, Nat.reduceSub, Nat.reduceMul, Nat.reduceLT, Nat.reduceLeDiff, reduceCtorEq, Int32.reduceLT, Int32.reduceLE, one_ne_zero, zero_ne_one, not_true_eq_false, not_false_eq_true, true_and, and_true, if_true, if_false, ite_self, Nat.add_zero, Nat.zero_add]
      rw [if_neg (by omega), if_neg h1]
theorem isD {n : Nat} {v : Int32} {g : aG} {a : aA} {nd : Nat} (hn : nd ≤ 3) (hg : g 22 = nI nd) : (¬ v < 0 ∧ ∃ k, k < nd ∧ v = nI k ∧ mM_isDocument n v g a = some 1) ∨ ((v < 0 ∨ ∃ k, nd ≤ k ∧ k < 2 ^ 31 ∧ v = nI k) ∧ mM_isDocument n v g a = some 0) := by
  by_cases h0 : v < 0
  · right; exact ⟨.inl h0, by rw [mM_isDocument, if_pos h0]⟩
  obtain ⟨k, hk, rfl⟩ := nI_of h0
  by_cases h1 : k < nd
  · left
    refine ⟨h0, k, h1, rfl, ?_⟩
    rw [mM_isDocument, if_neg h0, hg, if_neg (nI_ge h1 (by omega))]
  · right
    refine ⟨.inr ⟨k, by omega, hk, rfl⟩, ?_⟩
    rw [mM_isDocument, if_neg h0, hg, if_pos (nI_le (by omega) hk)]
theorem L_doc (h : Inv gE gJ gV aV gN aN gS gZ aZ dP gQ dO g a) (v w : Int32) : L_document Inv gE gJ gV aV gN aN gS gZ aZ dP gQ dO g a v w := by
  have h9 := h
  obtain ⟨-, -, ⟨nd, hd, d1, d2, -, h3⟩, -⟩ := h
  rcases isD (n := 100) (v := v) (g := va_up g 45 0) (a := a) hd d2 with ⟨h0, k, hk, rfl, hm⟩ | ⟨hv, hm⟩
  · obtain ⟨⟨T, t1, t2, t3, t4, t5⟩, hver, ⟨N, n1, n2, n3, n4⟩⟩ := h3 k hk
    by_cases q0 : w = 0
    · left
      refine ⟨100, 100, a 12 k, va_up g 45 0, ?_, ?_, rfl, Inv_c h9 0⟩
      · simp (disch := omega) only [mE_document, d1, q0, hver, le_L, L_le, lt_L, L_lt, eq_L, L_eq, ad_L, nI_add, nI_sb, sb_L, mu_L, nI_leI, nI_ltI, nI_eq, nI_clamp, inb_T, nI_cl0, lt, jn_b, bd_b, bd_s, bd_i, jn_l, jn_r, jn_i, gd_T, va_ap, upd_ap, reduceIte, Nat.reduceEqDiff, Nat.reduceAdd, Nat.reduceSub, Nat.reduceMul, Nat.reduceLT, Nat.reduceLeDiff, reduceCtorEq, Int32.reduceLT, Int32.reduceLE, one_ne_zero, zero_ne_one, not_true_eq_false, not_false_eq_true, true_and, and_true, if_true, if_false, ite_self, Nat.add_zero, Nat.zero_add]
        rw [if_neg (by omega), if_pos hk]
      · simp (disch := omega) only [mM_document, hm, q0, le_L, L_le, lt_L, L_lt, eq_L, L_eq, ad_L, nI_add, nI_sb, sb_L, mu_L, nI_leI, nI_ltI, nI_eq, nI_clamp, inb_T, nI_cl0, lt, jn_b, bd_b, bd_s, bd_i, jn_l, jn_r, jn_i, gd_T, va_ap, upd_ap, reduceIte, Nat.reduceEqDiff, Nat.reduceAdd, Nat.reduceSub, Nat.reduceMul, Nat.reduceLT, Nat.reduceLeDiff, reduceCtorEq, Int32.reduceLT, Int32.reduceLE, one_ne_zero, zero_ne_one, not_true_eq_false, not_false_eq_true, true_and, and_true, if_true, if_false, ite_self, Nat.add_zero, Nat.zero_add]
    by_cases q1 : w = 1
    · left
      refine ⟨100, 100, nI N, va_up g 45 0, ?_, ?_, rfl, Inv_c h9 0⟩
      · simp (disch := omega) only [mE_document, d1, q1, n2, le_L, L_le, lt_L, L_lt, eq_L, L_eq, ad_L, nI_add, nI_sb, sb_L, mu_L, nI_leI, nI_ltI, nI_eq, nI_clamp, inb_T, nI_cl0, lt, jn_b, bd_b, bd_s, bd_i, jn_l, jn_r, jn_i, gd_T, va_ap, upd_ap, reduceIte, Nat.reduceEqDiff, Nat.reduceAdd, Nat.reduceSub, Nat.reduceMul, Nat.reduceLT, Nat.reduceLeDiff, reduceCtorEq, Int32.reduceLT, Int32.reduceLE, one_ne_zero, zero_ne_one, not_true_eq_false, not_false_eq_true, true_and, and_true, if_true, if_false, ite_self, Nat.add_zero, Nat.zero_add]
        rw [if_neg (by omega), if_pos hk]
      · simp (disch := omega) only [mM_document, hm, q1, n3, le_L, L_le, lt_L, L_lt, eq_L, L_eq, ad_L, nI_add, nI_sb, sb_L, mu_L, nI_leI, nI_ltI, nI_eq, nI_clamp, inb_T, nI_cl0, lt, jn_b, bd_b, bd_s, bd_i, jn_l, jn_r, jn_i, gd_T, va_ap, upd_ap, reduceIte, Nat.reduceEqDiff, Nat.reduceAdd, Nat.reduceSub, Nat.reduceMul, Nat.reduceLT, Nat.reduceLeDiff, reduceCtorEq, Int32.reduceLT, Int32.reduceLE, one_ne_zero, zero_ne_one, not_true_eq_false, not_false_eq_true, true_and, and_true, if_true, if_false, ite_self, Nat.add_zero, Nat.zero_add]
    by_cases q2 : w = 2
    · left
      refine ⟨100, 100, nI T, va_up g 45 0, ?_, ?_, rfl, Inv_c h9 0⟩
      · simp (disch := omega) only [mE_document, d1, q2, t3, le_L, L_le, lt_L, L_lt, eq_L, L_eq, ad_L, nI_add, nI_sb, sb_L, mu_L, nI_leI, nI_ltI, nI_eq, nI_clamp, inb_T, nI_cl0, lt, jn_b, bd_b, bd_s, bd_i, jn_l, jn_r, jn_i, gd_T, va_ap, upd_ap, reduceIte, Nat.reduceEqDiff, Nat.reduceAdd, Nat.reduceSub, Nat.reduceMul, Nat.reduceLT, Nat.reduceLeDiff, reduceCtorEq, Int32.reduceLT, Int32.reduceLE, one_ne_zero, zero_ne_one, not_true_eq_false, not_false_eq_true, true_and, and_true, if_true, if_false, ite_self, Nat.add_zero, Nat.zero_add]
        rw [if_neg (by omega), if_pos hk, if_neg (by decide), if_neg (by decide)]
      · simp (disch := omega) only [mM_document, hm, q2, t4, le_L, L_le, lt_L, L_lt, eq_L, L_eq, ad_L, nI_add, nI_sb, sb_L, mu_L, nI_leI, nI_ltI, nI_eq, nI_clamp, inb_T, nI_cl0, lt, jn_b, bd_b, bd_s, bd_i, jn_l, jn_r, jn_i, gd_T, va_ap, upd_ap, reduceIte, Nat.reduceEqDiff, Nat.reduceAdd, Nat.reduceSub, Nat.reduceMul, Nat.reduceLT, Nat.reduceLeDiff, reduceCtorEq, Int32.reduceLT, Int32.reduceLE, one_ne_zero, zero_ne_one, not_true_eq_false, not_false_eq_true, true_and, and_true, if_true, if_false, ite_self, Nat.add_zero, Nat.zero_add]
        rw [if_neg (by decide), if_neg (by decide)]
    by_cases q3 : w = 3
    · left
      refine ⟨100, 100, nI (1 + cnl (a 14) (60 * k) N), va_up g 45 0, ?_, ?_, rfl, Inv_c h9 0⟩
      · rw [← cnl_c (f := (dP k).2.2.2.2 0) N 0 (60 * k) (fun i hi => by rw [Nat.zero_add]; exact (n4 i hi).1)]
        simp (disch := omega) only [mE_document, d1, q3, lines_T n1 n2 (show 60 < 100 by omega), le_L, L_le, lt_L, L_lt, eq_L, L_eq, ad_L, nI_add, nI_sb, sb_L, mu_L, nI_leI, nI_ltI, nI_eq, nI_clamp, inb_T, nI_cl0, lt, jn_b, bd_b, bd_s, bd_i, jn_l, jn_r, jn_i, gd_T, va_ap, upd_ap, reduceIte, Nat.reduceEqDiff, Nat.reduceAdd, Nat.reduceSub, Nat.reduceMul, Nat.reduceLT, Nat.reduceLeDiff, reduceCtorEq, Int32.reduceLT, Int32.reduceLE, one_ne_zero, zero_ne_one, not_true_eq_false, not_false_eq_true, true_and, and_true, if_true, if_false, ite_self, Nat.add_zero, Nat.zero_add]
        rw [if_neg (by omega), if_pos hk, if_neg (by decide), if_neg (by decide), if_neg (by decide)]
      · simp (disch := omega) only [mM_document, hm, q3, n3, le_L, L_le, lt_L, L_lt, eq_L, L_eq, ad_L, nI_add, nI_sb, sb_L, mu_L, nI_leI, nI_ltI, nI_eq, nI_clamp, inb_T, nI_cl0, lt, jn_b, bd_b, bd_s, bd_i, jn_l, jn_r, jn_i, gd_T, va_ap, upd_ap, reduceIte, Nat.reduceEqDiff, Nat.reduceAdd, Nat.reduceSub, Nat.reduceMul, Nat.reduceLT, Nat.reduceLeDiff, reduceCtorEq, Int32.reduceLT, Int32.reduceLE, one_ne_zero, zero_ne_one, not_true_eq_false, not_false_eq_true, true_and, and_true, if_true, if_false, ite_self, Nat.add_zero, Nat.zero_add]
        rw [if_neg (by decide), if_neg (by decide), if_neg (by decide), lines_M (by omega) (by omega) (by omega)]
        rfl
    right; right
    refine ⟨?_, 100, 0, va_up g 45 2, ?_, rfl, Inv_c h9 2⟩
    · simp (disch := omega) only [mE_document_a, d1, if_neg q0, if_neg q1, if_neg q2, if_neg q3, le_L, L_le, lt_L, L_lt, eq_L, L_eq, ad_L, nI_add, nI_sb, sb_L, mu_L, nI_leI, nI_ltI, nI_eq, nI_clamp, inb_T, nI_cl0, lt, jn_b, bd_b, bd_s, bd_i, jn_l, jn_r, jn_i, gd_T, va_ap, upd_ap, reduceIte, Nat.reduceEqDiff, Nat.reduceAdd, Nat.reduceSub, Nat.reduceMul, Nat.reduceLT, Nat.reduceLeDiff, reduceCtorEq, Int32.reduceLT, Int32.reduceLE, one_ne_zero, zero_ne_one, not_true_eq_false, not_false_eq_true, true_and, and_true, if_true, if_false, ite_self, Nat.add_zero, Nat.zero_add]
      rw [if_neg (by omega), if_pos hk]
    · simp (disch := omega) only [mM_document, hm, if_neg q0, if_neg q1, if_neg q2, if_neg q3, fail_0, up_up, le_L, L_le, lt_L, L_lt, eq_L, L_eq, ad_L, nI_add, nI_sb, sb_L, mu_L, nI_leI, nI_ltI, nI_eq, nI_clamp, inb_T, nI_cl0, lt, jn_b, bd_b, bd_s, bd_i, jn_l, jn_r, jn_i, gd_T, va_ap, upd_ap, reduceIte, Nat.reduceEqDiff, Nat.reduceAdd, Nat.reduceSub, Nat.reduceMul, Nat.reduceLT, Nat.reduceLeDiff, reduceCtorEq, Int32.reduceLT, Int32.reduceLE, one_ne_zero, zero_ne_one, not_true_eq_false, not_false_eq_true, true_and, and_true, if_true, if_false, ite_self, Nat.add_zero, Nat.zero_add]
  · right; left
    refine ⟨?_, 100, 0, va_up g 45 1, ?_, rfl, Inv_c h9 1⟩
    · rcases hv with h0 | ⟨k, k1, k2, rfl⟩
      · rw [mE_document_i, if_pos h0]
      · rw [mE_document_i, d1, if_neg (nI_pos k2), if_neg (nI_nlt k1 k2)]
    · simp (disch := omega) only [mM_document, hm, fail_0, up_up, le_L, L_le, lt_L, L_lt, eq_L, L_eq, ad_L, nI_add, nI_sb, sb_L, mu_L, nI_leI, nI_ltI, nI_eq, nI_clamp, inb_T, nI_cl0, lt, jn_b, bd_b, bd_s, bd_i, jn_l, jn_r, jn_i, gd_T, va_ap, upd_ap, reduceIte, Nat.reduceEqDiff, Nat.reduceAdd, Nat.reduceSub, Nat.reduceMul, Nat.reduceLT, Nat.reduceLeDiff, reduceCtorEq, Int32.reduceLT, Int32.reduceLE, one_ne_zero, zero_ne_one, not_true_eq_false, not_false_eq_true, true_and, and_true, if_true, if_false, ite_self, Nat.add_zero, Nat.zero_add]
theorem L_txt (h : Inv gE gJ gV aV gN aN gS gZ aZ dP gQ dO g a) (v w : Int32) : L_text Inv gE gJ gV aV gN aN gS gZ aZ dP gQ dO g a v w := by
  have h9 := h
  obtain ⟨-, -, ⟨nd, hd, d1, d2, -, h3⟩, -⟩ := h
  rcases isD (n := 100) (v := v) (g := va_up g 45 0) (a := a) hd d2 with ⟨h0, k, hk, rfl, hm⟩ | ⟨hv, hm⟩
  · obtain ⟨-, -, ⟨N, n1, n2, n3, n4⟩⟩ := h3 k hk
    by_cases q0 : w < 0
    · right
      refine ⟨?_, 100, 0, va_up g 45 1, ?_, rfl, Inv_c h9 1⟩
      · simp (disch := omega) only [mE_text_i, d1, if_pos q0, ite_self, le_L, L_le, lt_L, L_lt, eq_L, L_eq, ad_L, nI_add, nI_sb, sb_L, mu_L, nI_leI, nI_ltI, nI_eq, nI_clamp, inb_T, nI_cl0, lt, jn_b, bd_b, bd_s, bd_i, jn_l, jn_r, jn_i, gd_T, va_ap, upd_ap, reduceIte, Nat.reduceEqDiff, Nat.reduceAdd, Nat.reduceSub, Nat.reduceMul, Nat.reduceLT, Nat.reduceLeDiff, reduceCtorEq, Int32.reduceLT, Int32.reduceLE, one_ne_zero, zero_ne_one, not_true_eq_false, not_false_eq_true, true_and, and_true, if_true, if_false, ite_self, Nat.add_zero, Nat.zero_add]
        try rw [if_neg (by omega)]
      · simp (disch := omega) only [mM_text, hm, if_pos q0, fail_0, up_up, le_L, L_le, lt_L, L_lt, eq_L, L_eq, ad_L, nI_add, nI_sb, sb_L, mu_L, nI_leI, nI_ltI, nI_eq, nI_clamp, inb_T, nI_cl0, lt, jn_b, bd_b, bd_s, bd_i, jn_l, jn_r, jn_i, gd_T, va_ap, upd_ap, reduceIte, Nat.reduceEqDiff, Nat.reduceAdd, Nat.reduceSub, Nat.reduceMul, Nat.reduceLT, Nat.reduceLeDiff, reduceCtorEq, Int32.reduceLT, Int32.reduceLE, one_ne_zero, zero_ne_one, not_true_eq_false, not_false_eq_true, true_and, and_true, if_true, if_false, ite_self, Nat.add_zero, Nat.zero_add]
        rfl
    obtain ⟨i, hi, rfl⟩ := nI_of q0
    by_cases q1 : i < N
    · left
      obtain ⟨c1, c2⟩ := n4 i q1
      obtain ⟨e1, e2⟩ := chr_k c2
      rw [c1] at e1 e2
      refine ⟨100, 100, a 14 (60 * k + i), va_up g 45 0, ?_, ?_, rfl, Inv_c h9 0⟩
      · simp (disch := omega) only [mE_text, d1, n2, c1, e2, le_L, L_le, lt_L, L_lt, eq_L, L_eq, ad_L, nI_add, nI_sb, sb_L, mu_L, nI_leI, nI_ltI, nI_eq, nI_clamp, inb_T, nI_cl0, lt, jn_b, bd_b, bd_s, bd_i, jn_l, jn_r, jn_i, gd_T, va_ap, upd_ap, reduceIte, Nat.reduceEqDiff, Nat.reduceAdd, Nat.reduceSub, Nat.reduceMul, Nat.reduceLT, Nat.reduceLeDiff, reduceCtorEq, Int32.reduceLT, Int32.reduceLE, one_ne_zero, zero_ne_one, not_true_eq_false, not_false_eq_true, true_and, and_true, if_true, if_false, ite_self, Nat.add_zero, Nat.zero_add]
        rw [if_neg (by omega), if_neg (by omega), if_neg (by omega), if_pos q1]
      · simp (disch := omega) only [mM_text, hm, n3, e1, e2, le_L, L_le, lt_L, L_lt, eq_L, L_eq, ad_L, nI_add, nI_sb, sb_L, mu_L, nI_leI, nI_ltI, nI_eq, nI_clamp, inb_T, nI_cl0, lt, jn_b, bd_b, bd_s, bd_i, jn_l, jn_r, jn_i, gd_T, va_ap, upd_ap, reduceIte, Nat.reduceEqDiff, Nat.reduceAdd, Nat.reduceSub, Nat.reduceMul, Nat.reduceLT, Nat.reduceLeDiff, reduceCtorEq, Int32.reduceLT, Int32.reduceLE, one_ne_zero, zero_ne_one, not_true_eq_false, not_false_eq_true, true_and, and_true, if_true, if_false, ite_self, Nat.add_zero, Nat.zero_add]
        rw [if_neg (by omega), if_neg (by omega)]
    · right
      refine ⟨?_, 100, 0, va_up g 45 1, ?_, rfl, Inv_c h9 1⟩
      · simp (disch := omega) only [mE_text_i, d1, n2, le_L, L_le, lt_L, L_lt, eq_L, L_eq, ad_L, nI_add, nI_sb, sb_L, mu_L, nI_leI, nI_ltI, nI_eq, nI_clamp, inb_T, nI_cl0, lt, jn_b, bd_b, bd_s, bd_i, jn_l, jn_r, jn_i, gd_T, va_ap, upd_ap, reduceIte, Nat.reduceEqDiff, Nat.reduceAdd, Nat.reduceSub, Nat.reduceMul, Nat.reduceLT, Nat.reduceLeDiff, reduceCtorEq, Int32.reduceLT, Int32.reduceLE, one_ne_zero, zero_ne_one, not_true_eq_false, not_false_eq_true, true_and, and_true, if_true, if_false, ite_self, Nat.add_zero, Nat.zero_add]
        rw [if_neg (by omega), if_neg (by omega), if_neg (by omega), if_neg q1]
      · simp (disch := omega) only [mM_text, hm, n3, fail_0, up_up, le_L, L_le, lt_L, L_lt, eq_L, L_eq, ad_L, nI_add, nI_sb, sb_L, mu_L, nI_leI, nI_ltI, nI_eq, nI_clamp, inb_T, nI_cl0, lt, jn_b, bd_b, bd_s, bd_i, jn_l, jn_r, jn_i, gd_T, va_ap, upd_ap, reduceIte, Nat.reduceEqDiff, Nat.reduceAdd, Nat.reduceSub, Nat.reduceMul, Nat.reduceLT, Nat.reduceLeDiff, reduceCtorEq, Int32.reduceLT, Int32.reduceLE, one_ne_zero, zero_ne_one, not_true_eq_false, not_false_eq_true, true_and, and_true, if_true, if_false, ite_self, Nat.add_zero, Nat.zero_add]
        rw [if_neg (by omega), if_pos (by omega)]
        rfl
  · right
    refine ⟨?_, 100, 0, va_up g 45 1, ?_, rfl, Inv_c h9 1⟩
    · rcases hv with h0 | ⟨k, k1, k2, rfl⟩
      · rw [mE_text_i, if_pos h0]
      · rw [mE_text_i, d1, if_neg (nI_pos k2), if_pos (nI_le k1 k2)]
    · simp (disch := omega) only [mM_text, hm, fail_0, up_up, le_L, L_le, lt_L, L_lt, eq_L, L_eq, ad_L, nI_add, nI_sb, sb_L, mu_L, nI_leI, nI_ltI, nI_eq, nI_clamp, inb_T, nI_cl0, lt, jn_b, bd_b, bd_s, bd_i, jn_l, jn_r, jn_i, gd_T, va_ap, upd_ap, reduceIte, Nat.reduceEqDiff, Nat.reduceAdd, Nat.reduceSub, Nat.reduceMul, Nat.reduceLT, Nat.reduceLeDiff, reduceCtorEq, Int32.reduceLT, Int32.reduceLE, one_ne_zero, zero_ne_one, not_true_eq_false, not_false_eq_true, true_and, and_true, if_true, if_false, ite_self, Nat.add_zero, Nat.zero_add]
      rfl
theorem L_nam (h : Inv gE gJ gV aV gN aN gS gZ aZ dP gQ dO g a) (v w : Int32) : L_name Inv gE gJ gV aV gN aN gS gZ aZ dP gQ dO g a v w := by
  have h9 := h
  obtain ⟨-, -, ⟨nd, hd, d1, d2, -, h3⟩, -⟩ := h
  rcases isD (n := 100) (v := v) (g := va_up g 45 0) (a := a) hd d2 with ⟨h0, k, hk, rfl, hm⟩ | ⟨hv, hm⟩
  · obtain ⟨⟨N, n0, n1, n2, n3, n4⟩, -, -⟩ := h3 k hk
    by_cases q0 : w < 0
    · right
      refine ⟨?_, 100, 0, va_up g 45 1, ?_, rfl, Inv_c h9 1⟩
      · simp (disch := omega) only [mE_name_i, d1, if_pos q0, ite_self, le_L, L_le, lt_L, L_lt, eq_L, L_eq, ad_L, nI_add, nI_sb, sb_L, mu_L, nI_leI, nI_ltI, nI_eq, nI_clamp, inb_T, nI_cl0, lt, jn_b, bd_b, bd_s, bd_i, jn_l, jn_r, jn_i, gd_T, va_ap, upd_ap, reduceIte, Nat.reduceEqDiff, Nat.reduceAdd, Nat.reduceSub, Nat.reduceMul, Nat.reduceLT, Nat.reduceLeDiff, reduceCtorEq, Int32.reduceLT, Int32.reduceLE, one_ne_zero, zero_ne_one, not_true_eq_false, not_false_eq_true, true_and, and_true, if_true, if_false, ite_self, Nat.add_zero, Nat.zero_add]
        try rw [if_neg (by omega)]
      · simp (disch := omega) only [mM_name, hm, if_pos q0, fail_0, up_up, le_L, L_le, lt_L, L_lt, eq_L, L_eq, ad_L, nI_add, nI_sb, sb_L, mu_L, nI_leI, nI_ltI, nI_eq, nI_clamp, inb_T, nI_cl0, lt, jn_b, bd_b, bd_s, bd_i, jn_l, jn_r, jn_i, gd_T, va_ap, upd_ap, reduceIte, Nat.reduceEqDiff, Nat.reduceAdd, Nat.reduceSub, Nat.reduceMul, Nat.reduceLT, Nat.reduceLeDiff, reduceCtorEq, Int32.reduceLT, Int32.reduceLE, one_ne_zero, zero_ne_one, not_true_eq_false, not_false_eq_true, true_and, and_true, if_true, if_false, ite_self, Nat.add_zero, Nat.zero_add]
        rfl
    obtain ⟨i, hi, rfl⟩ := nI_of q0
    by_cases q1 : i < N
    · left
      obtain ⟨c1, c2⟩ := n4 i q1
      obtain ⟨e1, e2⟩ := chr_k c2
      rw [c1] at e1 e2
      refine ⟨100, 100, a 11 (4 * k + i), va_up g 45 0, ?_, ?_, rfl, Inv_c h9 0⟩
      · simp (disch := omega) only [mE_name, d1, n2, c1, e2, le_L, L_le, lt_L, L_lt, eq_L, L_eq, ad_L, nI_add, nI_sb, sb_L, mu_L, nI_leI, nI_ltI, nI_eq, nI_clamp, inb_T, nI_cl0, lt, jn_b, bd_b, bd_s, bd_i, jn_l, jn_r, jn_i, gd_T, va_ap, upd_ap, reduceIte, Nat.reduceEqDiff, Nat.reduceAdd, Nat.reduceSub, Nat.reduceMul, Nat.reduceLT, Nat.reduceLeDiff, reduceCtorEq, Int32.reduceLT, Int32.reduceLE, one_ne_zero, zero_ne_one, not_true_eq_false, not_false_eq_true, true_and, and_true, if_true, if_false, ite_self, Nat.add_zero, Nat.zero_add]
        rw [if_neg (by omega), if_neg (by omega), if_neg (by omega), if_pos q1]
      · simp (disch := omega) only [mM_name, hm, n3, e1, e2, le_L, L_le, lt_L, L_lt, eq_L, L_eq, ad_L, nI_add, nI_sb, sb_L, mu_L, nI_leI, nI_ltI, nI_eq, nI_clamp, inb_T, nI_cl0, lt, jn_b, bd_b, bd_s, bd_i, jn_l, jn_r, jn_i, gd_T, va_ap, upd_ap, reduceIte, Nat.reduceEqDiff, Nat.reduceAdd, Nat.reduceSub, Nat.reduceMul, Nat.reduceLT, Nat.reduceLeDiff, reduceCtorEq, Int32.reduceLT, Int32.reduceLE, one_ne_zero, zero_ne_one, not_true_eq_false, not_false_eq_true, true_and, and_true, if_true, if_false, ite_self, Nat.add_zero, Nat.zero_add]
        rw [if_neg (by omega), if_neg (by omega)]
    · right
      refine ⟨?_, 100, 0, va_up g 45 1, ?_, rfl, Inv_c h9 1⟩
      · simp (disch := omega) only [mE_name_i, d1, n2, le_L, L_le, lt_L, L_lt, eq_L, L_eq, ad_L, nI_add, nI_sb, sb_L, mu_L, nI_leI, nI_ltI, nI_eq, nI_clamp, inb_T, nI_cl0, lt, jn_b, bd_b, bd_s, bd_i, jn_l, jn_r, jn_i, gd_T, va_ap, upd_ap, reduceIte, Nat.reduceEqDiff, Nat.reduceAdd, Nat.reduceSub, Nat.reduceMul, Nat.reduceLT, Nat.reduceLeDiff, reduceCtorEq, Int32.reduceLT, Int32.reduceLE, one_ne_zero, zero_ne_one, not_true_eq_false, not_false_eq_true, true_and, and_true, if_true, if_false, ite_self, Nat.add_zero, Nat.zero_add]
        rw [if_neg (by omega), if_neg (by omega), if_neg (by omega), if_neg q1]
      · simp (disch := omega) only [mM_name, hm, n3, fail_0, up_up, le_L, L_le, lt_L, L_lt, eq_L, L_eq, ad_L, nI_add, nI_sb, sb_L, mu_L, nI_leI, nI_ltI, nI_eq, nI_clamp, inb_T, nI_cl0, lt, jn_b, bd_b, bd_s, bd_i, jn_l, jn_r, jn_i, gd_T, va_ap, upd_ap, reduceIte, Nat.reduceEqDiff, Nat.reduceAdd, Nat.reduceSub, Nat.reduceMul, Nat.reduceLT, Nat.reduceLeDiff, reduceCtorEq, Int32.reduceLT, Int32.reduceLE, one_ne_zero, zero_ne_one, not_true_eq_false, not_false_eq_true, true_and, and_true, if_true, if_false, ite_self, Nat.add_zero, Nat.zero_add]
        rw [if_neg (by omega), if_pos (by omega)]
        rfl
  · right
    refine ⟨?_, 100, 0, va_up g 45 1, ?_, rfl, Inv_c h9 1⟩
    · rcases hv with h0 | ⟨k, k1, k2, rfl⟩
      · rw [mE_name_i, if_pos h0]
      · rw [mE_name_i, d1, if_neg (nI_pos k2), if_pos (nI_le k1 k2)]
    · simp (disch := omega) only [mM_name, hm, fail_0, up_up, le_L, L_le, lt_L, L_lt, eq_L, L_eq, ad_L, nI_add, nI_sb, sb_L, mu_L, nI_leI, nI_ltI, nI_eq, nI_clamp, inb_T, nI_cl0, lt, jn_b, bd_b, bd_s, bd_i, jn_l, jn_r, jn_i, gd_T, va_ap, upd_ap, reduceIte, Nat.reduceEqDiff, Nat.reduceAdd, Nat.reduceSub, Nat.reduceMul, Nat.reduceLT, Nat.reduceLeDiff, reduceCtorEq, Int32.reduceLT, Int32.reduceLE, one_ne_zero, zero_ne_one, not_true_eq_false, not_false_eq_true, true_and, and_true, if_true, if_false, ite_self, Nat.add_zero, Nat.zero_add]
      rfl
theorem L_pla (h : Inv gE gJ gV aV gN aN gS gZ aZ dP gQ dO g a) (v w u : Int32) : L_place Inv gE gJ gV aV gN aN gS gZ aZ dP gQ dO g a v w u := by
  have h9 := h
  obtain ⟨-, -, ⟨nd, hd, d1, d2, -, h3⟩, -⟩ := h
  rcases isD (n := 200) (v := v) (g := va_up g 45 0) (a := a) hd d2 with ⟨h0, k, hk, rfl, hm⟩ | ⟨hv, hm⟩
  · obtain ⟨-, -, ⟨N, n1, n2, n3, n4⟩⟩ := h3 k hk
    left
    obtain ⟨q, hq, e1, e2⟩ := place_2 (v := w) (u := u) (n := 200) (np := 180) n1 n2 (by omega) (by omega) (fun i hi => (n4 i hi).1) (by omega)
    refine ⟨200, 200, nI q, va_up g 45 0, ?_, ?_, rfl, Inv_c h9 0⟩
    · simp (disch := omega) only [mE_place, d1, e1, le_L, L_le, lt_L, L_lt, eq_L, L_eq, ad_L, nI_add, nI_sb, sb_L, mu_L, nI_leI, nI_ltI, nI_eq, nI_clamp, inb_T, nI_cl0, lt, jn_b, bd_b, bd_s, bd_i, jn_l, jn_r, jn_i, gd_T, va_ap, upd_ap, reduceIte, Nat.reduceEqDiff, Nat.reduceAdd, Nat.reduceSub, Nat.reduceMul, Nat.reduceLT, Nat.reduceLeDiff, reduceCtorEq, Int32.reduceLT, Int32.reduceLE, one_ne_zero, zero_ne_one, not_true_eq_false, not_false_eq_true, true_and, and_true, if_true, if_false, ite_self, Nat.add_zero, Nat.zero_add]
      rw [if_neg (by omega), if_pos hk]
    · simp (disch := omega) only [mM_place, hm, n3, e2, le_L, L_le, lt_L, L_lt, eq_L, L_eq, ad_L, nI_add, nI_sb, sb_L, mu_L, nI_leI, nI_ltI, nI_eq, nI_clamp, inb_T, nI_cl0, lt, jn_b, bd_b, bd_s, bd_i, jn_l, jn_r, jn_i, gd_T, va_ap, upd_ap, reduceIte, Nat.reduceEqDiff, Nat.reduceAdd, Nat.reduceSub, Nat.reduceMul, Nat.reduceLT, Nat.reduceLeDiff, reduceCtorEq, Int32.reduceLT, Int32.reduceLE, one_ne_zero, zero_ne_one, not_true_eq_false, not_false_eq_true, true_and, and_true, if_true, if_false, ite_self, Nat.add_zero, Nat.zero_add]
  · right
    refine ⟨?_, 200, 0, va_up g 45 1, ?_, rfl, Inv_c h9 1⟩
    · rcases hv with h0 | ⟨k, k1, k2, rfl⟩
      · rw [mE_place_i, if_pos h0]
      · rw [mE_place_i, d1, if_neg (nI_pos k2), if_neg (nI_nlt k1 k2)]
    · simp (disch := omega) only [mM_place, hm, fail_0, up_up, le_L, L_le, lt_L, L_lt, eq_L, L_eq, ad_L, nI_add, nI_sb, sb_L, mu_L, nI_leI, nI_ltI, nI_eq, nI_clamp, inb_T, nI_cl0, lt, jn_b, bd_b, bd_s, bd_i, jn_l, jn_r, jn_i, gd_T, va_ap, upd_ap, reduceIte, Nat.reduceEqDiff, Nat.reduceAdd, Nat.reduceSub, Nat.reduceMul, Nat.reduceLT, Nat.reduceLeDiff, reduceCtorEq, Int32.reduceLT, Int32.reduceLE, one_ne_zero, zero_ne_one, not_true_eq_false, not_false_eq_true, true_and, and_true, if_true, if_false, ite_self, Nat.add_zero, Nat.zero_add]
end LQ
