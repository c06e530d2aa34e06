/-! numbers -/
def dgt (c : Int32) : Prop := ¬ c < 48 ∧ ¬ 57 < c
theorem dgt_v {c : Int32} (h : dgt c) : ∃ d : Nat, d ≤ 9 ∧ c = nI (48 + d) := by
  obtain ⟨k, hk, rfl⟩ := nI_of (x := c) (fun h9 => h.1 (Int32.lt_trans h9 (by decide)))
  have h1 := h.1
  have h2 := h.2
  rw [lt_L hk (by decide)] at h1
  rw [L_lt hk (by decide)] at h2
  exact ⟨k - 48, by omega, by congr 1; omega⟩
theorem dg_E {n : Nat} {c : Int32} (h : dgt c) : mE_isDigit n c = some 1 := by rw [mE_isDigit, if_neg h.1, if_neg h.2]
theorem dg_M {n : Nat} {c : Int32} (h : dgt c) : mM_isDigit n c = some 1 := by rw [mM_isDigit, if_neg h.1, if_neg h.2]
theorem dg_E0 {n : Nat} {c : Int32} (h : ¬ dgt c) : mE_isDigit n c = some 0 := by
  rw [mE_isDigit]
  by_cases h1 : c < 48
  · rw [if_pos h1]
  · rw [if_neg h1, if_pos (Classical.byContradiction fun h2 => h ⟨h1, h2⟩)]
theorem dg_M0 {n : Nat} {c : Int32} (h : ¬ dgt c) : mM_isDigit n c = some 0 := dg_E0 (n := n) h
theorem dg_0 : ¬ dgt 0 := fun h => h.1 (by decide)
noncomputable def rn (b : Nat → Int32) (N : Nat) : Nat → Nat → Nat
  | 0, _ => 0
  | m + 1, p => haveI := Classical.propDecidable (p < N ∧ dgt (b p)); if p < N ∧ dgt (b p) then 1 + rn b N m (p + 1) else 0
theorem rn_t {b : Nat → Int32} {N m p : Nat} (h : p < N ∧ dgt (b p)) : rn b N (m + 1) p = 1 + rn b N m (p + 1) := by
  simp only [rn, if_pos h]
theorem rn_f {b : Nat → Int32} {N m p : Nat} (h : ¬ (p < N ∧ dgt (b p))) : rn b N (m + 1) p = 0 := by
  simp only [rn, if_neg h]
theorem rn_le (b : Nat → Int32) (N : Nat) : ∀ m p, rn b N m p ≤ m := by
  intro m
  induction m with
  | zero => intro p; exact Nat.le_refl 0
  | succ m ih =>
    intro p
    by_cases h : p < N ∧ dgt (b p)
    · rw [rn_t h]; have := ih (p + 1); omega
    · rw [rn_f h]; omega
theorem rn_N (b : Nat → Int32) (N : Nat) : ∀ m p, p ≤ N → p + rn b N m p ≤ N := by
  intro m
  induction m with
  | zero => intro p h; exact h
  | succ m ih =>
    intro p hp
    by_cases h : p < N ∧ dgt (b p)
    · rw [rn_t h]; have := ih (p + 1) (by omega); omega
    · rw [rn_f h]; omega
theorem rn_s (b : Nat → Int32) (N : Nat) : ∀ m p, (rn b N m p < m → rn b N (m + 1) p = rn b N m p ∧ ¬ (p + rn b N m p < N ∧ dgt (b (p + rn b N m p)))) ∧ (rn b N m p = m → (p + m < N ∧ dgt (b (p + m)) → rn b N (m + 1) p = m + 1) ∧ (¬ (p + m < N ∧ dgt (b (p + m))) → rn b N (m + 1) p = m)) := by
  intro m
  induction m with
  | zero =>
    intro p
    refine ⟨(fun h => by omega), fun _ => ⟨fun h => ?_, fun h => ?_⟩⟩
    · rw [rn_t (p := p) h]; rfl
    · rw [rn_f (p := p) h]
  | succ m ih =>
    intro p
    by_cases h : p < N ∧ dgt (b p)
    · obtain ⟨i1, i2⟩ := ih (p + 1)
      rw [rn_t (m := m + 1) h, rn_t (m := m) h]
      refine ⟨fun h1 => ?_, fun h1 => ?_⟩
      · obtain ⟨j1, j2⟩ := i1 (by omega)
        rw [show p + (1 + rn b N m (p + 1)) = p + 1 + rn b N m (p + 1) by omega]
        exact ⟨by omega, j2⟩
      · obtain ⟨j1, j2⟩ := i2 (by omega)
        rw [show p + (m + 1) = p + 1 + m by omega]
        exact ⟨fun h2 => by rw [j1 h2]; omega, fun h2 => by rw [j2 h2]; omega⟩
    · rw [rn_f (m := m + 1) h, rn_f (m := m) h]
      exact ⟨fun _ => ⟨rfl, by rw [Nat.add_zero]; exact h⟩, fun h1 => by omega⟩
def dv (c : Int32) : Nat := c.toNatClampNeg - 48
def vv (b : Nat → Int32) : Nat → Nat → Nat → Nat
  | 0, _, A => A
  | k + 1, p, A => vv b k (p + 1) (10 * A + dv (b p))
theorem dv_le {c : Int32} (h : dgt c) : dv c ≤ 9 ∧ c = nI (48 + dv c) := by
  obtain ⟨d, h1, rfl⟩ := dgt_v h
  have e : dv (nI (48 + d)) = d := by unfold dv; rw [nI_clamp (by omega)]; omega
  rw [e]
  exact ⟨h1, rfl⟩
theorem vv_b {b : Nat → Int32} {N : Nat} : ∀ m p A, vv b (rn b N m p) p A < (A + 1) * 10 ^ m := by
  intro m
  induction m with
  | zero => intro p A; show A < (A + 1) * 10 ^ 0; omega
  | succ m ih =>
    intro p A
    have hp : 0 < 10 ^ m := Nat.pow_pos (by omega)
    have e : (A + 1) * 10 ^ (m + 1) = (10 * A + 10) * 10 ^ m := by rw [Nat.pow_succ, show 10 * A + 10 = (A + 1) * 10 by omega, Nat.mul_assoc, Nat.mul_comm 10]
    by_cases h : p < N ∧ dgt (b p)
    · rw [rn_t h, Nat.add_comm 1]
      have h1 := ih (p + 1) (10 * A + dv (b p))
      have h2 := (dv_le h.2).1
      have h3 : (10 * A + dv (b p) + 1) * 10 ^ m ≤ (10 * A + 10) * 10 ^ m := Nat.mul_le_mul_right _ (by omega)
      rw [e]
      exact Nat.lt_of_lt_of_le h1 h3
    · rw [rn_f h]
      show A < (A + 1) * 10 ^ (m + 1)
      rw [e]
      have : (10 * A + 10) * 1 ≤ (10 * A + 10) * 10 ^ m := Nat.mul_le_mul_left _ hp
      omega
def bV_num (n : Nat) (aV : aA) (q4 : Int32 × aG) : Int32 × aG → Option ((Int32 × aG) ⊕ ((Int32 × aG) ⊕ (Int32 × aG × aA))) := (fun q35 => if (q35.2 9) ≤ (q35.2 10) then (some (.inr (.inl (q35.1, q35.2)))) else (if ((q4.2 10) + 6) ≤ (q35.2 10) then (some (.inr (.inl (q35.1, q35.2)))) else (gd (inb (q35.2 10) 200) (lt (aV 8 (q35.2 10).toNatClampNeg) (fun x42 => bd (mE_isDigit n x42) (fun x43 => if x43 = 0 then (some (.inr (.inl (q35.1, q35.2)))) else (gd (inb (q35.2 10) 200) (lt (aV 8 (q35.2 10).toNatClampNeg) (fun x48 => lt (((q35.1 * 10) + (x48 - 48))) (fun x49 => lt (va_up q35.2 10 ((q35.2 10) + 1)) (fun g50 => some (.inl (x49, g50)))))))))))))
theorem numV_l {gV : aG} {aV : aA} {b : Nat → Int32} {N v u n s0 : Nat} {q4 : Int32 × aG} (hN : N ≤ 200) (hb : ∀ i, i < N → aV 8 i = b i) (hq : q4.2 10 = nI s0) (hs : s0 ≤ 200) : ∀ m p A k, p + m = s0 + 6 → p ≤ N → m < k → (A + 1) * 10 ^ m ≤ 10 ^ 6 → lp (bV_num n aV q4) k (nI A, cG gV N p v u) = some (.inl (nI (vv b (rn b N m p) p A), cG gV N (p + rn b N m p) v u)) := by
  intro m
  induction m with
  | zero =>
    intro p A k h1 h2 h3 h4
    refine lp_e ?_ h3
    by_cases h5 : N ≤ p
    · simp (disch := omega) only [bV_num, h5, rn, vv, rG_6, rG_8, rG_17, rG_19, rG_20, rG_21, rG_u8, rG_u17, rG_u19, rG_u20, rG_u21, rG_u21L, cG_9, cG_10, cG_11, cG_12, cG_u10, cG_u11, cG_u12, le_L, L_le, lt_L, L_lt, eq_L, L_eq, ad_L, nI_add, nI_sb, sb_L, mu_L, nI_leI, nI_ltI, nI_eq, nI_clamp, inb_T, nI_cl0, lt, jn_b, bd_b, bd_s, bd_i, jn_l, jn_r, jn_i, gd_T, va_ap, upd_ap, reduceIte, Nat.reduceEqDiff, Nat.reduceAdd, Nat.reduceSub, Nat.reduceMul, Nat.reduceLT, Nat.reduceLeDiff, reduceCtorEq, Int32.reduceLT, Int32.reduceLE, one_ne_zero, zero_ne_one, not_true_eq_false, not_false_eq_true, true_and, and_true, if_true, if_false, ite_self, Nat.add_zero, Nat.zero_add]
    · simp (disch := omega) only [bV_num, h5, hq, rn, vv, rG_6, rG_8, rG_17, rG_19, rG_20, rG_21, rG_u8, rG_u17, rG_u19, rG_u20, rG_u21, rG_u21L, cG_9, cG_10, cG_11, cG_12, cG_u10, cG_u11, cG_u12, le_L, L_le, lt_L, L_lt, eq_L, L_eq, ad_L, nI_add, nI_sb, sb_L, mu_L, nI_leI, nI_ltI, nI_eq, nI_clamp, inb_T, nI_cl0, lt, jn_b, bd_b, bd_s, bd_i, jn_l, jn_r, jn_i, gd_T, va_ap, upd_ap, reduceIte, Nat.reduceEqDiff, Nat.reduceAdd, Nat.reduceSub, Nat.reduceMul, Nat.reduceLT, Nat.reduceLeDiff, reduceCtorEq, Int32.reduceLT, Int32.reduceLE, one_ne_zero, zero_ne_one, not_true_eq_false, not_false_eq_true, true_and, and_true, if_true, if_false, ite_self, Nat.add_zero, Nat.zero_add]
      rw [if_pos (by omega)]
  | succ m ih =>
    intro p A k h1 h2 h3 h4
    have hm : 1 * (A + 1) ≤ 10 ^ (m + 1) * (A + 1) := Nat.mul_le_mul_right _ (Nat.pow_pos (by omega))
    rw [Nat.mul_comm (10 ^ (m + 1))] at hm
    by_cases h5 : N ≤ p
    · rw [rn_f (by omega)]
      refine lp_e ?_ (by omega)
      simp (disch := omega) only [bV_num, h5, vv, rG_6, rG_8, rG_17, rG_19, rG_20, rG_21, rG_u8, rG_u17, rG_u19, rG_u20, rG_u21, rG_u21L, cG_9, cG_10, cG_11, cG_12, cG_u10, cG_u11, cG_u12, le_L, L_le, lt_L, L_lt, eq_L, L_eq, ad_L, nI_add, nI_sb, sb_L, mu_L, nI_leI, nI_ltI, nI_eq, nI_clamp, inb_T, nI_cl0, lt, jn_b, bd_b, bd_s, bd_i, jn_l, jn_r, jn_i, gd_T, va_ap, upd_ap, reduceIte, Nat.reduceEqDiff, Nat.reduceAdd, Nat.reduceSub, Nat.reduceMul, Nat.reduceLT, Nat.reduceLeDiff, reduceCtorEq, Int32.reduceLT, Int32.reduceLE, one_ne_zero, zero_ne_one, not_true_eq_false, not_false_eq_true, true_and, and_true, if_true, if_false, ite_self, Nat.add_zero, Nat.zero_add]
    have hp := hb p (by omega)
    have h6 : ¬ s0 + 6 ≤ p := by omega
    by_cases h7 : dgt (b p)
    · rw [rn_t ⟨by omega, h7⟩]
      obtain ⟨d1, d2⟩ := dv_le h7
      refine (lp_s (y := (nI (10 * A + dv (b p)), cG gV N (p + 1) v u)) ?_ (by omega)).trans ((ih (p + 1) (10 * A + dv (b p)) (k - 1) (by omega) (by omega) (by omega) ?_).trans ?_)
      · have e1 : b p - 48 = nI (dv (b p)) := by
          conv => lhs; rw [d2]
          rw [show (48 : Int32) = nI 48 from rfl, nI_sb (by omega)]; congr 1; omega
        have e2 : nI A * 10 + nI (dv (b p)) = nI (10 * A + dv (b p)) := by rw [show (10 : Int32) = nI 10 from rfl, nI_mu, nI_add, Nat.mul_comm]
        simp (disch := omega) only [bV_num, h5, h6, hq, hp, dg_E h7, e1, e2, rG_6, rG_8, rG_17, rG_19, rG_20, rG_21, rG_u8, rG_u17, rG_u19, rG_u20, rG_u21, rG_u21L, cG_9, cG_10, cG_11, cG_12, cG_u10, cG_u11, cG_u12, le_L, L_le, lt_L, L_lt, eq_L, L_eq, ad_L, nI_add, nI_sb, sb_L, mu_L, nI_leI, nI_ltI, nI_eq, nI_clamp, inb_T, nI_cl0, lt, jn_b, bd_b, bd_s, bd_i, jn_l, jn_r, jn_i, gd_T, va_ap, upd_ap, reduceIte, Nat.reduceEqDiff, Nat.reduceAdd, Nat.reduceSub, Nat.reduceMul, Nat.reduceLT, Nat.reduceLeDiff, reduceCtorEq, Int32.reduceLT, Int32.reduceLE, one_ne_zero, zero_ne_one, not_true_eq_false, not_false_eq_true, true_and, and_true, if_true, if_false, ite_self, Nat.add_zero, Nat.zero_add]
      · have h8 : (10 * A + dv (b p) + 1) * 10 ^ m ≤ (10 * A + 10) * 10 ^ m := Nat.mul_le_mul_right _ (by omega)
        have e : (A + 1) * 10 ^ (m + 1) = (10 * A + 10) * 10 ^ m := by rw [Nat.pow_succ, show 10 * A + 10 = (A + 1) * 10 by omega, Nat.mul_assoc, Nat.mul_comm 10]
        omega
      · rw [Nat.add_comm 1, show p + 1 + rn b N m (p + 1) = p + (rn b N m (p + 1) + 1) by omega]; rfl
    · rw [rn_f (fun h => h7 h.2)]
      refine lp_e ?_ (by omega)
      simp (disch := omega) only [bV_num, h5, h6, hq, hp, dg_E0 h7, vv, rG_6, rG_8, rG_17, rG_19, rG_20, rG_21, rG_u8, rG_u17, rG_u19, rG_u20, rG_u21, rG_u21L, cG_9, cG_10, cG_11, cG_12, cG_u10, cG_u11, cG_u12, le_L, L_le, lt_L, L_lt, eq_L, L_eq, ad_L, nI_add, nI_sb, sb_L, mu_L, nI_leI, nI_ltI, nI_eq, nI_clamp, inb_T, nI_cl0, lt, jn_b, bd_b, bd_s, bd_i, jn_l, jn_r, jn_i, gd_T, va_ap, upd_ap, reduceIte, Nat.reduceEqDiff, Nat.reduceAdd, Nat.reduceSub, Nat.reduceMul, Nat.reduceLT, Nat.reduceLeDiff, reduceCtorEq, Int32.reduceLT, Int32.reduceLE, one_ne_zero, zero_ne_one, not_true_eq_false, not_false_eq_true, true_and, and_true, if_true, if_false, ite_self, Nat.add_zero, Nat.zero_add]
def bM_num (n : Nat) (a : aA) : Int32 × Int32 × aG → Option ((Int32 × Int32 × aG) ⊕ ((Int32 × Int32 × aG) ⊕ (Int32 × aG × aA))) := (fun q46 => bd (mM_peek n q46.2.2 a) (fun x51 => bd (mM_isDigit n x51) (fun x54 => if x54 = 0 then (some (.inr (.inl (q46.1, q46.2.1, q46.2.2)))) else (if 7 ≤ q46.2.1 then (some (.inr (.inl (q46.1, q46.2.1, q46.2.2)))) else (jn (α := Unit) (some (.inl ())) (fun _ => bd (mM_peek n q46.2.2 a) (fun x62 => lt ((((10 * q46.1) + x62) - 48)) (fun x64 => lt (va_up q46.2.2 20 ((q46.2.2 20) + 1)) (fun g65 => some (.inl (x64, (q46.2.1 + 1), g65)))))))))))
def bM_num0 (n : Nat) (a : aA) : Int32 × Int32 × aG → Option ((Int32 × Int32 × aG) ⊕ ((Int32 × Int32 × aG) ⊕ (Int32 × aG × aA))) := (fun q97 => bd (mM_peek n q97.2.2 a) (fun x102 => bd (mM_isDigit n x102) (fun x105 => if x105 = 0 then (some (.inr (.inl (q97.1, q97.2.1, q97.2.2)))) else (if 7 ≤ q97.2.1 then (some (.inr (.inl (q97.1, q97.2.1, q97.2.2)))) else (jn (α := Unit) (if q97.2.1 = 1 then (some (.inr (.inr (.inl (q97.1, q97.2.1, q97.2.2))))) else (some (.inl ()))) (fun _ => bd (mM_peek n q97.2.2 a) (fun x113 => lt ((((10 * q97.1) + x113) - 48)) (fun x115 => lt (va_up q97.2.2 20 ((q97.2.2 20) + 1)) (fun g116 => some (.inl (x115, (q97.2.1 + 1), g116)))))))))))
theorem numM_l {g : aG} {a : aA} {b : Nat → Int32} {N v u d e n : Nat} (hN : N ≤ 200) (hg : g 6 = nI N) (hb : ∀ i, i < N → a 0 i = b i) : ∀ m p A k c, c + m = 7 → p ≤ N → m < k → (A + 1) * 10 ^ m ≤ 10 ^ 7 → lp (bM_num n a) k (nI A, nI c, rG g p v u d e) = some (.inl (nI (vv b (rn b N m p) p A), nI (c + rn b N m p), rG g (p + rn b N m p) v u d e)) := by
  intro m
  induction m with
  | zero =>
    intro p A k c h1 h2 h3 h4
    have hc : c = 7 := by omega
    subst hc
    refine lp_e ?_ h3
    by_cases h5 : N ≤ p
    · simp (disch := omega) only [bM_num, pkM0 (a := a) (n := n) (show p < 1000 by omega) hg h5, dg_M0 dg_0, rn, vv, rG_6, rG_8, rG_17, rG_19, rG_20, rG_21, rG_u8, rG_u17, rG_u19, rG_u20, rG_u21, rG_u21L, cG_9, cG_10, cG_11, cG_12, cG_u10, cG_u11, cG_u12, le_L, L_le, lt_L, L_lt, eq_L, L_eq, ad_L, nI_add, nI_sb, sb_L, mu_L, nI_leI, nI_ltI, nI_eq, nI_clamp, inb_T, nI_cl0, lt, jn_b, bd_b, bd_s, bd_i, jn_l, jn_r, jn_i, gd_T, va_ap, upd_ap, reduceIte, Nat.reduceEqDiff, Nat.reduceAdd, Nat.reduceSub, Nat.reduceMul, Nat.reduceLT, Nat.reduceLeDiff, reduceCtorEq, Int32.reduceLT, Int32.reduceLE, one_ne_zero, zero_ne_one, not_true_eq_false, not_false_eq_true, true_and, and_true, if_true, if_false, ite_self, Nat.add_zero, Nat.zero_add]
    · by_cases h7 : dgt (b p)
      · simp (disch := omega) only [bM_num, pkM (n := n) hN hg hb (show p < N by omega), dg_M h7, rn, vv, rG_6, rG_8, rG_17, rG_19, rG_20, rG_21, rG_u8, rG_u17, rG_u19, rG_u20, rG_u21, rG_u21L, cG_9, cG_10, cG_11, cG_12, cG_u10, cG_u11, cG_u12, le_L, L_le, lt_L, L_lt, eq_L, L_eq, ad_L, nI_add, nI_sb, sb_L, mu_L, nI_leI, nI_ltI, nI_eq, nI_clamp, inb_T, nI_cl0, lt, jn_b, bd_b, bd_s, bd_i, jn_l, jn_r, jn_i, gd_T, va_ap, upd_ap, reduceIte, Nat.reduceEqDiff, Nat.reduceAdd, Nat.reduceSub, Nat.reduceMul, Nat.reduceLT, Nat.reduceLeDiff, reduceCtorEq, Int32.reduceLT, Int32.reduceLE, one_ne_zero, zero_ne_one, not_true_eq_false, not_false_eq_true, true_and, and_true, if_true, if_false, ite_self, Nat.add_zero, Nat.zero_add]
      · simp (disch := omega) only [bM_num, pkM (n := n) hN hg hb (show p < N by omega), dg_M0 h7, rn, vv, rG_6, rG_8, rG_17, rG_19, rG_20, rG_21, rG_u8, rG_u17, rG_u19, rG_u20, rG_u21, rG_u21L, cG_9, cG_10, cG_11, cG_12, cG_u10, cG_u11, cG_u12, le_L, L_le, lt_L, L_lt, eq_L, L_eq, ad_L, nI_add, nI_sb, sb_L, mu_L, nI_leI, nI_ltI, nI_eq, nI_clamp, inb_T, nI_cl0, lt, jn_b, bd_b, bd_s, bd_i, jn_l, jn_r, jn_i, gd_T, va_ap, upd_ap, reduceIte, Nat.reduceEqDiff, Nat.reduceAdd, Nat.reduceSub, Nat.reduceMul, Nat.reduceLT, Nat.reduceLeDiff, reduceCtorEq, Int32.reduceLT, Int32.reduceLE, one_ne_zero, zero_ne_one, not_true_eq_false, not_false_eq_true, true_and, and_true, if_true, if_false, ite_self, Nat.add_zero, Nat.zero_add]
  | succ m ih =>
    intro p A k c h1 h2 h3 h4
    have hm : 1 * (A + 1) ≤ 10 ^ (m + 1) * (A + 1) := Nat.mul_le_mul_right _ (Nat.pow_pos (by omega))
    rw [Nat.mul_comm (10 ^ (m + 1))] at hm
    by_cases h5 : N ≤ p
    · rw [rn_f (by omega)]
      refine lp_e ?_ (by omega)
      simp (disch := omega) only [bM_num, pkM0 (a := a) (n := n) (show p < 1000 by omega) hg h5, dg_M0 dg_0, vv, rG_6, rG_8, rG_17, rG_19, rG_20, rG_21, rG_u8, rG_u17, rG_u19, rG_u20, rG_u21, rG_u21L, cG_9, cG_10, cG_11, cG_12, cG_u10, cG_u11, cG_u12, le_L, L_le, lt_L, L_lt, eq_L, L_eq, ad_L, nI_add, nI_sb, sb_L, mu_L, nI_leI, nI_ltI, nI_eq, nI_clamp, inb_T, nI_cl0, lt, jn_b, bd_b, bd_s, bd_i, jn_l, jn_r, jn_i, gd_T, va_ap, upd_ap, reduceIte, Nat.reduceEqDiff, Nat.reduceAdd, Nat.reduceSub, Nat.reduceMul, Nat.reduceLT, Nat.reduceLeDiff, reduceCtorEq, Int32.reduceLT, Int32.reduceLE, one_ne_zero, zero_ne_one, not_true_eq_false, not_false_eq_true, true_and, and_true, if_true, if_false, ite_self, Nat.add_zero, Nat.zero_add]
    have hpk := pkM (n := n) (v := v) (u := u) (d := d) (e := e) hN hg hb (show p < N by omega)
    by_cases h7 : dgt (b p)
    · rw [rn_t ⟨by omega, h7⟩]
      obtain ⟨d1, d2⟩ := dv_le h7
      have h6 : ¬ 7 ≤ c := by omega
      refine (lp_s (y := (nI (10 * A + dv (b p)), nI (c + 1), rG g (p + 1) v u d e)) ?_ (by omega)).trans ((ih (p + 1) (10 * A + dv (b p)) (k - 1) (c + 1) (by omega) (by omega) (by omega) ?_).trans ?_)
      · have e2 : nI (10 * A) + b p - 48 = nI (10 * A + dv (b p)) := by
          conv => lhs; rw [d2]
          rw [show (48 : Int32) = nI 48 from rfl, nI_add, nI_sb (by omega)]; congr 1; omega
        simp (disch := omega) only [bM_num, hpk, h6, dg_M h7, e2, rG_6, rG_8, rG_17, rG_19, rG_20, rG_21, rG_u8, rG_u17, rG_u19, rG_u20, rG_u21, rG_u21L, cG_9, cG_10, cG_11, cG_12, cG_u10, cG_u11, cG_u12, le_L, L_le, lt_L, L_lt, eq_L, L_eq, ad_L, nI_add, nI_sb, sb_L, mu_L, nI_leI, nI_ltI, nI_eq, nI_clamp, inb_T, nI_cl0, lt, jn_b, bd_b, bd_s, bd_i, jn_l, jn_r, jn_i, gd_T, va_ap, upd_ap, reduceIte, Nat.reduceEqDiff, Nat.reduceAdd, Nat.reduceSub, Nat.reduceMul, Nat.reduceLT, Nat.reduceLeDiff, reduceCtorEq, Int32.reduceLT, Int32.reduceLE, one_ne_zero, zero_ne_one, not_true_eq_false, not_false_eq_true, true_and, and_true, if_true, if_false, ite_self, Nat.add_zero, Nat.zero_add]
      · have h8 : (10 * A + dv (b p) + 1) * 10 ^ m ≤ (10 * A + 10) * 10 ^ m := Nat.mul_le_mul_right _ (by omega)
        have e : (A + 1) * 10 ^ (m + 1) = (10 * A + 10) * 10 ^ m := by rw [Nat.pow_succ, show 10 * A + 10 = (A + 1) * 10 by omega, Nat.mul_assoc, Nat.mul_comm 10]
        omega
      · rw [Nat.add_comm 1, show p + 1 + rn b N m (p + 1) = p + (rn b N m (p + 1) + 1) by omega, show c + 1 + rn b N m (p + 1) = c + (rn b N m (p + 1) + 1) by omega]; rfl
    · rw [rn_f (fun h => h7 h.2)]
      refine lp_e ?_ (by omega)
      simp (disch := omega) only [bM_num, hpk, dg_M0 h7, vv, rG_6, rG_8, rG_17, rG_19, rG_20, rG_21, rG_u8, rG_u17, rG_u19, rG_u20, rG_u21, rG_u21L, cG_9, cG_10, cG_11, cG_12, cG_u10, cG_u11, cG_u12, le_L, L_le, lt_L, L_lt, eq_L, L_eq, ad_L, nI_add, nI_sb, sb_L, mu_L, nI_leI, nI_ltI, nI_eq, nI_clamp, inb_T, nI_cl0, lt, jn_b, bd_b, bd_s, bd_i, jn_l, jn_r, jn_i, gd_T, va_ap, upd_ap, reduceIte, Nat.reduceEqDiff, Nat.reduceAdd, Nat.reduceSub, Nat.reduceMul, Nat.reduceLT, Nat.reduceLeDiff, reduceCtorEq, Int32.reduceLT, Int32.reduceLE, one_ne_zero, zero_ne_one, not_true_eq_false, not_false_eq_true, true_and, and_true, if_true, if_false, ite_self, Nat.add_zero, Nat.zero_add]
theorem numM_0 {g : aG} {a : aA} {b : Nat → Int32} {N p v u d e n k : Nat} (hN : N ≤ 200) (hg : g 6 = nI N) (hb : ∀ i, i < N → a 0 i = b i) (hp : p < N) (hz : b p = 48) (hk : 2 < k) : lp (bM_num0 n a) k (0, 0, rG g p v u d e) = some (.inl (0, 1, rG g (p + 1) v u d e)) := by
  have h48 : dgt 48 := ⟨by decide, by decide⟩
  have e0 : (10 : Int32) * 0 + 48 - 48 = 0 := by decide
  have o1 : ¬ ((7 : Int32) ≤ 0) := by decide
  have o2 : ¬ ((7 : Int32) ≤ 1) := by decide
  have o3 : ¬ ((0 : Int32) = 1) := by decide
  have o4 : (0 : Int32) + 1 = 1 := by decide
  refine (lp_s (y := (0, 1, rG g (p + 1) v u d e)) ?_ (by omega)).trans (lp_e ?_ (by omega))
  · simp (disch := omega) only [bM_num0, pkM (n := n) hN hg hb hp, hz, dg_M h48, e0, o1, o3, o4, rG_6, rG_8, rG_17, rG_19, rG_20, rG_21, rG_u8, rG_u17, rG_u19, rG_u20, rG_u21, rG_u21L, cG_9, cG_10, cG_11, cG_12, cG_u10, cG_u11, cG_u12, le_L, L_le, lt_L, L_lt, eq_L, L_eq, ad_L, nI_add, nI_sb, sb_L, mu_L, nI_leI, nI_ltI, nI_eq, nI_clamp, inb_T, nI_cl0, lt, jn_b, bd_b, bd_s, bd_i, jn_l, jn_r, jn_i, gd_T, va_ap, upd_ap, reduceIte, Nat.reduceEqDiff, Nat.reduceAdd, Nat.reduceSub, Nat.reduceMul, Nat.reduceLT, Nat.reduceLeDiff, reduceCtorEq, Int32.reduceLT, Int32.reduceLE, one_ne_zero, zero_ne_one, not_true_eq_false, not_false_eq_true, true_and, and_true, if_true, if_false, ite_self, Nat.add_zero, Nat.zero_add]
  · by_cases h5 : N ≤ p + 1
    · simp (disch := omega) only [bM_num0, pkM0 (a := a) (n := n) (show p + 1 < 1000 by omega) hg h5, dg_M0 dg_0, rG_6, rG_8, rG_17, rG_19, rG_20, rG_21, rG_u8, rG_u17, rG_u19, rG_u20, rG_u21, rG_u21L, cG_9, cG_10, cG_11, cG_12, cG_u10, cG_u11, cG_u12, le_L, L_le, lt_L, L_lt, eq_L, L_eq, ad_L, nI_add, nI_sb, sb_L, mu_L, nI_leI, nI_ltI, nI_eq, nI_clamp, inb_T, nI_cl0, lt, jn_b, bd_b, bd_s, bd_i, jn_l, jn_r, jn_i, gd_T, va_ap, upd_ap, reduceIte, Nat.reduceEqDiff, Nat.reduceAdd, Nat.reduceSub, Nat.reduceMul, Nat.reduceLT, Nat.reduceLeDiff, reduceCtorEq, Int32.reduceLT, Int32.reduceLE, one_ne_zero, zero_ne_one, not_true_eq_false, not_false_eq_true, true_and, and_true, if_true, if_false, ite_self, Nat.add_zero, Nat.zero_add]
    · by_cases h7 : dgt (b (p + 1))
      · simp (disch := omega) only [bM_num0, pkM (n := n) hN hg hb (show p + 1 < N by omega), dg_M h7, o2, rG_6, rG_8, rG_17, rG_19, rG_20, rG_21, rG_u8, rG_u17, rG_u19, rG_u20, rG_u21, rG_u21L, cG_9, cG_10, cG_11, cG_12, cG_u10, cG_u11, cG_u12, le_L, L_le, lt_L, L_lt, eq_L, L_eq, ad_L, nI_add, nI_sb, sb_L, mu_L, nI_leI, nI_ltI, nI_eq, nI_clamp, inb_T, nI_cl0, lt, jn_b, bd_b, bd_s, bd_i, jn_l, jn_r, jn_i, gd_T, va_ap, upd_ap, reduceIte, Nat.reduceEqDiff, Nat.reduceAdd, Nat.reduceSub, Nat.reduceMul, Nat.reduceLT, Nat.reduceLeDiff, reduceCtorEq, Int32.reduceLT, Int32.reduceLE, one_ne_zero, zero_ne_one, not_true_eq_false, not_false_eq_true, true_and, and_true, if_true, if_false, ite_self, Nat.add_zero, Nat.zero_add]
      · simp (disch := omega) only [bM_num0, pkM (n := n) hN hg hb (show p + 1 < N by omega), dg_M0 h7, rG_6, rG_8, rG_17, rG_19, rG_20, rG_21, rG_u8, rG_u17, rG_u19, rG_u20, rG_u21, rG_u21L, cG_9, cG_10, cG_11, cG_12, cG_u10, cG_u11, cG_u12, le_L, L_le, lt_L, L_lt, eq_L, L_eq, ad_L, nI_add, nI_sb, sb_L, mu_L, nI_leI, nI_ltI, nI_eq, nI_clamp, inb_T, nI_cl0, lt, jn_b, bd_b, bd_s, bd_i, jn_l, jn_r, jn_i, gd_T, va_ap, upd_ap, reduceIte, Nat.reduceEqDiff, Nat.reduceAdd, Nat.reduceSub, Nat.reduceMul, Nat.reduceLT, Nat.reduceLeDiff, reduceCtorEq, Int32.reduceLT, Int32.reduceLE, one_ne_zero, zero_ne_one, not_true_eq_false, not_false_eq_true, true_and, and_true, if_true, if_false, ite_self, Nat.add_zero, Nat.zero_add]
