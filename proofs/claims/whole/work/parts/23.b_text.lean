theorem lp_s {ε β : Type} {body : ε → Option (ε ⊕ β)} {x y : ε} {n : Nat} (h : body x = some (.inl y)) (hn : 0 < n) : lp body n x = lp body (n - 1) y := by
  cases n with
  | zero => omega
  | succ n => simp [lp, h]
theorem lp_e {ε β : Type} {body : ε → Option (ε ⊕ β)} {x : ε} {b : β} {n : Nat} (h : body x = some (.inr b)) (hn : 0 < n) : lp body n x = some b := by
  cases n with
  | zero => omega
  | succ n => simp [lp, h]
def cnl (f : Nat → Int32) (p : Nat) : Nat → Nat
  | 0 => 0
  | k + 1 => (if f p = 10 then 1 else 0) + cnl f (p + 1) k
theorem cnl_le (f : Nat → Int32) : ∀ k p, cnl f p k ≤ k := by
  intro k
  induction k with
  | zero => intro p; exact Nat.le_refl 0
  | succ k ih => intro p; have := ih (p + 1); simp only [cnl]; split <;> omega
theorem cnl_c {f f' : Nat → Int32} : ∀ k p p', (∀ i, i < k → f (p + i) = f' (p' + i)) → cnl f p k = cnl f' p' k := by
  intro k
  induction k with
  | zero => intro p p' _; rfl
  | succ k ih =>
    intro p p' h
    have h0 := h 0 (by omega)
    simp only [Nat.add_zero] at h0
    simp only [cnl, h0]
    rw [ih (p + 1) (p' + 1) (fun i hi => by have := h (i + 1) (by omega); rw [show p + 1 + i = p + (i + 1) by omega, show p' + 1 + i = p' + (i + 1) by omega]; exact this)]
def bT_lines (gT : aG) (aT : aA) : Int32 × Int32 → Option ((Int32 × Int32) ⊕ Int32) := (fun q3 => if (gT 1) ≤ q3.2 then (some (.inr (q3.1))) else (gd (inb q3.2 60) (lt (aT 0 q3.2.toNatClampNeg) (fun x9 => if x9 = 10 then (some (.inl ((q3.1 + 1), (q3.2 + 1)))) else (some (.inl (q3.1, (q3.2 + 1))))))))
def bM_lines (fp : Nat → Int32) (np : Nat) (v1 v2 : Int32) : Int32 × Int32 → Option ((Int32 × Int32) ⊕ Int32) := (fun q3 => if (v1 + v2) ≤ q3.2 then (some (.inr (q3.1))) else (gd (inb q3.2 np) (lt (fp q3.2.toNatClampNeg) (fun x9 => if x9 = 10 then (lt ((q3.1 + 1)) (fun x12 => some (.inl (x12, (q3.2 + 1))))) else (lt ((q3.1 + 0)) (fun x11 => some (.inl (x11, (q3.2 + 1)))))))))
theorem lT {gT : aG} {aT : aA} {N : Nat} (hN : N ≤ 60) (h1 : gT 1 = nI N) : ∀ j i c n, i + j = N → j < n → c ≤ i + 1 → lp (bT_lines gT aT) n (nI c, nI i) = some (nI (c + cnl (aT 0) i j)) := by
  intro j
  induction j with
  | zero =>
    intro i c n h2 h3 h4
    refine lp_e ?_ h3
    simp (disch := omega) only [bT_lines, h1, le_L, L_le, lt_L, L_lt, eq_L, L_eq, ad_L, nI_add, nI_sb, sb_L, mu_L, nI_leI, nI_ltI, nI_eq, nI_clamp, inb_T, nI_cl0, lt, jn_b, bd_b, bd_s, bd_i, jn_l, jn_r, jn_i, gd_T, va_ap, upd_ap, reduceIte, Nat.reduceEqDiff, Nat.reduceAdd, Nat.reduceSub, Nat.reduceMul, Nat.reduceLT, Nat.reduceLeDiff, reduceCtorEq, Int32.reduceLT, Int32.reduceLE, one_ne_zero, zero_ne_one, not_true_eq_false, not_false_eq_true, true_and, and_true, if_true, if_false, ite_self, Nat.add_zero, Nat.zero_add]
    rw [if_pos (by omega)]; rfl
  | succ j ih =>
    intro i c n h2 h3 h4
    rw [lp_s (y := (nI (c + if aT 0 i = 10 then 1 else 0), nI (i + 1))) ?_ (by omega), ih (i + 1) _ _ (by omega) (by omega) (by split <;> omega)]
    · rw [Nat.add_assoc]; rfl
    · simp (disch := omega) only [bT_lines, h1, le_L, L_le, lt_L, L_lt, eq_L, L_eq, ad_L, nI_add, nI_sb, sb_L, mu_L, nI_leI, nI_ltI, nI_eq, nI_clamp, inb_T, nI_cl0, lt, jn_b, bd_b, bd_s, bd_i, jn_l, jn_r, jn_i, gd_T, va_ap, upd_ap, reduceIte, Nat.reduceEqDiff, Nat.reduceAdd, Nat.reduceSub, Nat.reduceMul, Nat.reduceLT, Nat.reduceLeDiff, reduceCtorEq, Int32.reduceLT, Int32.reduceLE, one_ne_zero, zero_ne_one, not_true_eq_false, not_false_eq_true, true_and, and_true, if_true, if_false, ite_self, Nat.add_zero, Nat.zero_add]
      rw [if_neg (by omega)]
      split <;> rfl
theorem lM {f : Nat → Int32} {np off N : Nat} (hN : off + N ≤ np) (hp : np < 2 ^ 30) : ∀ j i c n, i + j = N → j < n → c ≤ i + 1 → lp (bM_lines f np (nI off) (nI N)) n (nI c, nI (off + i)) = some (nI (c + cnl f (off + i) j)) := by
  intro j
  induction j with
  | zero =>
    intro i c n h2 h3 h4
    refine lp_e ?_ h3
    simp (disch := omega) only [bM_lines, le_L, L_le, lt_L, L_lt, eq_L, L_eq, ad_L, nI_add, nI_sb, sb_L, mu_L, nI_leI, nI_ltI, nI_eq, nI_clamp, inb_T, nI_cl0, lt, jn_b, bd_b, bd_s, bd_i, jn_l, jn_r, jn_i, gd_T, va_ap, upd_ap, reduceIte, Nat.reduceEqDiff, Nat.reduceAdd, Nat.reduceSub, Nat.reduceMul, Nat.reduceLT, Nat.reduceLeDiff, reduceCtorEq, Int32.reduceLT, Int32.reduceLE, one_ne_zero, zero_ne_one, not_true_eq_false, not_false_eq_true, true_and, and_true, if_true, if_false, ite_self, Nat.add_zero, Nat.zero_add]
    rw [if_pos (by omega)]; rfl
  | succ j ih =>
    intro i c n h2 h3 h4
    rw [lp_s (y := (nI (c + if f (off + i) = 10 then 1 else 0), nI (off + (i + 1)))) ?_ (by omega), ih (i + 1) _ _ (by omega) (by omega) (by split <;> omega)]
    · rw [Nat.add_assoc]; rfl
    · simp (disch := omega) only [bM_lines, le_L, L_le, lt_L, L_lt, eq_L, L_eq, ad_L, nI_add, nI_sb, sb_L, mu_L, nI_leI, nI_ltI, nI_eq, nI_clamp, inb_T, nI_cl0, lt, jn_b, bd_b, bd_s, bd_i, jn_l, jn_r, jn_i, gd_T, va_ap, upd_ap, reduceIte, Nat.reduceEqDiff, Nat.reduceAdd, Nat.reduceSub, Nat.reduceMul, Nat.reduceLT, Nat.reduceLeDiff, reduceCtorEq, Int32.reduceLT, Int32.reduceLE, one_ne_zero, zero_ne_one, not_true_eq_false, not_false_eq_true, true_and, and_true, if_true, if_false, ite_self, Nat.add_zero, Nat.zero_add]
      rw [if_neg (by omega)]
      split <;> rfl
theorem lines_T {gT : aG} {aT : aA} {N n : Nat} (hN : N ≤ 60) (h1 : gT 1 = nI N) (hn : 60 < n) : mT_lineCount n gT aT = some (nI (1 + cnl (aT 0) 0 N)) := lT hN h1 N 0 1 n (by omega) (by omega) (by omega)
theorem lines_M {f : Nat → Int32} {np off N n : Nat} (hN : off + N ≤ np) (hp : np < 2 ^ 30) (hn : N < n) : mM_linesOf n f np (nI off) (nI N) = some (nI (1 + cnl f off N)) := lM hN hp N 0 1 n (by omega) (by omega) (by omega)
/-! places -/
def bT_start (gT : aG) (aT : aA) : Int32 × Int32 → Option ((Int32 × Int32) ⊕ Int32) := (fun q3 => if (gT 1) ≤ q3.1 then (some (.inr (q3.1))) else (if q3.2 ≤ 0 then (some (.inr (q3.1))) else (gd (inb q3.1 60) (lt (aT 0 q3.1.toNatClampNeg) (fun x10 => if x10 = 10 then (some (.inl ((q3.1 + 1), (q3.2 + (-1))))) else (some (.inl ((q3.1 + 1), q3.2))))))))
def bM_start (fp : Nat → Int32) (np : Nat) (v1 : Int32) : Int32 × Int32 → Option ((Int32 × Int32) ⊕ (Int32 ⊕ Int32)) := (fun q31 => if q31.2 ≤ 0 then (some (.inr (.inl q31.1))) else (gd (inb (v1 + q31.1) np) (lt (fp (v1 + q31.1).toNatClampNeg) (fun x37 => if x37 = 10 then (some (.inl ((q31.1 + 1), (q31.2 + (-1))))) else (some (.inl ((q31.1 + 1), q31.2)))))))
def bT_wide (n : Nat) (gT : aG) (aT : aA) : Int32 × Int32 → Option ((Int32 × Int32) ⊕ Int32) := (fun q7 => if (gT 1) ≤ q7.1 then (some (.inr (q7.1))) else (gd (inb q7.1 60) (lt (aT 0 q7.1.toNatClampNeg) (fun x13 => if x13 = 10 then (some (.inr (q7.1))) else (gd (inb q7.1 60) (lt (aT 0 q7.1.toNatClampNeg) (fun x16 => bd (mT_widthOf n x16) (fun x17 => if q7.2 < x17 then (some (.inr (q7.1))) else (gd (inb q7.1 60) (lt (aT 0 q7.1.toNatClampNeg) (fun x22 => bd (mT_widthOf n x22) (fun x23 => lt ((q7.2 - x23)) (fun x26 => some (.inl ((q7.1 + 1), x26)))))))))))))))
def bM_wide (fp : Nat → Int32) (np : Nat) (v1 v2 v4 : Int32) : Int32 × Int32 → Option ((Int32 × Int32) ⊕ Int32) := (fun q12 => if v2 ≤ q12.1 then (some (.inr (q12.1))) else (gd (inb (v1 + q12.1) np) (lt (fp (v1 + q12.1).toNatClampNeg) (fun x18 => if x18 = 10 then (some (.inr (q12.1))) else (gd (inb (v1 + q12.1) np) (lt (fp (v1 + q12.1).toNatClampNeg) (fun x21 => jn (α := Int32) (if x21 = 126 then (some (.inl 2)) else (some (.inl 1))) (fun x24 => lt ((q12.2 + x24)) (fun x26 => if x26 ≤ v4 then (some (.inl ((q12.1 + 1), x26))) else (some (.inr (q12.1))))))))))))
theorem nI_m1 {k : Nat} (h : 1 ≤ k) : nI k + (-1) = nI (k - 1) := nI_dec h
theorem s2 {gT : aG} {aT : aA} {f : Nat → Int32} {np off N : Nat} (hN : N ≤ 60) (h1 : gT 1 = nI N) (hO : off + N ≤ np) (hp : np < 2 ^ 30) (hf : ∀ i, i < N → aT 0 i = f (off + i)) : ∀ j p left n, p + j = N → j < n → left ≤ cnl (aT 0) p j → ∃ q, q ≤ N ∧ lp (bT_start gT aT) n (nI p, nI left) = some (nI q) ∧ lp (bM_start f np (nI off)) n (nI p, nI left) = some (.inl (nI q)) := by
  intro j
  induction j with
  | zero =>
    intro p left n h2 h3 h4
    have h4 : left ≤ 0 := h4
    refine ⟨p, by omega, lp_e ?_ h3, lp_e ?_ h3⟩
    · simp (disch := omega) only [bT_start, h1, le_L, L_le, lt_L, L_lt, eq_L, L_eq, ad_L, nI_add, nI_sb, sb_L, mu_L, nI_leI, nI_ltI, nI_eq, nI_clamp, inb_T, nI_cl0, lt, jn_b, bd_b, bd_s, bd_i, jn_l, jn_r, jn_i, gd_T, va_ap, upd_ap, reduceIte, Nat.reduceEqDiff, Nat.reduceAdd, Nat.reduceSub, Nat.reduceMul, Nat.reduceLT, Nat.reduceLeDiff, reduceCtorEq, Int32.reduceLT, Int32.reduceLE, one_ne_zero, zero_ne_one, not_true_eq_false, not_false_eq_true, true_and, and_true, if_true, if_false, ite_self, Nat.add_zero, Nat.zero_add]
      rw [if_pos (by omega)]
    · simp (disch := omega) only [bM_start, le_L, L_le, lt_L, L_lt, eq_L, L_eq, ad_L, nI_add, nI_sb, sb_L, mu_L, nI_leI, nI_ltI, nI_eq, nI_clamp, inb_T, nI_cl0, lt, jn_b, bd_b, bd_s, bd_i, jn_l, jn_r, jn_i, gd_T, va_ap, upd_ap, reduceIte, Nat.reduceEqDiff, Nat.reduceAdd, Nat.reduceSub, Nat.reduceMul, Nat.reduceLT, Nat.reduceLeDiff, reduceCtorEq, Int32.reduceLT, Int32.reduceLE, one_ne_zero, zero_ne_one, not_true_eq_false, not_false_eq_true, true_and, and_true, if_true, if_false, ite_self, Nat.add_zero, Nat.zero_add]
      rw [if_pos (by omega)]
  | succ j ih =>
    intro p left n h2 h3 h4
    have hc := cnl_le (aT 0) (j + 1) p
    by_cases hl : left = 0
    · refine ⟨p, by omega, lp_e ?_ (by omega), lp_e ?_ (by omega)⟩
      · simp (disch := omega) only [bT_start, h1, le_L, L_le, lt_L, L_lt, eq_L, L_eq, ad_L, nI_add, nI_sb, sb_L, mu_L, nI_leI, nI_ltI, nI_eq, nI_clamp, inb_T, nI_cl0, lt, jn_b, bd_b, bd_s, bd_i, jn_l, jn_r, jn_i, gd_T, va_ap, upd_ap, reduceIte, Nat.reduceEqDiff, Nat.reduceAdd, Nat.reduceSub, Nat.reduceMul, Nat.reduceLT, Nat.reduceLeDiff, reduceCtorEq, Int32.reduceLT, Int32.reduceLE, one_ne_zero, zero_ne_one, not_true_eq_false, not_false_eq_true, true_and, and_true, if_true, if_false, ite_self, Nat.add_zero, Nat.zero_add]
        rw [if_neg (by omega), if_pos (by omega)]
      · simp (disch := omega) only [bM_start, le_L, L_le, lt_L, L_lt, eq_L, L_eq, ad_L, nI_add, nI_sb, sb_L, mu_L, nI_leI, nI_ltI, nI_eq, nI_clamp, inb_T, nI_cl0, lt, jn_b, bd_b, bd_s, bd_i, jn_l, jn_r, jn_i, gd_T, va_ap, upd_ap, reduceIte, Nat.reduceEqDiff, Nat.reduceAdd, Nat.reduceSub, Nat.reduceMul, Nat.reduceLT, Nat.reduceLeDiff, reduceCtorEq, Int32.reduceLT, Int32.reduceLE, one_ne_zero, zero_ne_one, not_true_eq_false, not_false_eq_true, true_and, and_true, if_true, if_false, ite_self, Nat.add_zero, Nat.zero_add]
        rw [if_pos (by omega)]
    have hfp := hf p (by omega)
    have hl9 : left ≤ j + 1 := by omega
    simp only [cnl] at h4
    obtain ⟨q, hq, e1, e2⟩ := ih (p + 1) (left - if aT 0 p = 10 then 1 else 0) (n - 1) (by omega) (by omega) (by split at h4 <;> split <;> omega)
    refine ⟨q, hq, ?_, ?_⟩
    · rw [lp_s (y := (nI (p + 1), nI (left - if aT 0 p = 10 then 1 else 0))) ?_ (by omega)]
      · exact e1
      · simp (disch := omega) only [bT_start, h1, le_L, L_le, lt_L, L_lt, eq_L, L_eq, ad_L, nI_add, nI_sb, sb_L, mu_L, nI_leI, nI_ltI, nI_eq, nI_clamp, inb_T, nI_cl0, lt, jn_b, bd_b, bd_s, bd_i, jn_l, jn_r, jn_i, gd_T, va_ap, upd_ap, reduceIte, Nat.reduceEqDiff, Nat.reduceAdd, Nat.reduceSub, Nat.reduceMul, Nat.reduceLT, Nat.reduceLeDiff, reduceCtorEq, Int32.reduceLT, Int32.reduceLE, one_ne_zero, zero_ne_one, not_true_eq_false, not_false_eq_true, true_and, and_true, if_true, if_false, ite_self, Nat.add_zero, Nat.zero_add]
        rw [if_neg (by omega), if_neg (by omega)]
        split
        · rw [nI_m1 (by omega)]
        · rfl
    · rw [lp_s (y := (nI (p + 1), nI (left - if aT 0 p = 10 then 1 else 0))) ?_ (by omega)]
      · exact e2
      · simp (disch := omega) only [bM_start, le_L, L_le, lt_L, L_lt, eq_L, L_eq, ad_L, nI_add, nI_sb, sb_L, mu_L, nI_leI, nI_ltI, nI_eq, nI_clamp, inb_T, nI_cl0, lt, jn_b, bd_b, bd_s, bd_i, jn_l, jn_r, jn_i, gd_T, va_ap, upd_ap, reduceIte, Nat.reduceEqDiff, Nat.reduceAdd, Nat.reduceSub, Nat.reduceMul, Nat.reduceLT, Nat.reduceLeDiff, reduceCtorEq, Int32.reduceLT, Int32.reduceLE, one_ne_zero, zero_ne_one, not_true_eq_false, not_false_eq_true, true_and, and_true, if_true, if_false, ite_self, Nat.add_zero, Nat.zero_add]
        rw [if_neg (by omega), ← hfp]
        split
        · rw [nI_m1 (by omega)]
        · rfl
theorem sEnd {gT : aG} {aT : aA} {N : Nat} (hN : N ≤ 60) (h1 : gT 1 = nI N) : ∀ j p left n, p + j = N → j < n → left < 2 ^ 31 → cnl (aT 0) p j < left → lp (bT_start gT aT) n (nI p, nI left) = some (nI N) := by
  intro j
  induction j with
  | zero =>
    intro p left n h2 h3 h4 h5
    refine lp_e ?_ h3
    simp (disch := omega) only [bT_start, h1, le_L, L_le, lt_L, L_lt, eq_L, L_eq, ad_L, nI_add, nI_sb, sb_L, mu_L, nI_leI, nI_ltI, nI_eq, nI_clamp, inb_T, nI_cl0, lt, jn_b, bd_b, bd_s, bd_i, jn_l, jn_r, jn_i, gd_T, va_ap, upd_ap, reduceIte, Nat.reduceEqDiff, Nat.reduceAdd, Nat.reduceSub, Nat.reduceMul, Nat.reduceLT, Nat.reduceLeDiff, reduceCtorEq, Int32.reduceLT, Int32.reduceLE, one_ne_zero, zero_ne_one, not_true_eq_false, not_false_eq_true, true_and, and_true, if_true, if_false, ite_self, Nat.add_zero, Nat.zero_add]
    rw [if_pos (by omega), show p = N by omega]
  | succ j ih =>
    intro p left n h2 h3 h4 h5
    simp only [cnl] at h5
    rw [lp_s (y := (nI (p + 1), nI (left - if aT 0 p = 10 then 1 else 0))) ?_ (by omega)]
    · refine ih (p + 1) (left - if aT 0 p = 10 then 1 else 0) (n - 1) (by omega) (by omega) (by omega) ?_
      by_cases hz : aT 0 p = 10
      · rw [if_pos hz] at h5 ⊢; omega
      · rw [if_neg hz] at h5 ⊢; omega
    · simp (disch := omega) only [bT_start, h1, le_L, L_le, lt_L, L_lt, eq_L, L_eq, ad_L, nI_add, nI_sb, sb_L, mu_L, nI_leI, nI_ltI, nI_eq, nI_clamp, inb_T, nI_cl0, lt, jn_b, bd_b, bd_s, bd_i, jn_l, jn_r, jn_i, gd_T, va_ap, upd_ap, reduceIte, Nat.reduceEqDiff, Nat.reduceAdd, Nat.reduceSub, Nat.reduceMul, Nat.reduceLT, Nat.reduceLeDiff, reduceCtorEq, Int32.reduceLT, Int32.reduceLE, one_ne_zero, zero_ne_one, not_true_eq_false, not_false_eq_true, true_and, and_true, if_true, if_false, ite_self, Nat.add_zero, Nat.zero_add]
      rw [if_neg (by omega), if_neg (by omega)]
      split
      · rw [nI_m1 (by omega)]
      · rfl
theorem w2 {gT : aG} {aT : aA} {f : Nat → Int32} {np off N m : Nat} {u : Int32} (hN : N ≤ 60) (h1 : gT 1 = nI N) (hO : off + N ≤ np) (hp : np < 2 ^ 30) (hf : ∀ i, i < N → aT 0 i = f (off + i)) : ∀ j p wide left n, p + j = N → j < n → wide ≤ 2 * p → (wide = 0 ∨ (wide : Int) ≤ u.toInt) → left.toInt = u.toInt - wide → ∃ q, q ≤ N ∧ lp (bT_wide m gT aT) n (nI p, left) = some (nI q) ∧ lp (bM_wide f np (nI off) (nI N) u) n (nI p, nI wide) = some (nI q) := by
  intro j
  induction j with
  | zero =>
    intro p wide left n h2 h3 h4 h5 h6
    refine ⟨p, by omega, lp_e ?_ h3, lp_e ?_ h3⟩
    · simp (disch := omega) only [bT_wide, h1, le_L, L_le, lt_L, L_lt, eq_L, L_eq, ad_L, nI_add, nI_sb, sb_L, mu_L, nI_leI, nI_ltI, nI_eq, nI_clamp, inb_T, nI_cl0, lt, jn_b, bd_b, bd_s, bd_i, jn_l, jn_r, jn_i, gd_T, va_ap, upd_ap, reduceIte, Nat.reduceEqDiff, Nat.reduceAdd, Nat.reduceSub, Nat.reduceMul, Nat.reduceLT, Nat.reduceLeDiff, reduceCtorEq, Int32.reduceLT, Int32.reduceLE, one_ne_zero, zero_ne_one, not_true_eq_false, not_false_eq_true, true_and, and_true, if_true, if_false, ite_self, Nat.add_zero, Nat.zero_add]
      rw [if_pos (by omega)]
    · simp (disch := omega) only [bM_wide, le_L, L_le, lt_L, L_lt, eq_L, L_eq, ad_L, nI_add, nI_sb, sb_L, mu_L, nI_leI, nI_ltI, nI_eq, nI_clamp, inb_T, nI_cl0, lt, jn_b, bd_b, bd_s, bd_i, jn_l, jn_r, jn_i, gd_T, va_ap, upd_ap, reduceIte, Nat.reduceEqDiff, Nat.reduceAdd, Nat.reduceSub, Nat.reduceMul, Nat.reduceLT, Nat.reduceLeDiff, reduceCtorEq, Int32.reduceLT, Int32.reduceLE, one_ne_zero, zero_ne_one, not_true_eq_false, not_false_eq_true, true_and, and_true, if_true, if_false, ite_self, Nat.add_zero, Nat.zero_add]
      rw [if_pos (by omega)]
  | succ j ih =>
    intro p wide left n h2 h3 h4 h5 h6
    have hfp := hf p (by omega)
    by_cases hz : aT 0 p = 10
    · refine ⟨p, by omega, lp_e ?_ (by omega), lp_e ?_ (by omega)⟩
      · simp (disch := omega) only [bT_wide, h1, le_L, L_le, lt_L, L_lt, eq_L, L_eq, ad_L, nI_add, nI_sb, sb_L, mu_L, nI_leI, nI_ltI, nI_eq, nI_clamp, inb_T, nI_cl0, lt, jn_b, bd_b, bd_s, bd_i, jn_l, jn_r, jn_i, gd_T, va_ap, upd_ap, reduceIte, Nat.reduceEqDiff, Nat.reduceAdd, Nat.reduceSub, Nat.reduceMul, Nat.reduceLT, Nat.reduceLeDiff, reduceCtorEq, Int32.reduceLT, Int32.reduceLE, one_ne_zero, zero_ne_one, not_true_eq_false, not_false_eq_true, true_and, and_true, if_true, if_false, ite_self, Nat.add_zero, Nat.zero_add]
        rw [if_neg (by omega), if_pos hz]
      · simp (disch := omega) only [bM_wide, le_L, L_le, lt_L, L_lt, eq_L, L_eq, ad_L, nI_add, nI_sb, sb_L, mu_L, nI_leI, nI_ltI, nI_eq, nI_clamp, inb_T, nI_cl0, lt, jn_b, bd_b, bd_s, bd_i, jn_l, jn_r, jn_i, gd_T, va_ap, upd_ap, reduceIte, Nat.reduceEqDiff, Nat.reduceAdd, Nat.reduceSub, Nat.reduceMul, Nat.reduceLT, Nat.reduceLeDiff, reduceCtorEq, Int32.reduceLT, Int32.reduceLE, one_ne_zero, zero_ne_one, not_true_eq_false, not_false_eq_true, true_and, and_true, if_true, if_false, ite_self, Nat.add_zero, Nat.zero_add]
        rw [if_neg (by omega), if_pos (by rw [← hfp]; exact hz)]
    obtain ⟨w, hw, hw1, hw2⟩ : ∃ w : Nat, 1 ≤ w ∧ w ≤ 2 ∧ ((aT 0 p = 126 ∧ w = 2) ∨ (¬ aT 0 p = 126 ∧ w = 1)) := by
      by_cases h : aT 0 p = 126
      · exact ⟨2, by omega, by omega, .inl ⟨h, rfl⟩⟩
      · exact ⟨1, by omega, by omega, .inr ⟨h, rfl⟩⟩
    have hWd : ∀ k, mT_widthOf k (aT 0 p) = some (nI w) := fun k => by
      rw [mT_widthOf]
      rcases hw2 with ⟨e, rfl⟩ | ⟨e, rfl⟩
      · rw [if_pos e]; rfl
      · rw [if_neg e]; rfl
    have ew : (nI w).toInt = w := nI_toInt (by omega)
    have eww : (nI (wide + w)).toInt = ((wide + w : Nat) : Int) := nI_toInt (by omega)
    have c1 : (left < nI w) ↔ u.toInt < (wide + w : Nat) := by rw [Int32.lt_iff_toInt_lt, ew, h6]; omega
    have c2 : (nI (wide + w) ≤ u) ↔ ¬ u.toInt < (wide + w : Nat) := by rw [Int32.le_iff_toInt_le, eww]; omega
    by_cases hs : u.toInt < (wide + w : Nat)
    · refine ⟨p, by omega, lp_e ?_ (by omega), lp_e ?_ (by omega)⟩
      · simp (disch := omega) only [bT_wide, h1, hWd, le_L, L_le, lt_L, L_lt, eq_L, L_eq, ad_L, nI_add, nI_sb, sb_L, mu_L, nI_leI, nI_ltI, nI_eq, nI_clamp, inb_T, nI_cl0, lt, jn_b, bd_b, bd_s, bd_i, jn_l, jn_r, jn_i, gd_T, va_ap, upd_ap, reduceIte, Nat.reduceEqDiff, Nat.reduceAdd, Nat.reduceSub, Nat.reduceMul, Nat.reduceLT, Nat.reduceLeDiff, reduceCtorEq, Int32.reduceLT, Int32.reduceLE, one_ne_zero, zero_ne_one, not_true_eq_false, not_false_eq_true, true_and, and_true, if_true, if_false, ite_self, Nat.add_zero, Nat.zero_add]
        rw [if_neg (by omega), if_neg hz, if_pos (c1.mpr hs)]
      · simp (disch := omega) only [bM_wide, le_L, L_le, lt_L, L_lt, eq_L, L_eq, ad_L, nI_add, nI_sb, sb_L, mu_L, nI_leI, nI_ltI, nI_eq, nI_clamp, inb_T, nI_cl0, lt, jn_b, bd_b, bd_s, bd_i, jn_l, jn_r, jn_i, gd_T, va_ap, upd_ap, reduceIte, Nat.reduceEqDiff, Nat.reduceAdd, Nat.reduceSub, Nat.reduceMul, Nat.reduceLT, Nat.reduceLeDiff, reduceCtorEq, Int32.reduceLT, Int32.reduceLE, one_ne_zero, zero_ne_one, not_true_eq_false, not_false_eq_true, true_and, and_true, if_true, if_false, ite_self, Nat.add_zero, Nat.zero_add]
        rw [if_neg (by omega), ← hfp, if_neg hz]
        rcases hw2 with ⟨e, rfl⟩ | ⟨e, rfl⟩
        · rw [if_pos e, if_neg (fun h => c2.mp h hs)]
        · rw [if_neg e, if_neg (fun h => c2.mp h hs)]
    · have hb : left.toInt < 2 ^ 31 := Int32.toInt_lt left
      have hb2 : u.toInt < 2 ^ 31 := Int32.toInt_lt u
      obtain ⟨q, hq, e1, e2⟩ := ih (p + 1) (wide + w) (left - nI w) (n - 1) (by omega) (by omega) (by omega) (by omega) (by rw [Int32.toInt_sub, ew, h6, Int.bmod_def]; omega)
      refine ⟨q, hq, ?_, ?_⟩
      · rw [lp_s (y := (nI (p + 1), left - nI w)) ?_ (by omega)]
        · exact e1
        · simp (disch := omega) only [bT_wide, h1, hWd, le_L, L_le, lt_L, L_lt, eq_L, L_eq, ad_L, nI_add, nI_sb, sb_L, mu_L, nI_leI, nI_ltI, nI_eq, nI_clamp, inb_T, nI_cl0, lt, jn_b, bd_b, bd_s, bd_i, jn_l, jn_r, jn_i, gd_T, va_ap, upd_ap, reduceIte, Nat.reduceEqDiff, Nat.reduceAdd, Nat.reduceSub, Nat.reduceMul, Nat.reduceLT, Nat.reduceLeDiff, reduceCtorEq, Int32.reduceLT, Int32.reduceLE, one_ne_zero, zero_ne_one, not_true_eq_false, not_false_eq_true, true_and, and_true, if_true, if_false, ite_self, Nat.add_zero, Nat.zero_add]
          rw [if_neg (by omega), if_neg hz, if_neg (fun h => hs (c1.mp h))]
      · rw [lp_s (y := (nI (p + 1), nI (wide + w))) ?_ (by omega)]
        · exact e2
        · simp (disch := omega) only [bM_wide, le_L, L_le, lt_L, L_lt, eq_L, L_eq, ad_L, nI_add, nI_sb, sb_L, mu_L, nI_leI, nI_ltI, nI_eq, nI_clamp, inb_T, nI_cl0, lt, jn_b, bd_b, bd_s, bd_i, jn_l, jn_r, jn_i, gd_T, va_ap, upd_ap, reduceIte, Nat.reduceEqDiff, Nat.reduceAdd, Nat.reduceSub, Nat.reduceMul, Nat.reduceLT, Nat.reduceLeDiff, reduceCtorEq, Int32.reduceLT, Int32.reduceLE, one_ne_zero, zero_ne_one, not_true_eq_false, not_false_eq_true, true_and, and_true, if_true, if_false, ite_self, Nat.add_zero, Nat.zero_add]
          rw [if_neg (by omega), ← hfp, if_neg hz]
          rcases hw2 with ⟨e, rfl⟩ | ⟨e, rfl⟩
          · rw [if_pos e, if_pos (c2.mpr hs)]
          · rw [if_neg e, if_pos (c2.mpr hs)]
theorem place_2 {gT : aG} {aT : aA} {f : Nat → Int32} {np off N n : Nat} {v u : Int32} (hN : N ≤ 60) (h1 : gT 1 = nI N) (hO : off + N ≤ np) (hp : np < 2 ^ 30) (hf : ∀ i, i < N → aT 0 i = f (off + i)) (hn : 100 < n) : ∃ q, q ≤ N ∧ mT_placeOf n v u gT aT = some (nI q) ∧ mM_placeIn n f np (nI off) (nI N) v u = some (nI q) := by
  have e1 : mT_placeOf n v u gT aT = if 0 ≤ v then bd (lp (bT_start gT aT) n (0, v)) (fun x2 => lp (bT_wide n gT aT) n (x2, u)) else some 0 := rfl
  have e2 : mM_placeIn n f np (nI off) (nI N) v u = if 0 ≤ v then bd (mM_linesOf n f np (nI off) (nI N)) (fun x3 => if v < x3 then jn (lp (bM_start f np (nI off)) n (0, v)) (fun x8 => lp (bM_wide f np (nI off) (nI N) u) n (x8, 0)) else some (nI N)) else some 0 := rfl
  rw [e1, e2, lines_M hO hp (by omega)]
  by_cases hv : 0 ≤ v
  · rw [if_pos hv, if_pos hv]
    obtain ⟨L, hL, rfl⟩ := nI_of (x := v) (Int32.not_lt.mpr hv)
    have hc : cnl (aT 0) 0 N = cnl f off N := cnl_c N 0 off (fun i hi => by rw [Nat.zero_add]; exact hf i hi)
    have hcl := cnl_le f N off
    by_cases hl : L < 1 + cnl f off N
    · obtain ⟨q, hq, a1, a2⟩ := s2 hN h1 hO hp hf N 0 L n (by omega) (by omega) (by omega)
      obtain ⟨r, hr, b1, b2⟩ := w2 (m := n) (u := u) hN h1 hO hp hf (N - q) q 0 u n (by omega) (by omega) (by omega) (.inl rfl) (by omega)
      refine ⟨r, hr, ?_, ?_⟩
      · show bd (lp (bT_start gT aT) n (nI 0, nI L)) _ = _
        rw [a1]; exact b1
      · show (if nI L < nI (1 + cnl f off N) then jn (lp (bM_start f np (nI off)) n (nI 0, nI L)) (fun x8 => lp (bM_wide f np (nI off) (nI N) u) n (x8, nI 0)) else some (nI N)) = _
        rw [if_pos (nI_lt hl (by omega)), a2]; exact b2
    · refine ⟨N, by omega, ?_, ?_⟩
      · show bd (lp (bT_start gT aT) n (nI 0, nI L)) _ = _
        rw [sEnd hN h1 N 0 L n (by omega) (by omega) hL (by omega)]
        obtain ⟨r, hr, b1, b2⟩ := w2 (m := n) (u := u) hN h1 hO hp hf 0 N 0 u n (by omega) (by omega) (by omega) (.inl rfl) (by omega)
        refine lp_e ?_ (by omega)
        simp (disch := omega) only [bT_wide, h1, le_L, L_le, lt_L, L_lt, eq_L, L_eq, ad_L, nI_add, nI_sb, sb_L, mu_L, nI_leI, nI_ltI, nI_eq, nI_clamp, inb_T, nI_cl0, lt, jn_b, bd_b, bd_s, bd_i, jn_l, jn_r, jn_i, gd_T, va_ap, upd_ap, reduceIte, Nat.reduceEqDiff, Nat.reduceAdd, Nat.reduceSub, Nat.reduceMul, Nat.reduceLT, Nat.reduceLeDiff, reduceCtorEq, Int32.reduceLT, Int32.reduceLE, one_ne_zero, zero_ne_one, not_true_eq_false, not_false_eq_true, true_and, and_true, if_true, if_false, ite_self, Nat.add_zero, Nat.zero_add]
        rw [if_pos (by omega)]
      · show (if nI L < nI (1 + cnl f off N) then _ else some (nI N)) = _
        rw [if_neg (nI_nlt (by omega) hL)]
  · rw [if_neg hv, if_neg hv]
    exact ⟨0, by omega, rfl, rfl⟩
