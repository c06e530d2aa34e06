theorem nI_dv {p q : Nat} (hp : p < 2 ^ 31) (hq : 0 < q) (hq2 : q < 2 ^ 31) : nI p / nI q = nI (p / q) := by
  have h1 : p / q ≤ p := Nat.div_le_self p q
  apply Int32.toInt_inj.mp
  rw [Int32.toInt_div, nI_toInt hp, nI_toInt hq2, nI_toInt (by omega), ← Int.ofNat_tdiv]
  generalize p / q = z at h1 ⊢
  exact Int.bmod_eq_of_le (by omega) (by omega)
theorem nI_mu (p q : Nat) : nI p * nI q = nI (p * q) := (Int32.ofNat_mul p q).symm
theorem nI_md {p : Nat} (hp : p < 2 ^ 31) : nI p - nI p / 10 * 10 = nI (p % 10) := by
  rw [show (10 : Int32) = nI 10 from rfl, nI_dv hp (by omega) (by omega), nI_mu, nI_sb (by omega)]
  congr 1; omega
/-! a list in the reference's frame row -/
def wl (f : Nat → Int32) (l : List Int32) : Nat → Int32 := fun i => if i < l.length then l.getD i 0 else f i
def frG (g : aG) (l : List Int32) : aG := va_up g 44 (nI l.length)
def frA (a : aA) (l : List Int32) : aA := va_up a 26 (wl (a 26) l)
theorem frG_44 {g : aG} {l : List Int32} : frG g l 44 = nI l.length := rfl
theorem frA_ne {a : aA} {l : List Int32} {j : Nat} (h : j ≠ 26) : frA a l j = a j := va_up_ne _ _ h
theorem frA_0 {a : aA} : frA a [] = a := by
  funext j
  unfold frA
  simp only [va_ap]
  by_cases h : j = 26
  · rw [if_pos h, h]; funext i; simp [wl]
  · rw [if_neg h]
theorem put_e {n : Nat} {c : Int32} {g : aG} {a : aA} {l : List Int32} (h : l.length < 64) : mM_put n c (frG g l) (frA a l) = some (frG g (l ++ [c]), frA a (l ++ [c])) := by
  have e : va_up (frA a l) 26 (upd (frA a l 26) l.length c) = frA a (l ++ [c]) := by
    unfold frA
    rw [up_up]
    congr 1
    funext i
    simp only [upd_ap, va_up_self, wl, List.length_append, List.length_cons, List.length_nil]
    by_cases h1 : i = l.length
    · rw [if_pos h1, if_pos (by omega), h1, List.getD_eq_getElem?_getD, List.getElem?_append_right (Nat.le_refl _)]; simp
    · rw [if_neg h1]
      by_cases h2 : i < l.length
      · rw [if_pos h2, if_pos (by omega), List.getD_eq_getElem?_getD, List.getD_eq_getElem?_getD, List.getElem?_append_left h2]
      · rw [if_neg h2, if_neg (by omega)]
  have e2 : va_up (frG g l) 44 (nI (l.length + 1)) = frG g (l ++ [c]) := by
    unfold frG
    rw [up_up, List.length_append]; rfl
  simp (disch := omega) only [mM_put, frG_44, e, e2, le_L, L_le, lt_L, L_lt, eq_L, L_eq, ad_L, nI_add, nI_sb, sb_L, mu_L, nI_leI, nI_ltI, nI_eq, nI_clamp, inb_T, nI_cl0, lt, jn_b, bd_b, bd_s, bd_i, jn_l, jn_r, jn_i, gd_T, va_ap, upd_ap, reduceIte, Nat.reduceEqDiff, Nat.reduceAdd, Nat.reduceSub, Nat.reduceMul, Nat.reduceLT, Nat.reduceLeDiff, reduceCtorEq, Int32.reduceLT, Int32.reduceLE, one_ne_zero, zero_ne_one, not_true_eq_false, not_false_eq_true, true_and, and_true, if_true, if_false, ite_self, Nat.add_zero, Nat.zero_add]
theorem six_e {n : Nat} {c1 c2 c3 c4 c5 c6 : Int32} {g : aG} {a : aA} {l : List Int32} (h : l.length < 58) (h6 : 0 < c6) : mM_six n c1 c2 c3 c4 c5 c6 (frG g l) (frA a l) = some (frG g (l ++ [c1, c2, c3, c4, c5, c6]), frA a (l ++ [c1, c2, c3, c4, c5, c6])) := by
  have h7 : ¬ c6 ≤ 0 := Int32.not_le.mpr h6
  have hl : ∀ m : List Int32, (l ++ m).length = l.length + m.length := fun m => List.length_append
  simp (disch := first | omega | (simp only [List.length_cons, List.length_nil, List.length_append]; omega)) only [mM_six, put_e, h7, List.append_assoc, List.cons_append, List.nil_append, lt, jn_b, bd_b, bd_s, bd_i, jn_l, jn_r, jn_i, gd_T, va_ap, upd_ap, reduceIte, Nat.reduceEqDiff, Nat.reduceAdd, Nat.reduceSub, Nat.reduceMul, Nat.reduceLT, Nat.reduceLeDiff, reduceCtorEq, Int32.reduceLT, Int32.reduceLE, one_ne_zero, zero_ne_one, not_true_eq_false, not_false_eq_true, true_and, and_true, if_true, if_false, ite_self, Nat.add_zero, Nat.zero_add]
theorem five_e {n : Nat} {c1 c2 c3 c4 c5 : Int32} {g : aG} {a : aA} {l : List Int32} (h : l.length < 58) : mM_six n c1 c2 c3 c4 c5 0 (frG g l) (frA a l) = some (frG g (l ++ [c1, c2, c3, c4, c5]), frA a (l ++ [c1, c2, c3, c4, c5])) := by
  have h7 : (0 : Int32) ≤ 0 := Int32.le_refl 0
  have hl : ∀ m : List Int32, (l ++ m).length = l.length + m.length := fun m => List.length_append
  simp (disch := first | omega | (simp only [List.length_cons, List.length_nil, List.length_append]; omega)) only [mM_six, put_e, h7, List.append_assoc, List.cons_append, List.nil_append, lt, jn_b, bd_b, bd_s, bd_i, jn_l, jn_r, jn_i, gd_T, va_ap, upd_ap, reduceIte, Nat.reduceEqDiff, Nat.reduceAdd, Nat.reduceSub, Nat.reduceMul, Nat.reduceLT, Nat.reduceLeDiff, reduceCtorEq, Int32.reduceLT, Int32.reduceLE, one_ne_zero, zero_ne_one, not_true_eq_false, not_false_eq_true, true_and, and_true, if_true, if_false, ite_self, Nat.add_zero, Nat.zero_add]
def dl (w : Nat) : Nat → List Int32
  | 0 => [nI (48 + w % 10)]
  | j + 1 => nI (48 + w / 10 ^ (j + 1) % 10) :: dl w j
theorem dl_s (w : Nat) : ∀ j, dl w (j + 1) = dl (w / 10) j ++ [nI (48 + w % 10)] := by
  intro j
  induction j with
  | zero => simp [dl]
  | succ j ih =>
    show nI (48 + w / 10 ^ (j + 1 + 1) % 10) :: dl w (j + 1) = (nI (48 + (w / 10) / 10 ^ (j + 1) % 10) :: dl (w / 10) j) ++ _
    rw [ih, Nat.div_div_eq_div_mul, ← Nat.pow_succ', List.cons_append]
theorem dl_len (w : Nat) : ∀ j, (dl w j).length = j + 1 := by
  intro j
  induction j with
  | zero => rfl
  | succ j ih => simp [dl, ih]
theorem dl_d : ∀ j w, w < 10 ^ 9 → w / 10 ^ j ≤ 9 → (j = 0 ∨ 9 < w / 10 ^ (j - 1)) → dgs 10 w = dl w j := by
  intro j
  induction j with
  | zero =>
    intro w h0 h1 _
    have h2 : w < 10 := by rw [Nat.pow_zero, Nat.div_one] at h1; omega
    rw [dgs_0 h2, dl, Nat.mod_eq_of_lt h2]
  | succ j ih =>
    intro w h0 h1 h2
    have h3 : 9 < w / 10 ^ j := by rcases h2 with h2 | h2; omega; exact h2
    have h4 : 10 ≤ w := Nat.le_trans h3 (Nat.div_le_self ..)
    rw [dgs_s h0 h4, dl_s, ih (w / 10) (by omega) (by rw [Nat.div_div_eq_div_mul, ← Nat.pow_succ']; exact h1) ?_]
    cases j with
    | zero => exact .inl rfl
    | succ k => exact .inr (by rw [Nat.div_div_eq_div_mul, ← Nat.pow_succ']; exact h3)
def bM_u (x3 : Int32) : Int32 → Option (Int32 ⊕ (Int32 ⊕ (aG × aA))) := (fun x24 => gd (decide (¬ x24 = 0)) (if (x3 / x24) ≤ 9 then (some (.inr (.inl x24))) else (lt ((x24 * 10)) (fun x31 => some (.inl x31)))))
def bM_d (n : Nat) (x3 : Int32) : Int32 × aG × aA → Option ((Int32 × aG × aA) ⊕ (aG × aA)) := (fun q13 => if q13.1 ≤ 0 then (some (.inr ((q13.2.1, q13.2.2)))) else (gd (decide (¬ q13.1 = 0)) (bd (mM_put n (48 + ((x3 / q13.1) - (x3 / q13.1) / 10 * 10)) q13.2.1 q13.2.2) (fun q19 => lt ((q13.1 / 10)) (fun x23 => some (.inl (x23, q19.1, q19.2)))))))
theorem num_e0 (n : Nat) (v1 : Int32) (g : aG) (a : aA) : mM_putNumber n v1 g a = jn (α := Int32) (if 0 ≤ v1 then (some (.inl v1)) else (some (.inl (-v1)))) (fun x3 => if 0 ≤ v1 then (jn (α := Int32) (lp (ε := Int32) (bM_u x3) n 1) (fun x8 => lp (ε := Int32 × aG × aA) (bM_d n x3) n (x8, g, a))) else (bd (mM_put n 45 g a) (fun q32 => jn (α := Int32) (lp (ε := Int32) (bM_u x3) n 1) (fun x38 => lp (ε := Int32 × aG × aA) (bM_d n x3) n (x38, q32.1, q32.2))))) := rfl
theorem p10 {j : Nat} (h : j ≤ 6) : 0 < 10 ^ j ∧ 10 ^ j ≤ 10 ^ 6 := ⟨Nat.pow_pos (by omega), Nat.pow_le_pow_right (by omega) h⟩
theorem u_2 {w : Nat} (hw : w < 10 ^ 6) : ∀ m i n, i + m = 5 → m < n → (i = 0 ∨ 9 < w / 10 ^ (i - 1)) → ∃ j, j ≤ 5 ∧ lp (bM_u (nI w)) n (nI (10 ^ i)) = some (.inl (nI (10 ^ j))) ∧ w / 10 ^ j ≤ 9 ∧ (j = 0 ∨ 9 < w / 10 ^ (j - 1)) := by
  intro m
  induction m with
  | zero =>
    intro i n h1 h2 h3
    have e : i = 5 := by omega
    subst e
    refine ⟨5, by omega, lp_e ?_ h2, by omega, h3⟩
    have h4 : ¬ nI (10 ^ 5) = 0 := nI_ne0 (by omega) (by omega)
    simp only [bM_u, h4, nI_dv (show w < 2 ^ 31 by omega) (show 0 < 10 ^ 5 by omega) (by omega), not_false_eq_true, decide_true, gd_T]
    rw [if_pos (by rw [le_L (by omega) (by omega)]; omega)]
  | succ m ih =>
    intro i n h1 h2 h3
    obtain ⟨p1, p2⟩ := p10 (j := i) (by omega)
    have h4 : ¬ nI (10 ^ i) = 0 := nI_ne0 p1 (by omega)
    have h5 : w / 10 ^ i ≤ w := Nat.div_le_self ..
    by_cases h6 : w / 10 ^ i ≤ 9
    · refine ⟨i, by omega, lp_e ?_ (by omega), h6, h3⟩
      simp only [bM_u, h4, nI_dv (show w < 2 ^ 31 by omega) p1 (show 10 ^ i < 2 ^ 31 by omega), not_false_eq_true, decide_true, gd_T]
      rw [if_pos (by rw [le_L (by omega) (by omega)]; omega)]
    · obtain ⟨j, f1, f2, f3, f4⟩ := ih (i + 1) (n - 1) (by omega) (by omega) (.inr (by rw [Nat.add_sub_cancel]; omega))
      refine ⟨j, f1, (lp_s ?_ (by omega)).trans f2, f3, f4⟩
      simp only [bM_u, h4, nI_dv (show w < 2 ^ 31 by omega) p1 (show 10 ^ i < 2 ^ 31 by omega), not_false_eq_true, decide_true, gd_T, lt]
      rw [if_neg (by rw [le_L (by omega) (by omega)]; omega), show (10 : Int32) = nI 10 from rfl, nI_mu, ← Nat.pow_succ]
theorem d_2 {w : Nat} {g : aG} {a : aA} {n : Nat} (hw : w < 10 ^ 6) : ∀ j k l, j ≤ 5 → j + 1 < k → l.length + j < 63 → lp (bM_d n (nI w)) k (nI (10 ^ j), frG g l, frA a l) = some (frG g (l ++ dl w j), frA a (l ++ dl w j)) := by
  intro j
  induction j with
  | zero =>
    intro k l h1 h2 h3
    have h4 : ¬ nI (10 ^ 0) ≤ 0 := nI_nle (by omega) (by omega)
    have h5 : ¬ nI (10 ^ 0) = 0 := nI_ne0 (by omega) (by omega)
    refine (lp_s (y := (0, frG g (l ++ dl w 0), frA a (l ++ dl w 0))) ?_ (by omega)).trans (lp_e ?_ (by omega))
    · have h6 : (48 : Int32) + (nI w / nI (10 ^ 0) - nI w / nI (10 ^ 0) / 10 * 10) = nI (48 + w % 10) := by
        rw [nI_dv (by omega) (by omega) (by omega), nI_md (by rw [Nat.pow_zero, Nat.div_one]; omega), Nat.pow_zero, Nat.div_one]; exact nI_add 48 _
      simp only [bM_d, h4, h5, h6, put_e (show l.length < 64 by omega), not_false_eq_true, decide_true, lt, jn_b, bd_b, bd_s, bd_i, jn_l, jn_r, jn_i, gd_T, va_ap, upd_ap, reduceIte, Nat.reduceEqDiff, Nat.reduceAdd, Nat.reduceSub, Nat.reduceMul, Nat.reduceLT, Nat.reduceLeDiff, reduceCtorEq, Int32.reduceLT, Int32.reduceLE, one_ne_zero, zero_ne_one, not_true_eq_false, not_false_eq_true, true_and, and_true, if_true, if_false, ite_self, Nat.add_zero, Nat.zero_add]
      rfl
    · have h6 : (0 : Int32) ≤ 0 := Int32.le_refl 0
      simp only [bM_d, h6, if_true]
  | succ j ih =>
    intro k l h1 h2 h3
    obtain ⟨p1, p2⟩ := p10 (j := j + 1) (by omega)
    have h4 : ¬ nI (10 ^ (j + 1)) ≤ 0 := nI_nle p1 (by omega)
    have h5 : ¬ nI (10 ^ (j + 1)) = 0 := nI_ne0 p1 (by omega)
    have h7 : w / 10 ^ (j + 1) ≤ w := Nat.div_le_self ..
    refine (lp_s (y := (nI (10 ^ j), frG g (l ++ [nI (48 + w / 10 ^ (j + 1) % 10)]), frA a (l ++ [nI (48 + w / 10 ^ (j + 1) % 10)]))) ?_ (by omega)).trans ((ih (k - 1) _ (by omega) (by omega) (by simp only [List.length_append, List.length_cons, List.length_nil]; omega)).trans ?_)
    · have h6 : (48 : Int32) + (nI w / nI (10 ^ (j + 1)) - nI w / nI (10 ^ (j + 1)) / 10 * 10) = nI (48 + w / 10 ^ (j + 1) % 10) := by
        rw [nI_dv (by omega) p1 (by omega), nI_md (by omega)]; exact nI_add 48 _
      have h8 : nI (10 ^ (j + 1)) / 10 = nI (10 ^ j) := by
        rw [show (10 : Int32) = nI 10 from rfl, nI_dv (by omega) (by omega) (by omega), Nat.pow_succ, Nat.mul_div_cancel _ (by omega)]
      simp only [bM_d, h4, h5, h6, h8, put_e (show l.length < 64 by omega), not_false_eq_true, decide_true, lt, jn_b, bd_b, bd_s, bd_i, jn_l, jn_r, jn_i, gd_T, va_ap, upd_ap, reduceIte, Nat.reduceEqDiff, Nat.reduceAdd, Nat.reduceSub, Nat.reduceMul, Nat.reduceLT, Nat.reduceLeDiff, reduceCtorEq, Int32.reduceLT, Int32.reduceLE, one_ne_zero, zero_ne_one, not_true_eq_false, not_false_eq_true, true_and, and_true, if_true, if_false, ite_self, Nat.add_zero, Nat.zero_add]
    · rw [List.append_assoc]; rfl
theorem num_e {n w : Nat} {b : Bool} {g : aG} {a : aA} {l : List Int32} (hw : w < 10 ^ 6) (hb : b = true → 1 ≤ w) (hl : l.length < 50) (hn : 20 < n) : mM_putNumber n (sg b w) (frG g l) (frA a l) = some (frG g (l ++ dTw b w), frA a (l ++ dTw b w)) := by
  obtain ⟨j, j1, j2, j3, j4⟩ := u_2 hw 5 0 n (by omega) (by omega) (.inl rfl)
  have j2 : lp (bM_u (nI w)) n 1 = some (.inl (nI (10 ^ j))) := j2
  have hd : dgs 10 w = dl w j := dl_d j w (by omega) j3 j4
  cases b with
  | false =>
    have h1 : 0 ≤ nI w := nI_pos' (by omega)
    rw [num_e0]
    simp only [sg, h1, j2, dTw, hd, d_2 hw j n l j1 (by omega) (by omega), Bool.false_eq_true, List.nil_append, lt, jn_b, bd_b, bd_s, bd_i, jn_l, jn_r, jn_i, gd_T, va_ap, upd_ap, reduceIte, Nat.reduceEqDiff, Nat.reduceAdd, Nat.reduceSub, Nat.reduceMul, Nat.reduceLT, Nat.reduceLeDiff, reduceCtorEq, Int32.reduceLT, Int32.reduceLE, one_ne_zero, zero_ne_one, not_true_eq_false, not_false_eq_true, true_and, and_true, if_true, if_false, ite_self, Nat.add_zero, Nat.zero_add]
  | true =>
    have h0 := hb rfl
    have h1 : ¬ (0 ≤ -(nI w)) := by
      rw [Int32.le_iff_toInt_le, nN_toInt (by omega)]
      have : (0 : Int32).toInt = 0 := by decide
      omega
    have h2 : - -(nI w) = nI w := Int32.neg_neg
    rw [num_e0]
    simp only [sg, h1, h2, j2, dTw, hd, put_e (show l.length < 64 by omega), d_2 hw j n (l ++ [45]) j1 (by omega) (by simp only [List.length_append, List.length_cons, List.length_nil]; omega), List.append_assoc, lt, jn_b, bd_b, bd_s, bd_i, jn_l, jn_r, jn_i, gd_T, va_ap, upd_ap, reduceIte, Nat.reduceEqDiff, Nat.reduceAdd, Nat.reduceSub, Nat.reduceMul, Nat.reduceLT, Nat.reduceLeDiff, reduceCtorEq, Int32.reduceLT, Int32.reduceLE, one_ne_zero, zero_ne_one, not_true_eq_false, not_false_eq_true, true_and, and_true, if_true, if_false, ite_self, Nat.add_zero, Nat.zero_add]
