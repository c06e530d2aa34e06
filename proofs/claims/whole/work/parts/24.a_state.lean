/-! reading a body: canonical states -/
def cG (gV : aG) (N p v u : Nat) : aG := va_up (va_up (va_up (va_up gV 9 (nI N)) 10 (nI p)) 11 (nI v)) 12 (nI u)
def rG (g : aG) (p v u d e : Nat) : aG := va_up (va_up (va_up (va_up (va_up g 8 (nI v)) 17 (nI u)) 19 (nI d)) 20 (nI p)) 21 (nI e)
theorem cG_9 {gV : aG} {N p v u : Nat} : cG gV N p v u 9 = nI N := rfl
theorem cG_10 {gV : aG} {N p v u : Nat} : cG gV N p v u 10 = nI p := rfl
theorem cG_11 {gV : aG} {N p v u : Nat} : cG gV N p v u 11 = nI v := rfl
theorem cG_12 {gV : aG} {N p v u : Nat} : cG gV N p v u 12 = nI u := rfl
theorem cG_u10 {gV : aG} {N p v u q : Nat} : va_up (cG gV N p v u) 10 (nI q) = cG gV N q v u := by
  funext j
  simp only [cG, va_ap]
  by_cases h : j = 10
  · subst h; simp
  · simp [h]
theorem cG_u11 {gV : aG} {N p v u q : Nat} : va_up (cG gV N p v u) 11 (nI q) = cG gV N p q u := by
  funext j
  simp only [cG, va_ap]
  by_cases h : j = 11
  · subst h; simp
  · simp [h]
theorem cG_u12 {gV : aG} {N p v u q : Nat} : va_up (cG gV N p v u) 12 (nI q) = cG gV N p v q := by
  funext j
  simp only [cG, va_ap]
  by_cases h : j = 12
  · subst h; simp
  · simp [h]
theorem rG_6 {g : aG} {p v u d e : Nat} : rG g p v u d e 6 = g 6 := rfl
theorem rG_8 {g : aG} {p v u d e : Nat} : rG g p v u d e 8 = nI v := rfl
theorem rG_17 {g : aG} {p v u d e : Nat} : rG g p v u d e 17 = nI u := rfl
theorem rG_19 {g : aG} {p v u d e : Nat} : rG g p v u d e 19 = nI d := rfl
theorem rG_20 {g : aG} {p v u d e : Nat} : rG g p v u d e 20 = nI p := rfl
theorem rG_21 {g : aG} {p v u d e : Nat} : rG g p v u d e 21 = nI e := rfl
theorem rG_u8 {g : aG} {p v u d e q : Nat} : va_up (rG g p v u d e) 8 (nI q) = rG g p q u d e := by
  funext j
  simp only [rG, va_ap]
  by_cases h : j = 8
  · subst h; simp
  · simp [h]
theorem rG_u17 {g : aG} {p v u d e q : Nat} : va_up (rG g p v u d e) 17 (nI q) = rG g p v q d e := by
  funext j
  simp only [rG, va_ap]
  by_cases h : j = 17
  · subst h; simp
  · simp [h]
theorem rG_u19 {g : aG} {p v u d e q : Nat} : va_up (rG g p v u d e) 19 (nI q) = rG g p v u q e := by
  funext j
  simp only [rG, va_ap]
  by_cases h : j = 19
  · subst h; simp
  · simp [h]
theorem rG_u20 {g : aG} {p v u d e q : Nat} : va_up (rG g p v u d e) 20 (nI q) = rG g q v u d e := by
  funext j
  simp only [rG, va_ap]
  by_cases h : j = 20
  · subst h; simp
  · simp [h]
theorem rG_u21 {g : aG} {p v u d e q : Nat} : va_up (rG g p v u d e) 21 (nI q) = rG g p v u d q := by
  funext j
  simp only [rG, va_ap]
  by_cases h : j = 21
  · subst h; simp
  · simp [h]
theorem rG_u21L {g : aG} {p v u d e q : Nat} : va_up (rG g p v u d e) 21 (no_index (OfNat.ofNat q) : Int32) = rG g p v u d (OfNat.ofNat q) := rG_u21
theorem rG_o {g : aG} {p v u d e j : Nat} (h : j ≠ 8 ∧ j ≠ 17 ∧ j ≠ 19 ∧ j ≠ 20 ∧ j ≠ 21) : rG g p v u d e j = g j := by
  simp only [rG, va_ap, if_neg h.1, if_neg h.2.1, if_neg h.2.2.1, if_neg h.2.2.2.1, if_neg h.2.2.2.2]
def aF (a a' : aA) : Prop := ∀ j, j = 0 ∨ 9 < j → a' j = a j
theorem aF.rf {a : aA} : aF a a := fun _ _ => rfl
theorem aF.tr {a b c : aA} (h : aF a b) (h2 : aF b c) : aF a c := fun j hj => (h2 j hj).trans (h j hj)
theorem aF.up {a : aA} {k : Nat} {f : Nat → Int32} (h : 1 ≤ k ∧ k ≤ 9) : aF a (va_up a k f) := fun j hj => va_up_ne _ _ (by omega)
/-! blanks -/
def skf (b : Nat → Int32) (N : Nat) : Nat → Nat → Nat
  | 0, p => p
  | m + 1, p => if N ≤ p then p else if b p = 32 then skf b N m (p + 1) else if b p = 10 then skf b N m (p + 1) else p
def sk (b : Nat → Int32) (N p : Nat) : Nat := skf b N (N - p) p
theorem skf_ge (b : Nat → Int32) (N : Nat) : ∀ m p, p ≤ skf b N m p := by
  intro m
  induction m with
  | zero => intro p; exact Nat.le_refl p
  | succ m ih =>
    intro p
    have := ih (p + 1)
    simp only [skf]
    split
    · omega
    split
    · omega
    split <;> omega
theorem skf_le (b : Nat → Int32) (N : Nat) : ∀ m p, p ≤ N → skf b N m p ≤ N := by
  intro m
  induction m with
  | zero => intro p h; exact h
  | succ m ih =>
    intro p h
    simp only [skf]
    split
    · exact h
    · have := ih (p + 1) (by omega)
      split
      · exact this
      split
      · exact this
      · exact h
theorem skf_end (b : Nat → Int32) (N : Nat) : ∀ m p, N ≤ p + m → skf b N m p < N → ¬ b (skf b N m p) = 32 ∧ ¬ b (skf b N m p) = 10 := by
  intro m
  induction m with
  | zero => intro p h h2; have h2 : p < N := h2; omega
  | succ m ih =>
    intro p h
    simp only [skf]
    by_cases h1 : N ≤ p
    · rw [if_pos h1]; intro h2; omega
    rw [if_neg h1]
    by_cases h3 : b p = 32
    · rw [if_pos h3]; exact ih (p + 1) (by omega)
    rw [if_neg h3]
    by_cases h4 : b p = 10
    · rw [if_pos h4]; exact ih (p + 1) (by omega)
    rw [if_neg h4]
    exact fun _ => ⟨h3, h4⟩
theorem sk_ge (b : Nat → Int32) (N p : Nat) : p ≤ sk b N p := skf_ge b N _ p
theorem sk_le {b : Nat → Int32} {N p : Nat} (h : p ≤ N) : sk b N p ≤ N := skf_le b N _ p h
theorem sk_nb {b : Nat → Int32} {N p : Nat} (h : sk b N p < N) : ¬ b (sk b N p) = 32 ∧ ¬ b (sk b N p) = 10 := skf_end b N (N - p) p (by omega) h
theorem skf_n {b : Nat → Int32} {N : Nat} : ∀ m p, p < N → ¬ b p = 32 → ¬ b p = 10 → skf b N m p = p := by
  intro m p h h1 h2
  cases m with
  | zero => rfl
  | succ m => simp only [skf, if_neg h1, if_neg h2, ite_self]
theorem sk_n {b : Nat → Int32} {N p : Nat} (h : p < N) (h1 : ¬ b p = 32) (h2 : ¬ b p = 10) : sk b N p = p := skf_n _ p h h1 h2
theorem sk_e {b : Nat → Int32} {N p : Nat} (h : N ≤ p) : sk b N p = p := by
  unfold sk
  rw [show N - p = 0 by omega]; rfl
theorem sk_id {b : Nat → Int32} {N p : Nat} : sk b N (sk b N p) = sk b N p := by
  by_cases h : sk b N p < N
  · exact sk_n h (sk_nb h).1 (sk_nb h).2
  · exact sk_e (by omega)
def bV_sb (aV : aA) : aG → Option (aG ⊕ aG) := (fun g1 => if (g1 9) ≤ (g1 10) then (some (.inr (g1))) else (gd (inb (g1 10) 200) (lt (aV 8 (g1 10).toNatClampNeg) (fun x8 => if x8 = 32 then (lt (va_up g1 10 ((g1 10) + 1)) (fun g10 => some (.inl g10))) else (gd (inb (g1 10) 200) (lt (aV 8 (g1 10).toNatClampNeg) (fun x12 => if x12 = 10 then (lt (va_up g1 10 ((g1 10) + 1)) (fun g14 => some (.inl g14))) else (some (.inr (g1))))))))))
theorem sbV_l {gV : aG} {aV : aA} {b : Nat → Int32} {N v u : Nat} (hN : N ≤ 200) (hb : ∀ i, i < N → aV 8 i = b i) : ∀ m p n, N ≤ p + m → p ≤ N → m < n → lp (bV_sb aV) n (cG gV N p v u) = some (cG gV N (skf b N m p) v u) := by
  intro m
  induction m with
  | zero =>
    intro p n h1 h2 h3
    refine lp_e ?_ h3
    simp (disch := omega) only [bV_sb, rG_6, rG_8, rG_17, rG_19, rG_20, rG_21, rG_u8, rG_u17, rG_u19, rG_u20, rG_u21, rG_u21L, cG_9, cG_10, cG_11, cG_12, cG_u10, cG_u11, cG_u12, le_L, L_le, lt_L, L_lt, eq_L, L_eq, ad_L, nI_add, nI_sb, sb_L, mu_L, nI_leI, nI_ltI, nI_eq, nI_clamp, inb_T, nI_cl0, lt, jn_b, bd_b, bd_s, bd_i, jn_l, jn_r, jn_i, gd_T, va_ap, upd_ap, reduceIte, Nat.reduceEqDiff, Nat.reduceAdd, Nat.reduceSub, Nat.reduceMul, Nat.reduceLT, Nat.reduceLeDiff, reduceCtorEq, Int32.reduceLT, Int32.reduceLE, one_ne_zero, zero_ne_one, not_true_eq_false, not_false_eq_true, true_and, and_true, if_true, if_false, ite_self, Nat.add_zero, Nat.zero_add]
    rw [if_pos (by omega)]; rfl
  | succ m ih =>
    intro p n h1 h2 h3
    simp only [skf]
    by_cases h4 : N ≤ p
    · refine lp_e ?_ (by omega)
      simp (disch := omega) only [bV_sb, h4, rG_6, rG_8, rG_17, rG_19, rG_20, rG_21, rG_u8, rG_u17, rG_u19, rG_u20, rG_u21, rG_u21L, cG_9, cG_10, cG_11, cG_12, cG_u10, cG_u11, cG_u12, le_L, L_le, lt_L, L_lt, eq_L, L_eq, ad_L, nI_add, nI_sb, sb_L, mu_L, nI_leI, nI_ltI, nI_eq, nI_clamp, inb_T, nI_cl0, lt, jn_b, bd_b, bd_s, bd_i, jn_l, jn_r, jn_i, gd_T, va_ap, upd_ap, reduceIte, Nat.reduceEqDiff, Nat.reduceAdd, Nat.reduceSub, Nat.reduceMul, Nat.reduceLT, Nat.reduceLeDiff, reduceCtorEq, Int32.reduceLT, Int32.reduceLE, one_ne_zero, zero_ne_one, not_true_eq_false, not_false_eq_true, true_and, and_true, if_true, if_false, ite_self, Nat.add_zero, Nat.zero_add]
    have hp := hb p (by omega)
    by_cases h5 : b p = 32
    · rw [if_neg h4, if_pos h5]
      refine (lp_s (y := cG gV N (p + 1) v u) ?_ (by omega)).trans (ih (p + 1) (n - 1) (by omega) (by omega) (by omega))
      simp (disch := omega) only [bV_sb, h4, hp, h5, rG_6, rG_8, rG_17, rG_19, rG_20, rG_21, rG_u8, rG_u17, rG_u19, rG_u20, rG_u21, rG_u21L, cG_9, cG_10, cG_11, cG_12, cG_u10, cG_u11, cG_u12, le_L, L_le, lt_L, L_lt, eq_L, L_eq, ad_L, nI_add, nI_sb, sb_L, mu_L, nI_leI, nI_ltI, nI_eq, nI_clamp, inb_T, nI_cl0, lt, jn_b, bd_b, bd_s, bd_i, jn_l, jn_r, jn_i, gd_T, va_ap, upd_ap, reduceIte, Nat.reduceEqDiff, Nat.reduceAdd, Nat.reduceSub, Nat.reduceMul, Nat.reduceLT, Nat.reduceLeDiff, reduceCtorEq, Int32.reduceLT, Int32.reduceLE, one_ne_zero, zero_ne_one, not_true_eq_false, not_false_eq_true, true_and, and_true, if_true, if_false, ite_self, Nat.add_zero, Nat.zero_add]
    rw [if_neg h4, if_neg h5]
    by_cases h6 : b p = 10
    · rw [if_pos h6]
      refine (lp_s (y := cG gV N (p + 1) v u) ?_ (by omega)).trans (ih (p + 1) (n - 1) (by omega) (by omega) (by omega))
      have h7 : ¬ ((10 : Int32) = 32) := by decide
      simp (disch := omega) only [bV_sb, h4, hp, h6, h7, rG_6, rG_8, rG_17, rG_19, rG_20, rG_21, rG_u8, rG_u17, rG_u19, rG_u20, rG_u21, rG_u21L, cG_9, cG_10, cG_11, cG_12, cG_u10, cG_u11, cG_u12, le_L, L_le, lt_L, L_lt, eq_L, L_eq, ad_L, nI_add, nI_sb, sb_L, mu_L, nI_leI, nI_ltI, nI_eq, nI_clamp, inb_T, nI_cl0, lt, jn_b, bd_b, bd_s, bd_i, jn_l, jn_r, jn_i, gd_T, va_ap, upd_ap, reduceIte, Nat.reduceEqDiff, Nat.reduceAdd, Nat.reduceSub, Nat.reduceMul, Nat.reduceLT, Nat.reduceLeDiff, reduceCtorEq, Int32.reduceLT, Int32.reduceLE, one_ne_zero, zero_ne_one, not_true_eq_false, not_false_eq_true, true_and, and_true, if_true, if_false, ite_self, Nat.add_zero, Nat.zero_add]
    · rw [if_neg h6]
      refine lp_e ?_ (by omega)
      simp (disch := omega) only [bV_sb, h4, hp, h5, h6, rG_6, rG_8, rG_17, rG_19, rG_20, rG_21, rG_u8, rG_u17, rG_u19, rG_u20, rG_u21, rG_u21L, cG_9, cG_10, cG_11, cG_12, cG_u10, cG_u11, cG_u12, le_L, L_le, lt_L, L_lt, eq_L, L_eq, ad_L, nI_add, nI_sb, sb_L, mu_L, nI_leI, nI_ltI, nI_eq, nI_clamp, inb_T, nI_cl0, lt, jn_b, bd_b, bd_s, bd_i, jn_l, jn_r, jn_i, gd_T, va_ap, upd_ap, reduceIte, Nat.reduceEqDiff, Nat.reduceAdd, Nat.reduceSub, Nat.reduceMul, Nat.reduceLT, Nat.reduceLeDiff, reduceCtorEq, Int32.reduceLT, Int32.reduceLE, one_ne_zero, zero_ne_one, not_true_eq_false, not_false_eq_true, true_and, and_true, if_true, if_false, ite_self, Nat.add_zero, Nat.zero_add]
theorem sbV {gV : aG} {aV : aA} {b : Nat → Int32} {N p v u n : Nat} (hN : N ≤ 200) (hb : ∀ i, i < N → aV 8 i = b i) (hp : p ≤ N) (hn : 200 < n) : mV_skipBlanks n (cG gV N p v u) aV = some (cG gV N (sk b N p) v u) := sbV_l hN hb (N - p) p n (by omega) hp (by omega)
theorem sbV9 {gV : aG} {aV : aA} {b : Nat → Int32} {N p v u n : Nat} (hN : N ≤ 200) (hb : ∀ i, i < N → aV 8 i = b i) (hp : p ≤ 202) (hn : 200 < n) : mV_skipBlanks n (cG gV N p v u) aV = some (cG gV N (sk b N p) v u) := by
  by_cases h : p ≤ N
  · exact sbV hN hb h hn
  · rw [sk_e (by omega)]
    refine lp_e (body := bV_sb aV) ?_ (by omega)
    simp (disch := omega) only [bV_sb, rG_6, rG_8, rG_17, rG_19, rG_20, rG_21, rG_u8, rG_u17, rG_u19, rG_u20, rG_u21, rG_u21L, cG_9, cG_10, cG_11, cG_12, cG_u10, cG_u11, cG_u12, le_L, L_le, lt_L, L_lt, eq_L, L_eq, ad_L, nI_add, nI_sb, sb_L, mu_L, nI_leI, nI_ltI, nI_eq, nI_clamp, inb_T, nI_cl0, lt, jn_b, bd_b, bd_s, bd_i, jn_l, jn_r, jn_i, gd_T, va_ap, upd_ap, reduceIte, Nat.reduceEqDiff, Nat.reduceAdd, Nat.reduceSub, Nat.reduceMul, Nat.reduceLT, Nat.reduceLeDiff, reduceCtorEq, Int32.reduceLT, Int32.reduceLE, one_ne_zero, zero_ne_one, not_true_eq_false, not_false_eq_true, true_and, and_true, if_true, if_false, ite_self, Nat.add_zero, Nat.zero_add]
    rw [if_pos (by omega)]
theorem sk_202 {b : Nat → Int32} {N p : Nat} (hN : N ≤ 200) (h : p ≤ 202) : sk b N p ≤ 202 := by
  by_cases h1 : p ≤ N
  · have := sk_le (b := b) h1; omega
  · rw [sk_e (by omega)]; exact h
theorem skV {gV : aG} {aV : aA} {b : Nat → Int32} {N p v u n : Nat} {c : Int32} (hN : N ≤ 200) (hb : ∀ i, i < N → aV 8 i = b i) (hp : p < N) (hc : b p = c) : mV_skip n c (cG gV N p v u) aV = some (1, cG gV N (p + 1) v u) := by
  simp (disch := omega) only [mV_skip, hb p hp, hc, rG_6, rG_8, rG_17, rG_19, rG_20, rG_21, rG_u8, rG_u17, rG_u19, rG_u20, rG_u21, rG_u21L, cG_9, cG_10, cG_11, cG_12, cG_u10, cG_u11, cG_u12, le_L, L_le, lt_L, L_lt, eq_L, L_eq, ad_L, nI_add, nI_sb, sb_L, mu_L, nI_leI, nI_ltI, nI_eq, nI_clamp, inb_T, nI_cl0, lt, jn_b, bd_b, bd_s, bd_i, jn_l, jn_r, jn_i, gd_T, va_ap, upd_ap, reduceIte, Nat.reduceEqDiff, Nat.reduceAdd, Nat.reduceSub, Nat.reduceMul, Nat.reduceLT, Nat.reduceLeDiff, reduceCtorEq, Int32.reduceLT, Int32.reduceLE, one_ne_zero, zero_ne_one, not_true_eq_false, not_false_eq_true, true_and, and_true, if_true, if_false, ite_self, Nat.add_zero, Nat.zero_add]
  rw [if_neg (by omega)]
theorem skV0 {gV : aG} {aV : aA} {b : Nat → Int32} {N p v u n : Nat} {c : Int32} (hN : N ≤ 200) (hb : ∀ i, i < N → aV 8 i = b i) (hp : p ≤ N) (hc : p < N → ¬ b p = c) : mV_skip n c (cG gV N p v u) aV = some (0, cG gV N p v u) := by
  by_cases h : p < N
  · simp (disch := omega) only [mV_skip, hb p h, hc h, rG_6, rG_8, rG_17, rG_19, rG_20, rG_21, rG_u8, rG_u17, rG_u19, rG_u20, rG_u21, rG_u21L, cG_9, cG_10, cG_11, cG_12, cG_u10, cG_u11, cG_u12, le_L, L_le, lt_L, L_lt, eq_L, L_eq, ad_L, nI_add, nI_sb, sb_L, mu_L, nI_leI, nI_ltI, nI_eq, nI_clamp, inb_T, nI_cl0, lt, jn_b, bd_b, bd_s, bd_i, jn_l, jn_r, jn_i, gd_T, va_ap, upd_ap, reduceIte, Nat.reduceEqDiff, Nat.reduceAdd, Nat.reduceSub, Nat.reduceMul, Nat.reduceLT, Nat.reduceLeDiff, reduceCtorEq, Int32.reduceLT, Int32.reduceLE, one_ne_zero, zero_ne_one, not_true_eq_false, not_false_eq_true, true_and, and_true, if_true, if_false, ite_self, Nat.add_zero, Nat.zero_add]
  · simp (disch := omega) only [mV_skip, rG_6, rG_8, rG_17, rG_19, rG_20, rG_21, rG_u8, rG_u17, rG_u19, rG_u20, rG_u21, rG_u21L, cG_9, cG_10, cG_11, cG_12, cG_u10, cG_u11, cG_u12, le_L, L_le, lt_L, L_lt, eq_L, L_eq, ad_L, nI_add, nI_sb, sb_L, mu_L, nI_leI, nI_ltI, nI_eq, nI_clamp, inb_T, nI_cl0, lt, jn_b, bd_b, bd_s, bd_i, jn_l, jn_r, jn_i, gd_T, va_ap, upd_ap, reduceIte, Nat.reduceEqDiff, Nat.reduceAdd, Nat.reduceSub, Nat.reduceMul, Nat.reduceLT, Nat.reduceLeDiff, reduceCtorEq, Int32.reduceLT, Int32.reduceLE, one_ne_zero, zero_ne_one, not_true_eq_false, not_false_eq_true, true_and, and_true, if_true, if_false, ite_self, Nat.add_zero, Nat.zero_add]
    rw [if_pos (by omega)]
