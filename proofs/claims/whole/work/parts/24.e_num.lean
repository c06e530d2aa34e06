theorem numV_e (n : Nat) (v1 : Int32) (gV : aG) (aV : aA) : mV_readNumber n v1 gV aV = bd (mV_skip n 45 gV aV) (fun q4 => jn (α := Int32 × aG) (lp (ε := Int32 × aG) (bV_num n aV q4) n (0, q4.2)) (fun q9 => gd (inb v1 40) (lt (va_up aV 0 (upd (aV 0) v1.toNatClampNeg 1)) (fun a11 => jn (α := Int32) (if q4.1 = 0 then (some (.inl q9.1)) else (some (.inl (-q9.1)))) (fun x14 => gd (inb v1 40) (lt (va_up a11 1 (upd (a11 1) v1.toNatClampNeg x14)) (fun a17 => lt (((q9.2 10) - (q4.2 10))) (fun x18 => jn (α := Unit) (if x18 ≤ 0 then (some (.inl ())) else (gd (inb (q4.2 10) 200) (lt (a17 8 (q4.2 10).toNatClampNeg) (fun x26 => if x26 = 48 then (if x18 ≤ 0 then (some (.inr ((0, q9.2, a17)))) else (if x18 = 1 then (if q4.1 = 0 then (some (.inr ((1, q9.2, a17)))) else (some (.inr ((0, q9.2, a17))))) else (some (.inr ((0, q9.2, a17)))))) else (some (.inl ())))))) (fun _ => if x18 ≤ 0 then (some ((0, q9.2, a17))) else (some ((1, q9.2, a17)))))))))))) := rfl
theorem numM_e (n : Nat) (v1 : Int32) (g : aG) (a : aA) : mM_numeral n v1 g a = bd (mM_peek n g a) (fun x2 => jn (α := Int32) (if x2 = 45 then (some (.inl 1)) else (some (.inl 0))) (fun x6 => jn (α := aG) (if x6 = 0 then (some (.inl g)) else (lt (va_up g 20 ((g 20) + 1)) (fun g120 => some (.inl g120)))) (fun g10 => bd (mM_peek n g10 a) (fun x13 => if x13 = 48 then (jn (α := Int32 × Int32 × aG) (lp (ε := Int32 × Int32 × aG) (bM_num0 n a) n (0, 0, g10)) (fun q72 => jn (α := Int32) (if x6 = 0 then (some (.inl q72.1)) else (some (.inl (-q72.1)))) (fun x75 => gd (inb v1 41) (lt (va_up a 2 (upd (a 2) v1.toNatClampNeg x75)) (fun a78 => if q72.2.1 ≤ 0 then (some ((0, q72.2.2, a78))) else (if 7 ≤ q72.2.1 then (some ((0, q72.2.2, a78))) else (jn (α := Unit) (if x6 = 0 then (some (.inl ())) else (some (.inr ((0, q72.2.2, a78))))) (fun _ => bd (mM_peek n q72.2.2 a78) (fun x85 => bd (mM_isDigit n x85) (fun x88 => if x88 = 0 then (some ((1, q72.2.2, a78))) else (some ((0, q72.2.2, a78))))))))))))) else (jn (α := Int32 × Int32 × aG) (lp (ε := Int32 × Int32 × aG) (bM_num n a) n (0, 0, g10)) (fun q21 => jn (α := Int32) (if x6 = 0 then (some (.inl q21.1)) else (some (.inl (-q21.1)))) (fun x24 => gd (inb v1 41) (lt (va_up a 2 (upd (a 2) v1.toNatClampNeg x24)) (fun a27 => if q21.2.1 ≤ 0 then (some ((0, q21.2.2, a27))) else (if 7 ≤ q21.2.1 then (some ((0, q21.2.2, a27))) else (jn (α := Unit) (if x6 = 0 then (some (.inl ())) else (some (.inl ()))) (fun _ => bd (mM_peek n q21.2.2 a27) (fun x34 => bd (mM_isDigit n x34) (fun x37 => if x37 = 0 then (some ((1, q21.2.2, a27))) else (some ((0, q21.2.2, a27))))))))))))))))) := rfl
def sgI (σ : Bool) (y : Int32) : Int32 := if σ = true then -y else y
def bI (σ : Bool) : Int32 := if σ = true then 1 else 0
theorem sg_rg {σ : Bool} {w : Nat} (h : w < 10 ^ 6) : rg (sgI σ (nI w)) := by
  cases σ
  · exact rg_n h
  · exact rg_neg h
/-- the class's end of a number: k digits from s0, sign σ -/
theorem numV_f {gV : aG} {aV : aA} {b : Nat → Int32} {N p w u n v s0 : Nat} {σ : Bool} (hN : N ≤ 200) (hb : ∀ i, i < N → aV 8 i = b i) (hv : v < 40) (hn : 300 < n) (hs : s0 ≤ N) (hsk : mV_skip n 45 (cG gV N p w u) aV = some (bI σ, cG gV N s0 w u)) : mV_readNumber n (nI v) (cG gV N p w u) aV = some ((if rn b N 6 s0 = 0 then 0 else if b s0 = 48 then (if rn b N 6 s0 = 1 then (if σ = true then 0 else 1) else 0) else 1), cG gV N (s0 + rn b N 6 s0) w u, va_up (va_up aV 0 (upd (aV 0) v 1)) 1 (upd (aV 1) v (sgI σ (nI (vv b (rn b N 6 s0) s0 0))))) := by
  have h1 := numV_l (gV := gV) (v := w) (u := u) (n := n) (q4 := (bI σ, cG gV N s0 w u)) hN hb (s0 := s0) rfl (by omega) 6 s0 0 n (by omega) hs (by omega) (by omega)
  have h1 : lp (bV_num n aV (bI σ, cG gV N s0 w u)) n (0, cG gV N s0 w u) = _ := h1
  have hk := rn_le b N 6 s0
  have hkN := rn_N b N 6 s0 hs
  rw [numV_e, hsk]
  generalize hkk : rn b N 6 s0 = k at *
  generalize vv b k s0 0 = V at *
  have e1 : nI (s0 + k) - nI s0 = nI k := by rw [nI_sb (by omega)]; congr 1; omega
  have b1 : bI true = 1 := rfl
  have b0 : bI false = 0 := rfl
  by_cases k0 : k = 0
  · subst k0
    have z : nI 0 ≤ 0 := Int32.le_refl _
    cases σ <;> simp only [b1, b0] at h1 <;> simp (disch := omega) only [h1, e1, b1, b0, sgI, z, Nat.add_zero, Bool.false_eq_true, rG_6, rG_8, rG_17, rG_19, rG_20, rG_21, rG_u8, rG_u17, rG_u19, rG_u20, rG_u21, rG_u21L, cG_9, cG_10, cG_11, cG_12, cG_u10, cG_u11, cG_u12, le_L, L_le, lt_L, L_lt, eq_L, L_eq, ad_L, nI_add, nI_sb, sb_L, mu_L, nI_leI, nI_ltI, nI_eq, nI_clamp, inb_T, nI_cl0, Nat.sub_self, Nat.add_sub_cancel_left, Nat.le_refl, lt, bd_s, jn_l, jn_r, gd_T, va_ap, upd_ap, reduceIte, Nat.reduceEqDiff, Nat.reduceAdd, Nat.reduceSub, Nat.reduceMul, Nat.reduceLT, Nat.reduceLeDiff, reduceCtorEq, Int32.reduceLT, Int32.reduceLE, one_ne_zero, zero_ne_one, not_true_eq_false, not_false_eq_true, true_and, and_true, if_true, if_false, ite_self, Nat.add_zero, Nat.zero_add]
  have hs2 : s0 < N := by omega
  have z : ¬ nI k ≤ 0 := nI_nle (by omega) (by omega)
  have hb0 := hb s0 hs2
  rw [if_neg k0]
  by_cases h48 : b s0 = 48
  · rw [if_pos h48]
    by_cases k1 : k = 1
    · rw [if_pos k1]
      cases σ <;> simp only [b1, b0] at h1 <;> simp (disch := omega) only [h1, e1, b1, b0, sgI, z, hb0, h48, k1, Bool.false_eq_true, rG_6, rG_8, rG_17, rG_19, rG_20, rG_21, rG_u8, rG_u17, rG_u19, rG_u20, rG_u21, rG_u21L, cG_9, cG_10, cG_11, cG_12, cG_u10, cG_u11, cG_u12, le_L, L_le, lt_L, L_lt, eq_L, L_eq, ad_L, nI_add, nI_sb, sb_L, mu_L, nI_leI, nI_ltI, nI_eq, nI_clamp, inb_T, nI_cl0, Nat.sub_self, Nat.add_sub_cancel_left, Nat.le_refl, lt, bd_s, jn_l, jn_r, gd_T, va_ap, upd_ap, reduceIte, Nat.reduceEqDiff, Nat.reduceAdd, Nat.reduceSub, Nat.reduceMul, Nat.reduceLT, Nat.reduceLeDiff, reduceCtorEq, Int32.reduceLT, Int32.reduceLE, one_ne_zero, zero_ne_one, not_true_eq_false, not_false_eq_true, true_and, and_true, if_true, if_false, ite_self, Nat.add_zero, Nat.zero_add]
    · rw [if_neg k1]
      cases σ <;> simp only [b1, b0] at h1 <;> simp (disch := omega) only [h1, e1, b1, b0, sgI, z, hb0, h48, k1, Bool.false_eq_true, rG_6, rG_8, rG_17, rG_19, rG_20, rG_21, rG_u8, rG_u17, rG_u19, rG_u20, rG_u21, rG_u21L, cG_9, cG_10, cG_11, cG_12, cG_u10, cG_u11, cG_u12, le_L, L_le, lt_L, L_lt, eq_L, L_eq, ad_L, nI_add, nI_sb, sb_L, mu_L, nI_leI, nI_ltI, nI_eq, nI_clamp, inb_T, nI_cl0, Nat.sub_self, Nat.add_sub_cancel_left, Nat.le_refl, lt, bd_s, jn_l, jn_r, gd_T, va_ap, upd_ap, reduceIte, Nat.reduceEqDiff, Nat.reduceAdd, Nat.reduceSub, Nat.reduceMul, Nat.reduceLT, Nat.reduceLeDiff, reduceCtorEq, Int32.reduceLT, Int32.reduceLE, one_ne_zero, zero_ne_one, not_true_eq_false, not_false_eq_true, true_and, and_true, if_true, if_false, ite_self, Nat.add_zero, Nat.zero_add]
  · rw [if_neg h48]
    cases σ <;> simp only [b1, b0] at h1 <;> simp (disch := omega) only [h1, e1, b1, b0, sgI, z, hb0, h48, Bool.false_eq_true, rG_6, rG_8, rG_17, rG_19, rG_20, rG_21, rG_u8, rG_u17, rG_u19, rG_u20, rG_u21, rG_u21L, cG_9, cG_10, cG_11, cG_12, cG_u10, cG_u11, cG_u12, le_L, L_le, lt_L, L_lt, eq_L, L_eq, ad_L, nI_add, nI_sb, sb_L, mu_L, nI_leI, nI_ltI, nI_eq, nI_clamp, inb_T, nI_cl0, Nat.sub_self, Nat.add_sub_cancel_left, Nat.le_refl, lt, bd_s, jn_l, jn_r, gd_T, va_ap, upd_ap, reduceIte, Nat.reduceEqDiff, Nat.reduceAdd, Nat.reduceSub, Nat.reduceMul, Nat.reduceLT, Nat.reduceLeDiff, reduceCtorEq, Int32.reduceLT, Int32.reduceLE, one_ne_zero, zero_ne_one, not_true_eq_false, not_false_eq_true, true_and, and_true, if_true, if_false, ite_self, Nat.add_zero, Nat.zero_add]
/-- the reference's number behind its sign, where it does not begin with 0 -/
theorem numM_f {g : aG} {a : aA} {b : Nat → Int32} {N w u d e n s0 v p : Nat} {σ : Bool} (hN : N ≤ 200) (hg : g 6 = nI N) (hb : ∀ i, i < N → a 0 i = b i) (hv : v < 40) (hn : 300 < n) (hs : s0 ≤ N) (hp : p < N) (hsg : (σ = true ∧ b p = 45 ∧ s0 = p + 1) ∨ (σ = false ∧ ¬ b p = 45 ∧ s0 = p)) (hz : s0 < N → ¬ b s0 = 48) : mM_numeral n (nI v) (rG g p w u d e) a = some ((if rn b N 7 s0 = 0 then 0 else if rn b N 7 s0 = 7 then 0 else 1), rG g (s0 + rn b N 7 s0) w u d e, va_up a 2 (upd (a 2) v (sgI σ (nI (vv b (rn b N 7 s0) s0 0))))) := by
  have h1 := numM_l (v := w) (u := u) (d := d) (e := e) (n := n) hN hg hb 7 s0 0 n 0 (by omega) hs (by omega) (by omega)
  have h1 : lp (bM_num n a) n (0, 0, rG g s0 w u d e) = _ := h1
  have hk := rn_le b N 7 s0
  have hkN := rn_N b N 7 s0 hs
  have hend : rn b N 7 s0 < 7 → ∃ c, mM_peek n (rG g (s0 + rn b N 7 s0) w u d e) (va_up a 2 (upd (a 2) v (sgI σ (nI (vv b (rn b N 7 s0) s0 0))))) = some c ∧ ¬ dgt c := by
    intro h7
    have h8 : ¬ (s0 + rn b N 7 s0 < N ∧ dgt (b (s0 + rn b N 7 s0))) := by
      have := (rn_s b N 7 s0).1 h7
      exact this.2
    by_cases h9 : s0 + rn b N 7 s0 < N
    · exact ⟨_, pkM hN hg (fun i hi => hb i hi) h9, fun h => h8 ⟨h9, h⟩⟩
    · exact ⟨0, pkM0 (by omega) hg (by omega), dg_0⟩
  have hpk := pkM (n := n) (v := w) (u := u) (d := d) (e := e) hN hg hb hp
  obtain ⟨c0, hc0, hc1⟩ : ∃ c, mM_peek n (rG g s0 w u d e) a = some c ∧ ¬ c = 48 := by
    by_cases h9 : s0 < N
    · exact ⟨_, pkM hN hg hb h9, hz h9⟩
    · exact ⟨0, pkM0 (by omega) hg (by omega), by decide⟩
  rw [numM_e]
  generalize hkk : rn b N 7 s0 = k at *
  generalize vv b k s0 0 = V at *
  have o7 : ∀ c : Int32, ¬ dgt c → mM_isDigit n c = some 0 := fun c h => dg_M0 h
  by_cases k0 : k = 0
  · subst k0
    have z : nI 0 ≤ 0 := Int32.le_refl _
    rcases hsg with ⟨rfl, q1, q2⟩ | ⟨rfl, q1, q2⟩
    · subst q2
      simp (disch := omega) only [hpk, q1, hc0, hc1, h1, z, sgI, Nat.add_zero, Nat.zero_add, rG_6, rG_8, rG_17, rG_19, rG_20, rG_21, rG_u8, rG_u17, rG_u19, rG_u20, rG_u21, rG_u21L, cG_9, cG_10, cG_11, cG_12, cG_u10, cG_u11, cG_u12, le_L, L_le, lt_L, L_lt, eq_L, L_eq, ad_L, nI_add, nI_sb, sb_L, mu_L, nI_leI, nI_ltI, nI_eq, nI_clamp, inb_T, nI_cl0, lt, bd_s, jn_l, jn_r, gd_T, va_ap, upd_ap, reduceIte, Nat.reduceEqDiff, Nat.reduceAdd, Nat.reduceSub, Nat.reduceMul, Nat.reduceLT, Nat.reduceLeDiff, reduceCtorEq, Int32.reduceLT, Int32.reduceLE, one_ne_zero, zero_ne_one, not_true_eq_false, not_false_eq_true, true_and, and_true, if_true, if_false, ite_self, Nat.add_zero, Nat.zero_add]
    · subst q2
      have hc0 := Option.some.inj (hpk.symm.trans hc0)
      rw [← hc0] at hc1
      simp (disch := omega) only [hpk, q1, hc1, h1, z, sgI, Nat.add_zero, Nat.zero_add, Bool.false_eq_true, rG_6, rG_8, rG_17, rG_19, rG_20, rG_21, rG_u8, rG_u17, rG_u19, rG_u20, rG_u21, rG_u21L, cG_9, cG_10, cG_11, cG_12, cG_u10, cG_u11, cG_u12, le_L, L_le, lt_L, L_lt, eq_L, L_eq, ad_L, nI_add, nI_sb, sb_L, mu_L, nI_leI, nI_ltI, nI_eq, nI_clamp, inb_T, nI_cl0, lt, bd_s, jn_l, jn_r, gd_T, va_ap, upd_ap, reduceIte, Nat.reduceEqDiff, Nat.reduceAdd, Nat.reduceSub, Nat.reduceMul, Nat.reduceLT, Nat.reduceLeDiff, reduceCtorEq, Int32.reduceLT, Int32.reduceLE, one_ne_zero, zero_ne_one, not_true_eq_false, not_false_eq_true, true_and, and_true, if_true, if_false, ite_self, Nat.add_zero, Nat.zero_add]
  have z : ¬ nI k ≤ 0 := nI_nle (by omega) (by omega)
  rw [if_neg k0]
  by_cases k7 : k = 7
  · subst k7
    have y : (7 : Int32) ≤ nI 7 := Int32.le_refl _
    rcases hsg with ⟨rfl, q1, q2⟩ | ⟨rfl, q1, q2⟩
    · subst q2
      simp (disch := omega) only [hpk, q1, hc0, hc1, h1, z, y, sgI, Nat.zero_add, rG_6, rG_8, rG_17, rG_19, rG_20, rG_21, rG_u8, rG_u17, rG_u19, rG_u20, rG_u21, rG_u21L, cG_9, cG_10, cG_11, cG_12, cG_u10, cG_u11, cG_u12, le_L, L_le, lt_L, L_lt, eq_L, L_eq, ad_L, nI_add, nI_sb, sb_L, mu_L, nI_leI, nI_ltI, nI_eq, nI_clamp, inb_T, nI_cl0, lt, bd_s, jn_l, jn_r, gd_T, va_ap, upd_ap, reduceIte, Nat.reduceEqDiff, Nat.reduceAdd, Nat.reduceSub, Nat.reduceMul, Nat.reduceLT, Nat.reduceLeDiff, reduceCtorEq, Int32.reduceLT, Int32.reduceLE, one_ne_zero, zero_ne_one, not_true_eq_false, not_false_eq_true, true_and, and_true, if_true, if_false, ite_self, Nat.add_zero, Nat.zero_add]
    · subst q2
      have hc0 := Option.some.inj (hpk.symm.trans hc0)
      rw [← hc0] at hc1
      simp (disch := omega) only [hpk, q1, hc1, h1, z, y, sgI, Nat.zero_add, Bool.false_eq_true, rG_6, rG_8, rG_17, rG_19, rG_20, rG_21, rG_u8, rG_u17, rG_u19, rG_u20, rG_u21, rG_u21L, cG_9, cG_10, cG_11, cG_12, cG_u10, cG_u11, cG_u12, le_L, L_le, lt_L, L_lt, eq_L, L_eq, ad_L, nI_add, nI_sb, sb_L, mu_L, nI_leI, nI_ltI, nI_eq, nI_clamp, inb_T, nI_cl0, lt, bd_s, jn_l, jn_r, gd_T, va_ap, upd_ap, reduceIte, Nat.reduceEqDiff, Nat.reduceAdd, Nat.reduceSub, Nat.reduceMul, Nat.reduceLT, Nat.reduceLeDiff, reduceCtorEq, Int32.reduceLT, Int32.reduceLE, one_ne_zero, zero_ne_one, not_true_eq_false, not_false_eq_true, true_and, and_true, if_true, if_false, ite_self, Nat.add_zero, Nat.zero_add]
  rw [if_neg k7]
  obtain ⟨c, hc, hd⟩ := hend (by omega)
  have y : ¬ (7 : Int32) ≤ nI k := nI_ge (b := 7) (by omega) (by omega)
  rcases hsg with ⟨rfl, q1, q2⟩ | ⟨rfl, q1, q2⟩
  · subst q2
    simp only [sgI, reduceIte] at hc
    simp (disch := omega) only [hpk, q1, hc0, hc1, h1, z, y, sgI, Nat.zero_add, hc, o7 c hd, rG_6, rG_8, rG_17, rG_19, rG_20, rG_21, rG_u8, rG_u17, rG_u19, rG_u20, rG_u21, rG_u21L, cG_9, cG_10, cG_11, cG_12, cG_u10, cG_u11, cG_u12, le_L, L_le, lt_L, L_lt, eq_L, L_eq, ad_L, nI_add, nI_sb, sb_L, mu_L, nI_leI, nI_ltI, nI_eq, nI_clamp, inb_T, nI_cl0, lt, bd_s, jn_l, jn_r, gd_T, va_ap, upd_ap, reduceIte, Nat.reduceEqDiff, Nat.reduceAdd, Nat.reduceSub, Nat.reduceMul, Nat.reduceLT, Nat.reduceLeDiff, reduceCtorEq, Int32.reduceLT, Int32.reduceLE, one_ne_zero, zero_ne_one, not_true_eq_false, not_false_eq_true, true_and, and_true, if_true, if_false, ite_self, Nat.add_zero, Nat.zero_add]
  · subst q2
    have hc0 := Option.some.inj (hpk.symm.trans hc0)
    rw [← hc0] at hc1
    simp only [sgI, Bool.false_eq_true, if_false] at hc
    simp (disch := omega) only [hpk, q1, hc1, h1, z, y, sgI, Nat.zero_add, hc, o7 c hd, Bool.false_eq_true, rG_6, rG_8, rG_17, rG_19, rG_20, rG_21, rG_u8, rG_u17, rG_u19, rG_u20, rG_u21, rG_u21L, cG_9, cG_10, cG_11, cG_12, cG_u10, cG_u11, cG_u12, le_L, L_le, lt_L, L_lt, eq_L, L_eq, ad_L, nI_add, nI_sb, sb_L, mu_L, nI_leI, nI_ltI, nI_eq, nI_clamp, inb_T, nI_cl0, lt, bd_s, jn_l, jn_r, gd_T, va_ap, upd_ap, reduceIte, Nat.reduceEqDiff, Nat.reduceAdd, Nat.reduceSub, Nat.reduceMul, Nat.reduceLT, Nat.reduceLeDiff, reduceCtorEq, Int32.reduceLT, Int32.reduceLE, one_ne_zero, zero_ne_one, not_true_eq_false, not_false_eq_true, true_and, and_true, if_true, if_false, ite_self, Nat.add_zero, Nat.zero_add]
