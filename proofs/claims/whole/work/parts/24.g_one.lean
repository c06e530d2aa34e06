/-! one token of the reference -/
theorem okz_0 : okz 0 = true := by decide
theorem okz_1 : okz 1 = true := by decide
theorem shutM {g : aG} {a : aA} {p v u d e n : Nat} (hd : 1 ≤ d) : mM_shut n (rG g p v u d e) a = some (1, rG g (p + 1) v u (d - 1) 1) := by
  simp (disch := omega) only [mM_shut, rG_6, rG_8, rG_17, rG_19, rG_20, rG_21, rG_u8, rG_u17, rG_u19, rG_u20, rG_u21, rG_u21L, cG_9, cG_10, cG_11, cG_12, cG_u10, cG_u11, cG_u12, ad_L, sb_L, lt, bd_s, jn_l, jn_r, gd_T, va_ap, upd_ap, reduceIte, Nat.reduceEqDiff, Nat.reduceAdd, Nat.reduceSub, Nat.reduceMul, Nat.reduceLT, Nat.reduceLeDiff, reduceCtorEq, Int32.reduceLT, Int32.reduceLE, one_ne_zero, zero_ne_one, not_true_eq_false, not_false_eq_true, true_and, and_true, if_true, if_false, ite_self, Nat.add_zero, Nat.zero_add]
theorem one_val {g : aG} {a : aA} {p v u d e n : Nat} {c : Int32} (he : e = 0 ∨ (e = 2 ∧ ¬ c = 93)) : mM_one n c (rG g p v u d e) a = bd (mM_value n c (rG g p v u d e) a) (fun q => gd (okz q.1) (some (q.1, q.2.1, q.2.2))) := by
  rcases he with rfl | ⟨rfl, hc⟩
  · have o0 : ¬ nI 0 = 3 := by decide
    have o1 : ¬ nI 0 = 4 := by decide
    have o2 : ¬ nI 0 = 2 := by decide
    have o3 : ¬ nI 0 = 1 := by decide
    have o4 : ¬ nI 0 = 5 := by decide
    by_cases h1 : c = 93
    · by_cases h2 : c = 125
      · exact absurd (h1.symm.trans h2) (by decide)
      · simp only [mM_one, rG_21, o0, o1, o2, o3, o4, h1, h2, reduceIte, jn_l, jn_b]
        rw [← h1]
        simp only [h2, o0, o1, o2, o3, o4, rG_21, reduceIte, jn_l]
        cases mM_value n c (rG g p v u d 0) a with
        | none => rfl
        | some q => simp only [bd_s]; cases okz q.1 <;> rfl
    · by_cases h2 : c = 125
      · simp only [mM_one, rG_21, o0, o1, o2, o3, o4, h1, h2, reduceIte, jn_l, jn_b]
        have h1' : ¬ ((125 : Int32) = 93) := by decide
        simp only [h1', o0, o1, o2, o3, o4, rG_21, reduceIte, jn_l]
        cases mM_value n 125 (rG g p v u d 0) a with
        | none => rfl
        | some q => simp only [bd_s]; cases okz q.1 <;> rfl
      · simp only [mM_one, rG_21, o0, o1, o2, o3, o4, h1, h2, reduceIte, jn_l, jn_b]
        cases mM_value n c (rG g p v u d 0) a with
        | none => rfl
        | some q => simp only [bd_s]; cases okz q.1 <;> rfl
  · have o0 : ¬ nI 2 = 3 := by decide
    have o1 : ¬ nI 2 = 4 := by decide
    have o3 : ¬ nI 2 = 1 := by decide
    have o4 : ¬ nI 2 = 5 := by decide
    by_cases h2 : c = 125
    · simp only [mM_one, rG_21, o0, o1, o3, o4, hc, h2, reduceIte, jn_l, jn_b]
      have h1' : ¬ ((125 : Int32) = 93) := by decide
      simp only [h1', o0, o1, o3, o4, rG_21, reduceIte, jn_l]
      cases mM_value n 125 (rG g p v u d 2) a with
      | none => rfl
      | some q => simp only [bd_s]; cases okz q.1 <;> rfl
    · simp only [mM_one, rG_21, o0, o1, o3, o4, hc, h2, reduceIte, jn_l, jn_b]
      cases mM_value n c (rG g p v u d 2) a with
      | none => rfl
      | some q => simp only [bd_s]; cases okz q.1 <;> rfl
theorem one_s2 {g : aG} {a : aA} {p v u d n : Nat} (hd : 1 ≤ d) : mM_one n 93 (rG g p v u d 2) a = some (1, rG g (p + 1) v u (d - 1) 1, a) := by
  have o0 : ¬ nI 2 = 3 := by decide
  have o1 : ¬ nI 2 = 4 := by decide
  have o2 : nI 2 = 2 := rfl
  simp only [mM_one, rG_21, o0, o1, if_pos o2, shutM hd, okz_1, reduceIte, jn_l, jn_r, bd_s, gd_T]
theorem one_s4 {g : aG} {a : aA} {p v u d n : Nat} (hd : 1 ≤ d) : mM_one n 125 (rG g p v u d 4) a = some (1, rG g (p + 1) v u (d - 1) 1, a) := by
  have o0 : ¬ nI 4 = 3 := by decide
  have o1 : nI 4 = 4 := rfl
  have o2 : ¬ ((125 : Int32) = 93) := by decide
  simp only [mM_one, rG_21, o0, o2, if_pos o1, shutM hd, okz_1, reduceIte, jn_l, jn_r, bd_s, gd_T]
theorem one_bh {g : aG} {a : aA} {p v u d n : Nat} {c : Int32} {r : Int32} {g' : aG} (h : mM_behind n c (rG g p v u d 1) a = some (r, g')) (hr : okz r = true) : mM_one n c (rG g p v u d 1) a = some (r, g', a) := by
  have o0 : ¬ nI 1 = 3 := by decide
  have o1 : ¬ nI 1 = 4 := by decide
  have o2 : ¬ nI 1 = 2 := by decide
  have o3 : nI 1 = 1 := rfl
  by_cases h1 : c = 93
  · by_cases h2 : c = 125
    · exact absurd (h1.symm.trans h2) (by decide)
    · simp only [mM_one, rG_21, o0, o1, o2, h1, reduceIte, jn_l]
      rw [← h1]
      simp only [h2, rG_21, o0, o1, o2, if_pos o3, h, hr, bd_s, gd_T, reduceIte, jn_l, jn_r]
  · by_cases h2 : c = 125
    · simp only [mM_one, rG_21, o0, o1, o2, h1, reduceIte, jn_l]
      simp only [rG_21, o0, o1, o2, if_pos o3, h, hr, bd_s, gd_T, reduceIte, jn_l, jn_r, ite_self]
    · simp only [mM_one, rG_21, o0, o1, o2, h1, h2, if_pos o3, h, hr, bd_s, gd_T, reduceIte, jn_l, jn_r]
theorem one_co {g : aG} {a : aA} {p v u d n : Nat} {c : Int32} : mM_one n c (rG g p v u d 5) a = some (if c = 58 then 1 else 0, rG g (p + 1) v u d 0, a) := by
  have o0 : ¬ nI 5 = 3 := by decide
  have o1 : ¬ nI 5 = 4 := by decide
  have o2 : ¬ nI 5 = 2 := by decide
  have o3 : ¬ nI 5 = 1 := by decide
  have o4 : nI 5 = 5 := rfl
  simp (disch := omega) only [mM_one, rG_21, o0, o1, o2, o3, if_pos o4, rG_20, rG_u20, rG_u21L, ad_L, reduceIte, jn_l, jn_r, lt, ite_self]
  by_cases h : c = 58
  · rw [if_pos h, if_pos h, jn_r]
  · rw [if_neg h, if_neg h, jn_r]
theorem one_nm {g : aG} {a : aA} {p v u d e n : Nat} {r : Int32} {p' u' : Nat} {a' : aA} (he : e = 3 ∨ e = 4) (hv : v ≤ 40) (hu : u ≤ u') (h : mM_string n (rG g p v u d e) a = some (r, rG g p' v u' d e, a')) : mM_one n 34 (rG g p v u d e) a = (if r = 0 then some (0, rG g p' v u' d e, a') else some (1, rG g p' v u' d 5, va_up (va_up a' 6 (upd (a' 6) v (nI u))) 7 (upd (a' 7) v (nI (u' - u))))) := by
  have o5 : ¬ ((34 : Int32) = 93) := by decide
  have o6 : ¬ ((34 : Int32) = 125) := by decide
  have e1 : nI u' - nI u = nI (u' - u) := nI_sb hu
  have e2 : inb (nI v) 41 = true := inb_T (by omega) (by omega)
  have e3 : (nI v).toNatClampNeg = v := nI_clamp (by omega)
  rcases he with rfl | rfl
  · have o0 : nI 3 = 3 := rfl
    have o2 : ¬ nI 3 = 2 := by decide
    have o3 : ¬ nI 3 = 1 := by decide
    have o4 : ¬ nI 3 = 5 := by decide
    simp only [mM_one, rG_21, if_pos o0, o2, o3, o4, o5, o6, h, rG_8, rG_17, e1, e2, e3, rG_u21L, reduceIte, jn_l, bd_s, gd_T, lt, va_ap, Nat.reduceEqDiff]
  · have o0 : ¬ nI 4 = 3 := by decide
    have o1 : nI 4 = 4 := rfl
    have o2 : ¬ nI 4 = 2 := by decide
    have o3 : ¬ nI 4 = 1 := by decide
    have o4 : ¬ nI 4 = 5 := by decide
    simp only [mM_one, rG_21, o0, if_pos o1, o2, o3, o4, o5, o6, h, rG_8, rG_17, e1, e2, e3, rG_u21L, reduceIte, jn_l, bd_s, gd_T, lt, va_ap, Nat.reduceEqDiff]
theorem one_nm0 {g : aG} {a : aA} {p v u d e n : Nat} {c : Int32} (he : e = 3 ∨ (e = 4 ∧ ¬ c = 125)) (hc : ¬ c = 34) : mM_one n c (rG g p v u d e) a = some (0, rG g p v u d e, a) := by
  rcases he with rfl | ⟨rfl, h2⟩
  · have o0 : nI 3 = 3 := rfl
    have o1 : ¬ nI 3 = 4 := by decide
    have o2 : ¬ nI 3 = 2 := by decide
    have o3 : ¬ nI 3 = 1 := by decide
    have o4 : ¬ nI 3 = 5 := by decide
    simp only [mM_one, rG_21, if_pos o0, o1, o2, o3, o4, hc, reduceIte, jn_l, ite_self]
  · have o0 : ¬ nI 4 = 3 := by decide
    have o1 : nI 4 = 4 := rfl
    have o2 : ¬ nI 4 = 2 := by decide
    have o3 : ¬ nI 4 = 1 := by decide
    have o4 : ¬ nI 4 = 5 := by decide
    simp only [mM_one, rG_21, o0, if_pos o1, o2, o3, o4, h2, hc, reduceIte, jn_l, ite_self]
/-- behind a value: kd is 3 in an array, 4 in an object -/
def clo (kd : Nat) : Int32 := if kd = 3 then 93 else 125
def nxt (kd : Nat) : Nat := if kd = 3 then 0 else 3
theorem behM {g : aG} {a : aA} {p v u d n v0 kd : Nat} {c : Int32} (hd : 1 ≤ d) (hd7 : d ≤ 6) (h9 : a 9 (d - 1) = nI v0) (hv0 : v0 < 41) (h1 : a 1 v0 = nI kd) (hk : kd = 3 ∨ kd = 4) : mM_one n c (rG g p v u d 1) a = (if c = clo kd then some (1, rG g (p + 1) v u (d - 1) 1, a) else some (if c = 44 then 1 else 0, rG g (p + 1) v u d (nxt kd), a)) := by
  have e1 : ¬ nI d = 0 := nI_ne0 (by omega) (by omega)
  have e2 : nI d - 1 = nI (d - 1) := sb_L hd
  have e3 : inb (nI (d - 1)) 7 = true := inb_T (by omega) (by omega)
  have e4 : (nI (d - 1)).toNatClampNeg = d - 1 := nI_clamp (by omega)
  have e5 : inb (nI v0) 41 = true := inb_T (by omega) (by omega)
  have e6 : (nI v0).toNatClampNeg = v0 := nI_clamp (by omega)
  have hb : mM_behind n c (rG g p v u d 1) a = (if c = clo kd then some (1, rG g (p + 1) v u (d - 1) 1) else some (if c = 44 then 1 else 0, rG g (p + 1) v u d (nxt kd))) := by
    rcases hk with rfl | rfl
    · have o1 : nI 3 = 3 := rfl
      simp only [mM_behind, rG_19, rG_20, e1, e2, e3, e4, e5, e6, h9, h1, if_pos o1, shutM hd, okz_1, clo, nxt, reduceIte, jn_l, bd_s, gd_T, lt, ad_L, rG_u20, rG_u21L]
      by_cases hc : c = 93
      · rw [if_pos hc, if_pos hc]
      · rw [if_neg hc, if_neg hc]
        by_cases h44 : c = 44
        · rw [if_pos h44, if_pos h44]
        · rw [if_neg h44, if_neg h44]
    · have o1 : ¬ nI 4 = 3 := by decide
      have o2 : ¬ (4 : Nat) = 3 := by decide
      simp only [mM_behind, rG_19, rG_20, e1, e2, e3, e4, e5, e6, h9, h1, o1, o2, shutM hd, okz_1, clo, nxt, reduceIte, jn_l, bd_s, gd_T, lt, ad_L, rG_u20, rG_u21L]
      by_cases hc : c = 125
      · rw [if_pos hc, if_pos hc]
      · rw [if_neg hc, if_neg hc]
        by_cases h44 : c = 44
        · rw [if_pos h44, if_pos h44]
        · rw [if_neg h44, if_neg h44]
  by_cases hc : c = clo kd
  · rw [if_pos hc] at hb ⊢
    exact one_bh hb okz_1
  · rw [if_neg hc] at hb ⊢
    exact one_bh hb (by split <;> decide)
theorem beh0 {g : aG} {a : aA} {p v u n : Nat} {c : Int32} : mM_one n c (rG g p v u 0 1) a = some (0, rG g p v u 0 1, a) := by
  have e1 : nI 0 = 0 := rfl
  exact one_bh (by rw [mM_behind, rG_19, if_pos e1]) okz_0
/-! the reference's loop -/
def bM_bl (n : Nat) (q17 : Int32 × Int32 × aG × aA) : aG → Option (aG ⊕ (aG ⊕ ((Int32 × Int32 × aG × aA) ⊕ ((aG × aA) ⊕ (Int32 × aG × aA))))) := (fun g36 => if (g36 6) ≤ (g36 20) then (some (.inr (.inl g36))) else (gd (inb (g36 20) 200) (lt (q17.2.2.2 0 (g36 20).toNatClampNeg) (fun x43 => bd (mM_isBlank n x43) (fun x45 => if x45 = 0 then (some (.inr (.inl g36))) else (lt (va_up g36 20 ((g36 20) + 1)) (fun g48 => some (.inl g48))))))))
theorem blM_l {g : aG} {a : aA} {b : Nat → Int32} {N v u d e n : Nat} {c k : Int32} {G : aG} (hN : N ≤ 200) (hg : g 6 = nI N) (hb : ∀ i, i < N → a 0 i = b i) : ∀ m p f, N ≤ p + m → p ≤ N → m < f → lp (bM_bl n (c, k, G, a)) f (rG g p v u d e) = some (.inl (rG g (skf b N m p) v u d e)) := by
  intro m
  induction m with
  | zero =>
    intro p f h1 h2 h3
    refine lp_e ?_ h3
    simp (disch := omega) only [bM_bl, hg, rG_6, rG_8, rG_17, rG_19, rG_20, rG_21, rG_u8, rG_u17, rG_u19, rG_u20, rG_u21, rG_u21L, cG_9, cG_10, cG_11, cG_12, cG_u10, cG_u11, cG_u12, le_L, L_le, lt_L, L_lt, eq_L, L_eq, ad_L, nI_add, nI_sb, sb_L, mu_L, nI_leI, nI_ltI, nI_eq, nI_clamp, inb_T, nI_cl0, lt, bd_s, jn_l, jn_r, gd_T, va_ap, upd_ap, reduceIte, Nat.reduceEqDiff, Nat.reduceAdd, Nat.reduceSub, Nat.reduceMul, Nat.reduceLT, Nat.reduceLeDiff, reduceCtorEq, Int32.reduceLT, Int32.reduceLE, one_ne_zero, zero_ne_one, not_true_eq_false, not_false_eq_true, true_and, and_true, if_true, if_false, ite_self, Nat.add_zero, Nat.zero_add]
    rw [if_pos (by omega)]; rfl
  | succ m ih =>
    intro p f h1 h2 h3
    simp only [skf]
    by_cases h4 : N ≤ p
    · refine lp_e ?_ (by omega)
      simp (disch := omega) only [bM_bl, hg, h4, rG_6, rG_8, rG_17, rG_19, rG_20, rG_21, rG_u8, rG_u17, rG_u19, rG_u20, rG_u21, rG_u21L, cG_9, cG_10, cG_11, cG_12, cG_u10, cG_u11, cG_u12, le_L, L_le, lt_L, L_lt, eq_L, L_eq, ad_L, nI_add, nI_sb, sb_L, mu_L, nI_leI, nI_ltI, nI_eq, nI_clamp, inb_T, nI_cl0, lt, bd_s, jn_l, jn_r, gd_T, va_ap, upd_ap, reduceIte, Nat.reduceEqDiff, Nat.reduceAdd, Nat.reduceSub, Nat.reduceMul, Nat.reduceLT, Nat.reduceLeDiff, reduceCtorEq, Int32.reduceLT, Int32.reduceLE, one_ne_zero, zero_ne_one, not_true_eq_false, not_false_eq_true, true_and, and_true, if_true, if_false, ite_self, Nat.add_zero, Nat.zero_add]
    have hp := hb p (by omega)
    by_cases h5 : b p = 32
    · rw [if_neg h4, if_pos h5]
      refine (lp_s (y := rG g (p + 1) v u d e) ?_ (by omega)).trans (ih (p + 1) (f - 1) (by omega) (by omega) (by omega))
      simp (disch := omega) only [bM_bl, hg, h4, hp, h5, mM_isBlank, rG_6, rG_8, rG_17, rG_19, rG_20, rG_21, rG_u8, rG_u17, rG_u19, rG_u20, rG_u21, rG_u21L, cG_9, cG_10, cG_11, cG_12, cG_u10, cG_u11, cG_u12, le_L, L_le, lt_L, L_lt, eq_L, L_eq, ad_L, nI_add, nI_sb, sb_L, mu_L, nI_leI, nI_ltI, nI_eq, nI_clamp, inb_T, nI_cl0, lt, bd_s, jn_l, jn_r, gd_T, va_ap, upd_ap, reduceIte, Nat.reduceEqDiff, Nat.reduceAdd, Nat.reduceSub, Nat.reduceMul, Nat.reduceLT, Nat.reduceLeDiff, reduceCtorEq, Int32.reduceLT, Int32.reduceLE, one_ne_zero, zero_ne_one, not_true_eq_false, not_false_eq_true, true_and, and_true, if_true, if_false, ite_self, Nat.add_zero, Nat.zero_add]
    rw [if_neg h4, if_neg h5]
    by_cases h6 : b p = 10
    · rw [if_pos h6]
      refine (lp_s (y := rG g (p + 1) v u d e) ?_ (by omega)).trans (ih (p + 1) (f - 1) (by omega) (by omega) (by omega))
      have h7 : ¬ ((10 : Int32) = 32) := by decide
      simp (disch := omega) only [bM_bl, hg, h4, hp, h6, h7, mM_isBlank, rG_6, rG_8, rG_17, rG_19, rG_20, rG_21, rG_u8, rG_u17, rG_u19, rG_u20, rG_u21, rG_u21L, cG_9, cG_10, cG_11, cG_12, cG_u10, cG_u11, cG_u12, le_L, L_le, lt_L, L_lt, eq_L, L_eq, ad_L, nI_add, nI_sb, sb_L, mu_L, nI_leI, nI_ltI, nI_eq, nI_clamp, inb_T, nI_cl0, lt, bd_s, jn_l, jn_r, gd_T, va_ap, upd_ap, reduceIte, Nat.reduceEqDiff, Nat.reduceAdd, Nat.reduceSub, Nat.reduceMul, Nat.reduceLT, Nat.reduceLeDiff, reduceCtorEq, Int32.reduceLT, Int32.reduceLE, one_ne_zero, zero_ne_one, not_true_eq_false, not_false_eq_true, true_and, and_true, if_true, if_false, ite_self, Nat.add_zero, Nat.zero_add]
    · rw [if_neg h6]
      refine lp_e ?_ (by omega)
      simp (disch := omega) only [bM_bl, hg, h4, hp, h5, h6, mM_isBlank, rG_6, rG_8, rG_17, rG_19, rG_20, rG_21, rG_u8, rG_u17, rG_u19, rG_u20, rG_u21, rG_u21L, cG_9, cG_10, cG_11, cG_12, cG_u10, cG_u11, cG_u12, le_L, L_le, lt_L, L_lt, eq_L, L_eq, ad_L, nI_add, nI_sb, sb_L, mu_L, nI_leI, nI_ltI, nI_eq, nI_clamp, inb_T, nI_cl0, lt, bd_s, jn_l, jn_r, gd_T, va_ap, upd_ap, reduceIte, Nat.reduceEqDiff, Nat.reduceAdd, Nat.reduceSub, Nat.reduceMul, Nat.reduceLT, Nat.reduceLeDiff, reduceCtorEq, Int32.reduceLT, Int32.reduceLE, one_ne_zero, zero_ne_one, not_true_eq_false, not_false_eq_true, true_and, and_true, if_true, if_false, ite_self, Nat.add_zero, Nat.zero_add]
def rb (n : Nat) : Int32 × Int32 × aG × aA → Option ((Int32 × Int32 × aG × aA) ⊕ ((aG × aA) ⊕ (Int32 × aG × aA))) := fun q17 => if 400 < q17.2.1 then (some (.inr (.inr ((0, q17.2.2.1, q17.2.2.2))))) else (if q17.1 = 0 then (some (.inr (.inr ((0, q17.2.2.1, q17.2.2.2))))) else (jn (α := aG) (lp (ε := aG) (bM_bl n q17) n q17.2.2.1) (fun g25 => if (g25 20) < (g25 6) then (bd (mM_peek n g25 q17.2.2.2) (fun x29 => bd (mM_one n x29 g25 q17.2.2.2) (fun q31 => some (.inl (q31.1, (q17.2.1 + 1), q31.2.1, q31.2.2))))) else (some (.inr (.inl (g25, q17.2.2.2)))))))
theorem rb_o {g : aG} {a : aA} {b : Nat → Int32} {N p v u d e n k : Nat} {r : Int32} {G : aG} {A : aA} (hN : N ≤ 200) (hg : g 6 = nI N) (hb : ∀ i, i < N → a 0 i = b i) (hp : p ≤ N) (hk : k ≤ 400) (hn : 300 < n) (hs : sk b N p < N) (h : mM_one n (b (sk b N p)) (rG g (sk b N p) v u d e) a = some (r, G, A)) : rb n (1, nI k, rG g p v u d e, a) = some (.inl (r, nI (k + 1), G, A)) := by
  have e1 : ¬ (400 : Int32) < nI k := nI_nlt (b := k) (a := 400) (by omega) (by omega)
  have e2 := blM_l (g := g) (v := v) (u := u) (d := d) (e := e) (n := n) (c := 1) (k := nI k) (G := rG g p v u d e) hN hg hb (N - p) p n (by omega) hp (by omega)
  have e3 : nI (sk b N p) < nI N := nI_lt hs (by omega)
  have e2 : lp (bM_bl n (1, nI k, rG g p v u d e, a)) n (rG g p v u d e) = some (.inl (rG g (sk b N p) v u d e)) := e2
  simp only [rb, e1, e2, one_ne_zero, rG_20, rG_6, hg, e3, pkM hN hg hb hs, h, reduceIte, jn_l, bd_s, ad_L]
theorem rb_e {g : aG} {a : aA} {b : Nat → Int32} {N p v u d e n k : Nat} (hN : N ≤ 200) (hg : g 6 = nI N) (hb : ∀ i, i < N → a 0 i = b i) (hp : p ≤ N) (hk : k ≤ 400) (hn : 300 < n) (hs : N ≤ sk b N p) : rb n (1, nI k, rG g p v u d e, a) = some (.inr (.inl (rG g (sk b N p) v u d e, a))) := by
  have e1 : ¬ (400 : Int32) < nI k := nI_nlt (b := k) (a := 400) (by omega) (by omega)
  have e2 := blM_l (g := g) (v := v) (u := u) (d := d) (e := e) (n := n) (c := 1) (k := nI k) (G := rG g p v u d e) hN hg hb (N - p) p n (by omega) hp (by omega)
  have e3 : ¬ nI (sk b N p) < nI N := nI_nlt hs (by have := sk_le (b := b) hp; omega)
  have e2 : lp (bM_bl n (1, nI k, rG g p v u d e, a)) n (rG g p v u d e) = some (.inl (rG g (sk b N p) v u d e)) := e2
  simp only [rb, e1, e2, one_ne_zero, rG_20, rG_6, hg, e3, reduceIte, jn_l, bd_s, ad_L]
theorem rb_b {n k : Nat} {G : aG} {A : aA} : rb n (0, nI k, G, A) = some (.inr (.inr (0, G, A))) := by
  simp only [rb, reduceIte, ite_self]
