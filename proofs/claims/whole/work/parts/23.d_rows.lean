theorem nar_0 : vp_nar .boolean 0 = 0 := by decide +kernel
theorem nar_1 : vp_nar .boolean 1 = 1 := by decide +kernel
theorem nar_b {x : Int32} (h : bol x) : vp_nar .boolean x = x := by
  rcases h with rfl | rfl
  · exact nar_0
  · exact nar_1
theorem rg_n {w : Nat} (h : w < 10 ^ 6) : rg (nI w) := ⟨false, w, h, (fun h => by cases h), rfl⟩
theorem rg_m {w : Nat} (h : w < 10 ^ 6) (h1 : 1 ≤ w) : rg (-(nI w)) := ⟨true, w, h, fun _ => h1, rfl⟩
theorem rg_neg {w : Nat} (h : w < 10 ^ 6) : rg (-(nI w)) := by
  by_cases h1 : w = 0
  · subst h1; exact ⟨false, 0, by omega, (fun h => by cases h), by decide⟩
  · exact rg_m h (by omega)
theorem rg_chr {x : Int32} (h : chr x) : rg x := by
  obtain ⟨c, h1, h2, rfl⟩ := h
  exact rg_n (by omega)
/-- one response more, or none where sixty are kept -/
theorem add_2 {gN : aG} {aN : aA} {g : aG} {a : aA} {n : Nat} {w i r c : Int32} (h : IvA gN aN g a) (hw : bol w) (hi : rg i) (hr : bol r) (hc : rg c) (h0 : w = 0 → i = 0) : ∃ gN' aN' g' a', mN_add n w i r c gN aN = some (gN', aN') ∧ mM_respond n w i r c g a = some (g', a') ∧ IvA gN' aN' g' a' ∧ (∀ j, j ≠ 38 → g' j = g j) ∧ (∀ j, j < 22 ∨ 25 < j → a' j = a j) := by
  obtain ⟨kn, k0, k1, k2, k3⟩ := h
  by_cases hk : kn = 60
  · refine ⟨gN, aN, g, a, ?_, ?_, ⟨kn, k0, k1, k2, k3⟩, fun _ _ => rfl, fun _ _ => rfl⟩
    · simp (disch := omega) only [mN_add, k1, le_L, L_le, lt_L, L_lt, eq_L, L_eq, ad_L, nI_add, nI_sb, sb_L, mu_L, nI_leI, nI_ltI, nI_eq, nI_clamp, inb_T, nI_cl0, lt, jn_b, bd_b, bd_s, bd_i, jn_l, jn_r, jn_i, gd_T, va_ap, upd_ap, reduceIte, Nat.reduceEqDiff, Nat.reduceAdd, Nat.reduceSub, Nat.reduceMul, Nat.reduceLT, Nat.reduceLeDiff, reduceCtorEq, Int32.reduceLT, Int32.reduceLE, one_ne_zero, zero_ne_one, not_true_eq_false, not_false_eq_true, true_and, and_true, if_true, if_false, ite_self, Nat.add_zero, Nat.zero_add]
      rw [if_pos (by omega)]
    · simp (disch := omega) only [mM_respond, k2, le_L, L_le, lt_L, L_lt, eq_L, L_eq, ad_L, nI_add, nI_sb, sb_L, mu_L, nI_leI, nI_ltI, nI_eq, nI_clamp, inb_T, nI_cl0, lt, jn_b, bd_b, bd_s, bd_i, jn_l, jn_r, jn_i, gd_T, va_ap, upd_ap, reduceIte, Nat.reduceEqDiff, Nat.reduceAdd, Nat.reduceSub, Nat.reduceMul, Nat.reduceLT, Nat.reduceLeDiff, reduceCtorEq, Int32.reduceLT, Int32.reduceLE, one_ne_zero, zero_ne_one, not_true_eq_false, not_false_eq_true, true_and, and_true, if_true, if_false, ite_self, Nat.add_zero, Nat.zero_add]
      rw [if_pos hk]
  · have hx : (if w = 0 then (0 : Int32) else i) = i := by
      split
      · rename_i e; exact (h0 e).symm
      · rfl
    refine ⟨va_up gN 5 (nI (kn + 1)), (va_up (va_up (va_up (va_up aN 1 (upd (aN 1) kn w)) 0 (upd (aN 0) kn i)) 2 (upd (aN 2) kn r)) 3 (upd (aN 3) kn c)), va_up g 38 (nI (kn + 1)), (va_up (va_up (va_up (va_up a 22 (upd (a 22) kn i)) 23 (upd (a 23) kn w)) 24 (upd (a 24) kn r)) 25 (upd (a 25) kn c)), ?_, ?_, ⟨kn + 1, by omega, rfl, rfl, ?_⟩, ?_, ?_⟩
    · simp (disch := omega) only [mN_add, k1, nar_b hw, nar_b hr, le_L, L_le, lt_L, L_lt, eq_L, L_eq, ad_L, nI_add, nI_sb, sb_L, mu_L, nI_leI, nI_ltI, nI_eq, nI_clamp, inb_T, nI_cl0, lt, jn_b, bd_b, bd_s, bd_i, jn_l, jn_r, jn_i, gd_T, va_ap, upd_ap, reduceIte, Nat.reduceEqDiff, Nat.reduceAdd, Nat.reduceSub, Nat.reduceMul, Nat.reduceLT, Nat.reduceLeDiff, reduceCtorEq, Int32.reduceLT, Int32.reduceLE, one_ne_zero, zero_ne_one, not_true_eq_false, not_false_eq_true, true_and, and_true, if_true, if_false, ite_self, Nat.add_zero, Nat.zero_add]
      rw [if_neg (by omega)]
    · simp (disch := omega) only [mM_respond, k2, nar_b hw, nar_b hr, le_L, L_le, lt_L, L_lt, eq_L, L_eq, ad_L, nI_add, nI_sb, sb_L, mu_L, nI_leI, nI_ltI, nI_eq, nI_clamp, inb_T, nI_cl0, lt, jn_b, bd_b, bd_s, bd_i, jn_l, jn_r, jn_i, gd_T, va_ap, upd_ap, reduceIte, Nat.reduceEqDiff, Nat.reduceAdd, Nat.reduceSub, Nat.reduceMul, Nat.reduceLT, Nat.reduceLeDiff, reduceCtorEq, Int32.reduceLT, Int32.reduceLE, one_ne_zero, zero_ne_one, not_true_eq_false, not_false_eq_true, true_and, and_true, if_true, if_false, ite_self, Nat.add_zero, Nat.zero_add]
      rw [if_neg hk]
      split
      · rename_i e; rw [h0 e]
      · rfl
    · intro k hk1
      simp only [va_ap, upd_ap, lt, jn_b, bd_b, bd_s, bd_i, jn_l, jn_r, jn_i, gd_T, va_ap, upd_ap, reduceIte, Nat.reduceEqDiff, Nat.reduceAdd, Nat.reduceSub, Nat.reduceMul, Nat.reduceLT, Nat.reduceLeDiff, reduceCtorEq, Int32.reduceLT, Int32.reduceLE, one_ne_zero, zero_ne_one, not_true_eq_false, not_false_eq_true, true_and, and_true, if_true, if_false, ite_self, Nat.add_zero, Nat.zero_add]
      by_cases e : k = kn
      · simp only [e, if_true]
        exact ⟨trivial, trivial, trivial, trivial, hi, hw, hr, hc⟩
      · simp only [e, if_false]
        exact k3 k (by omega)
    · intro j hj
      simp only [va_ap, if_neg hj]
    · intro j hj
      simp only [va_ap]
      rw [if_neg (by omega), if_neg (by omega), if_neg (by omega), if_neg (by omega)]
/-! rows that move -/
theorem rot_2 : ∀ (m n i c : Nat) (dS : aP), i + m = c → c < 8 → m < n → ∃ d', mRot n 8 (nI c) (nI i) dS = some d' ∧ (∀ j, j < i → d' j = dS j) ∧ (∀ j, i ≤ j → j < c → d' j = dS (j + 1)) ∧ d' c = dS i ∧ (∀ j, c < j → d' j = dS j) := by
  intro m
  induction m with
  | zero =>
    intro n i c dS h1 h2 h3
    have e : i = c := by omega
    subst e
    refine ⟨dS, lp_e ?_ h3, fun _ _ => rfl, fun j h4 h5 => by omega, rfl, fun _ _ => rfl⟩
    simp only [Int32.le_refl, if_true, decide_true, gd_T]
  | succ m ih =>
    intro n i c dS h1 h2 h3
    obtain ⟨d', e1, e2, e3, e4, e5⟩ := ih (n - 1) (i + 1) c (swp dS i (i + 1)) (by omega) h2 (by omega)
    have ev : ∀ j, swp dS i (i + 1) j = if j = i + 1 then dS i else if j = i then dS (i + 1) else dS j := fun j => rfl
    refine ⟨d', ?_, ?_, ?_, ?_, ?_⟩
    · refine (lp_s ?_ (by omega)).trans e1
      simp (disch := omega) only [le_L, L_le, lt_L, L_lt, eq_L, L_eq, ad_L, nI_add, nI_sb, sb_L, mu_L, nI_leI, nI_ltI, nI_eq, nI_clamp, inb_T, nI_cl0, lt, jn_b, bd_b, bd_s, bd_i, jn_l, jn_r, jn_i, gd_T, va_ap, upd_ap, reduceIte, Nat.reduceEqDiff, Nat.reduceAdd, Nat.reduceSub, Nat.reduceMul, Nat.reduceLT, Nat.reduceLeDiff, reduceCtorEq, Int32.reduceLT, Int32.reduceLE, one_ne_zero, zero_ne_one, not_true_eq_false, not_false_eq_true, true_and, and_true, if_true, if_false, ite_self, Nat.add_zero, Nat.zero_add]
      rw [if_neg (by omega)]
    · intro j hj
      rw [e2 j (by omega), ev, if_neg (by omega), if_neg (by omega)]
    · intro j h4 h5
      by_cases h6 : j = i
      · rw [e2 j (by omega), ev, if_neg (by omega), if_pos h6, h6]
      · rw [e3 j (by omega) h5, ev, if_neg (by omega), if_neg (by omega)]
    · rw [e4, ev, if_pos rfl]
    · intro j hj
      rw [e5 j hj, ev, if_neg (by omega), if_neg (by omega)]
def rowE (a : aA) (i : Nat) (b : aA) (j : Nat) : Prop := a 16 i = b 16 j ∧ a 17 i = b 17 j ∧ a 18 i = b 18 j ∧ a 19 i = b 19 j ∧ a 20 i = b 20 j ∧ ∀ k, k < 60 → a 21 (60 * i + k) = b 21 (60 * j + k)
theorem rowE.rf {a : aA} {i : Nat} : rowE a i a i := ⟨rfl, rfl, rfl, rfl, rfl, fun _ _ => rfl⟩
theorem rowE.tr {a b c : aA} {i j k : Nat} (h : rowE a i b j) (h2 : rowE b j c k) : rowE a i c k := ⟨h.1.trans h2.1, h.2.1.trans h2.2.1, h.2.2.1.trans h2.2.2.1, h.2.2.2.1.trans h2.2.2.2.1, h.2.2.2.2.1.trans h2.2.2.2.2.1, fun x hx => (h.2.2.2.2.2 x hx).trans (h2.2.2.2.2.2 x hx)⟩
theorem txR.mv {gT : aG} {aT : aA} {f f' : Nat → Int32} {o o' : Nat} {z z' : Int32} (h : txR gT aT f o z) (hz : z' = z) (hf : ∀ k, k < 60 → f' (o' + k) = f (o + k)) : txR gT aT f' o' z' := by
  obtain ⟨N, h1, h2, h3, h4⟩ := h
  exact ⟨N, h1, h2, hz.trans h3, fun i hi => ⟨by rw [hf i (by omega)]; exact (h4 i hi).1, (h4 i hi).2⟩⟩
theorem askR.mv {r : aDS} {a b : aA} {i j : Nat} (h : askR r b j) (e : rowE a i b j) : askR r a i := by
  obtain ⟨e1, e2, e3, e4, e5, e6⟩ := e
  obtain ⟨h1, h2, ⟨kd, h3, h4, h5, h6, h7⟩, h8⟩ := h
  exact ⟨h1.trans e1.symm, by rw [e1]; exact h2, ⟨kd, h3, h4, e2.trans h5, fun z => (h6 z).trans e3.symm, fun z => ⟨(h7 z).1.trans e3.symm, (h7 z).2.trans e4.symm⟩⟩, h8.mv e5 e6⟩
def cp6 (f : Nat → Int32) (j k : Nat) : Nat → Int32 := fun x => if 60 * j ≤ x ∧ x < 60 * j + k then f (x + 60) else f x
def bM_rin (q3 : Int32 × aA) : Int32 × aA → Option ((Int32 × aA) ⊕ ((Int32 × aA) ⊕ (aG × aA))) := (fun q31 => if 60 ≤ q31.1 then (some (.inr (.inl ((q3.1 + 1), q31.2)))) else (gd (inb (((60 * q3.1) + 60) + q31.1) 480) (lt (q31.2 21 (((60 * q3.1) + 60) + q31.1).toNatClampNeg) (fun x37 => gd (inb ((60 * q3.1) + q31.1) 480) (lt (va_up q31.2 21 (upd (q31.2 21) ((60 * q3.1) + q31.1).toNatClampNeg x37)) (fun a39 => some (.inl ((q31.1 + 1), a39))))))))
theorem rin_2 {j : Nat} {b a : aA} {f : Nat → Int32} (hj : j + 1 < 8) : ∀ m k n, k + m = 60 → m < n → lp (bM_rin (nI j, b)) n (nI k, va_up a 21 (cp6 f j k)) = some (.inl (nI (j + 1), va_up a 21 (cp6 f j 60))) := by
  intro m
  induction m with
  | zero =>
    intro k n h1 h2
    have e : k = 60 := by omega
    subst e
    refine lp_e ?_ h2
    simp (disch := omega) only [bM_rin, le_L, L_le, lt_L, L_lt, eq_L, L_eq, ad_L, nI_add, nI_sb, sb_L, mu_L, nI_leI, nI_ltI, nI_eq, nI_clamp, inb_T, nI_cl0, lt, jn_b, bd_b, bd_s, bd_i, jn_l, jn_r, jn_i, gd_T, va_ap, upd_ap, reduceIte, Nat.reduceEqDiff, Nat.reduceAdd, Nat.reduceSub, Nat.reduceMul, Nat.reduceLT, Nat.reduceLeDiff, reduceCtorEq, Int32.reduceLT, Int32.reduceLE, one_ne_zero, zero_ne_one, not_true_eq_false, not_false_eq_true, true_and, and_true, if_true, if_false, ite_self, Nat.add_zero, Nat.zero_add]
  | succ m ih =>
    intro k n h1 h2
    refine (lp_s ?_ (by omega)).trans (ih (k + 1) (n - 1) (by omega) (by omega))
    simp (disch := omega) only [bM_rin, le_L, L_le, lt_L, L_lt, eq_L, L_eq, ad_L, nI_add, nI_sb, sb_L, mu_L, nI_leI, nI_ltI, nI_eq, nI_clamp, inb_T, nI_cl0, lt, jn_b, bd_b, bd_s, bd_i, jn_l, jn_r, jn_i, gd_T, va_ap, upd_ap, reduceIte, Nat.reduceEqDiff, Nat.reduceAdd, Nat.reduceSub, Nat.reduceMul, Nat.reduceLT, Nat.reduceLeDiff, reduceCtorEq, Int32.reduceLT, Int32.reduceLE, one_ne_zero, zero_ne_one, not_true_eq_false, not_false_eq_true, true_and, and_true, if_true, if_false, ite_self, Nat.add_zero, Nat.zero_add]
    rw [if_neg (by omega), up_up]
    have e : upd (cp6 f j k) (60 * j + k) (cp6 f j k (60 * j + 60 + k)) = cp6 f j (k + 1) := by
      funext x
      simp only [upd_ap, cp6]
      by_cases h3 : x = 60 * j + k
      · rw [if_pos h3, if_neg (by omega), if_pos (by omega), h3]
        congr 1; omega
      · rw [if_neg h3]
        by_cases h4 : 60 * j ≤ x ∧ x < 60 * j + k
        · rw [if_pos h4, if_pos (by omega)]
        · rw [if_neg h4, if_neg (by omega)]
    rw [e]
def bM_rem (n : Nat) (g : aG) : Int32 × aA → Option ((Int32 × aA) ⊕ (aG × aA)) := (fun q3 => if (g 31) ≤ (q3.1 + 1) then (lt (va_up g 31 ((g 31) - 1)) (fun g8 => some (.inr ((g8, q3.2))))) else (gd (inb (q3.1 + 1) 8) (lt (q3.2 16 (q3.1 + 1).toNatClampNeg) (fun x10 => gd (inb q3.1 8) (lt (va_up q3.2 16 (upd (q3.2 16) q3.1.toNatClampNeg x10)) (fun a12 => gd (inb (q3.1 + 1) 8) (lt (a12 17 (q3.1 + 1).toNatClampNeg) (fun x14 => gd (inb q3.1 8) (lt (va_up a12 17 (upd (a12 17) q3.1.toNatClampNeg x14)) (fun a16 => gd (inb (q3.1 + 1) 8) (lt (a16 18 (q3.1 + 1).toNatClampNeg) (fun x18 => gd (inb q3.1 8) (lt (va_up a16 18 (upd (a16 18) q3.1.toNatClampNeg x18)) (fun a20 => gd (inb (q3.1 + 1) 8) (lt (a20 19 (q3.1 + 1).toNatClampNeg) (fun x22 => gd (inb q3.1 8) (lt (va_up a20 19 (upd (a20 19) q3.1.toNatClampNeg x22)) (fun a24 => gd (inb (q3.1 + 1) 8) (lt (a24 20 (q3.1 + 1).toNatClampNeg) (fun x26 => gd (inb q3.1 8) (lt (va_up a24 20 (upd (a24 20) q3.1.toNatClampNeg x26)) (fun a28 => lp (ε := Int32 × aA) (fun q31 => if 60 ≤ q31.1 then (some (.inr (.inl ((q3.1 + 1), q31.2)))) else (gd (inb (((60 * q3.1) + 60) + q31.1) 480) (lt (q31.2 21 (((60 * q3.1) + 60) + q31.1).toNatClampNeg) (fun x37 => gd (inb ((60 * q3.1) + q31.1) 480) (lt (va_up q31.2 21 (upd (q31.2 21) ((60 * q3.1) + q31.1).toNatClampNeg x37)) (fun a39 => some (.inl ((q31.1 + 1), a39)))))))) n (0, a28)))))))))))))))))))))))
theorem rem_s {n j nw : Nat} {g : aG} {a : aA} (hg : g 31 = nI nw) (hw : nw ≤ 8) (hj : j + 1 < nw) (hn : 60 < n) : ∃ a', bM_rem n g (nI j, a) = some (.inl (nI (j + 1), a')) ∧ rowE a' j a (j + 1) ∧ (∀ i, i ≠ j → rowE a' i a i) ∧ (∀ i, i < 16 ∨ 21 < i → a' i = a i) := by
  refine ⟨va_up (va_up (va_up (va_up (va_up (va_up a 16 (upd (a 16) j (a 16 (j + 1)))) 17 (upd (a 17) j (a 17 (j + 1)))) 18 (upd (a 18) j (a 18 (j + 1)))) 19 (upd (a 19) j (a 19 (j + 1)))) 20 (upd (a 20) j (a 20 (j + 1)))) 21 (cp6 (a 21) j 60), ?_, ?_, ?_, ?_⟩
  · have e0 : ∀ b : aA, b = va_up b 21 (cp6 (b 21) j 0) := fun b => by
      funext x
      simp only [va_ap]
      by_cases hx : x = 21
      · rw [if_pos hx, hx]
        funext y
        simp only [cp6]
        rw [if_neg (by omega)]
      · rw [if_neg hx]
    simp (disch := omega) only [bM_rem, hg, le_L, L_le, lt_L, L_lt, eq_L, L_eq, ad_L, nI_add, nI_sb, sb_L, mu_L, nI_leI, nI_ltI, nI_eq, nI_clamp, inb_T, nI_cl0, lt, jn_b, bd_b, bd_s, bd_i, jn_l, jn_r, jn_i, gd_T, va_ap, upd_ap, reduceIte, Nat.reduceEqDiff, Nat.reduceAdd, Nat.reduceSub, Nat.reduceMul, Nat.reduceLT, Nat.reduceLeDiff, reduceCtorEq, Int32.reduceLT, Int32.reduceLE, one_ne_zero, zero_ne_one, not_true_eq_false, not_false_eq_true, true_and, and_true, if_true, if_false, ite_self, Nat.add_zero, Nat.zero_add]
    rw [if_neg (by omega)]
    have h9 := rin_2 (j := j) (b := a) (a := va_up (va_up (va_up (va_up (va_up a 16 (upd (a 16) j (a 16 (j + 1)))) 17 (upd (a 17) j (a 17 (j + 1)))) 18 (upd (a 18) j (a 18 (j + 1)))) 19 (upd (a 19) j (a 19 (j + 1)))) 20 (upd (a 20) j (a 20 (j + 1)))) (f := a 21) (by omega) 60 0 n (by omega) hn
    rw [show va_up (va_up (va_up (va_up (va_up (va_up a 16 (upd (a 16) j (a 16 (j + 1)))) 17 (upd (a 17) j (a 17 (j + 1)))) 18 (upd (a 18) j (a 18 (j + 1)))) 19 (upd (a 19) j (a 19 (j + 1)))) 20 (upd (a 20) j (a 20 (j + 1)))) 21 (cp6 (a 21) j 0) = (va_up (va_up (va_up (va_up (va_up a 16 (upd (a 16) j (a 16 (j + 1)))) 17 (upd (a 17) j (a 17 (j + 1)))) 18 (upd (a 18) j (a 18 (j + 1)))) 19 (upd (a 19) j (a 19 (j + 1)))) 20 (upd (a 20) j (a 20 (j + 1)))) from (e0 (va_up (va_up (va_up (va_up (va_up a 16 (upd (a 16) j (a 16 (j + 1)))) 17 (upd (a 17) j (a 17 (j + 1)))) 18 (upd (a 18) j (a 18 (j + 1)))) 19 (upd (a 19) j (a 19 (j + 1)))) 20 (upd (a 20) j (a 20 (j + 1))))).symm] at h9
    unfold bM_rin at h9
    simp (disch := omega) only [le_L, L_le, lt_L, L_lt, eq_L, L_eq, ad_L, nI_add, nI_sb, sb_L, mu_L, nI_leI, nI_ltI, nI_eq, nI_clamp, inb_T, nI_cl0, lt, jn_b, bd_b, bd_s, bd_i, jn_l, jn_r, jn_i, gd_T, va_ap, upd_ap, reduceIte, Nat.reduceEqDiff, Nat.reduceAdd, Nat.reduceSub, Nat.reduceMul, Nat.reduceLT, Nat.reduceLeDiff, reduceCtorEq, Int32.reduceLT, Int32.reduceLE, one_ne_zero, zero_ne_one, not_true_eq_false, not_false_eq_true, true_and, and_true, if_true, if_false, ite_self, Nat.add_zero, Nat.zero_add] at h9
    exact h9
  · refine ⟨?_, ?_, ?_, ?_, ?_, fun k hk => ?_⟩ <;> simp only [va_ap, upd_ap, lt, jn_b, bd_b, bd_s, bd_i, jn_l, jn_r, jn_i, gd_T, va_ap, upd_ap, reduceIte, Nat.reduceEqDiff, Nat.reduceAdd, Nat.reduceSub, Nat.reduceMul, Nat.reduceLT, Nat.reduceLeDiff, reduceCtorEq, Int32.reduceLT, Int32.reduceLE, one_ne_zero, zero_ne_one, not_true_eq_false, not_false_eq_true, true_and, and_true, if_true, if_false, ite_self, Nat.add_zero, Nat.zero_add]
    simp only [cp6]
    rw [if_pos (by omega)]
    congr 1; omega
  · intro i hi
    refine ⟨?_, ?_, ?_, ?_, ?_, fun k hk => ?_⟩ <;> simp only [va_ap, upd_ap, hi, lt, jn_b, bd_b, bd_s, bd_i, jn_l, jn_r, jn_i, gd_T, va_ap, upd_ap, reduceIte, Nat.reduceEqDiff, Nat.reduceAdd, Nat.reduceSub, Nat.reduceMul, Nat.reduceLT, Nat.reduceLeDiff, reduceCtorEq, Int32.reduceLT, Int32.reduceLE, one_ne_zero, zero_ne_one, not_true_eq_false, not_false_eq_true, true_and, and_true, if_true, if_false, ite_self, Nat.add_zero, Nat.zero_add]
    simp only [cp6]
    rw [if_neg (by omega)]
  · intro i hi
    simp only [va_ap]
    rw [if_neg (by omega), if_neg (by omega), if_neg (by omega), if_neg (by omega), if_neg (by omega), if_neg (by omega)]
theorem rem_l {n nw : Nat} {g : aG} (hg : g 31 = nI nw) (hw : nw ≤ 8) (hn : 60 < n) : ∀ m j a k, j + m + 1 = nw → m < k → ∃ a', lp (bM_rem n g) k (nI j, a) = some (va_up g 31 (nI (nw - 1)), a') ∧ (∀ i, i < j → rowE a' i a i) ∧ (∀ i, j ≤ i → i + 1 < nw → rowE a' i a (i + 1)) ∧ (∀ i, i < 16 ∨ 21 < i → a' i = a i) := by
  intro m
  induction m with
  | zero =>
    intro j a k h1 h2
    refine ⟨a, lp_e ?_ h2, fun _ _ => rowE.rf, fun i h3 h4 => by omega, fun _ _ => rfl⟩
    simp (disch := omega) only [bM_rem, hg, le_L, L_le, lt_L, L_lt, eq_L, L_eq, ad_L, nI_add, nI_sb, sb_L, mu_L, nI_leI, nI_ltI, nI_eq, nI_clamp, inb_T, nI_cl0, lt, jn_b, bd_b, bd_s, bd_i, jn_l, jn_r, jn_i, gd_T, va_ap, upd_ap, reduceIte, Nat.reduceEqDiff, Nat.reduceAdd, Nat.reduceSub, Nat.reduceMul, Nat.reduceLT, Nat.reduceLeDiff, reduceCtorEq, Int32.reduceLT, Int32.reduceLE, one_ne_zero, zero_ne_one, not_true_eq_false, not_false_eq_true, true_and, and_true, if_true, if_false, ite_self, Nat.add_zero, Nat.zero_add]
    rw [if_pos (by omega)]
  | succ m ih =>
    intro j a k h1 h2
    obtain ⟨a1, e1, e2, e3, e4⟩ := rem_s (a := a) hg hw (j := j) (by omega) hn
    obtain ⟨a2, f1, f2, f3, f4⟩ := ih (j + 1) a1 (k - 1) (by omega) (by omega)
    refine ⟨a2, (lp_s e1 (by omega)).trans f1, fun i hi => (f2 i (by omega)).tr (e3 i (by omega)), fun i h3 h4 => ?_, fun i hi => (f4 i hi).trans (e4 i hi)⟩
    by_cases h5 : i = j
    · subst h5
      exact (f2 i (by omega)).tr e2
    · exact (f3 i (by omega) h4).tr (e3 (i + 1) (by omega))
/-- request k is taken out on both sides -/
theorem out_2 {gQ : aG} {dO : aP} {g : aG} {a : aA} {k n nw : Nat} (h0 : nw ≤ 8) (h1 : gQ 1 = nI nw) (h2 : g 31 = nI nw) (h3 : ∀ w, w < nw → askR (dO w) a w) (hk : k < nw) (hn : 60 < n) : ∃ dO' a', mQ_takeOut n (nI k) gQ dO = some (nw - 1, va_up gQ 1 (nI (nw - 1)), dO') ∧ dO' (nw - 1) = dO k ∧ mM_remove n (nI k) g a = some (va_up g 31 (nI (nw - 1)), a') ∧ IvQ (va_up gQ 1 (nI (nw - 1))) dO' (va_up g 31 (nI (nw - 1))) a' ∧ (∀ i, i < 16 ∨ 21 < i → a' i = a i) := by
  obtain ⟨d', e1, e2, e3, e4, e5⟩ := rot_2 (nw - 1 - k) n k (nw - 1) dO (by omega) (by omega) (by omega)
  obtain ⟨a', f1, f2, f3, f4⟩ := rem_l (g := g) h2 h0 hn (nw - 1 - k) k a n (by omega) (by omega)
  refine ⟨d', a', ?_, e4, f1, ⟨nw - 1, by omega, rfl, rfl, fun w hw => ?_⟩, f4⟩
  · simp (disch := omega) only [mQ_takeOut, h1, e1, le_L, L_le, lt_L, L_lt, eq_L, L_eq, ad_L, nI_add, nI_sb, sb_L, mu_L, nI_leI, nI_ltI, nI_eq, nI_clamp, inb_T, nI_cl0, lt, jn_b, bd_b, bd_s, bd_i, jn_l, jn_r, jn_i, gd_T, va_ap, upd_ap, reduceIte, Nat.reduceEqDiff, Nat.reduceAdd, Nat.reduceSub, Nat.reduceMul, Nat.reduceLT, Nat.reduceLeDiff, reduceCtorEq, Int32.reduceLT, Int32.reduceLE, one_ne_zero, zero_ne_one, not_true_eq_false, not_false_eq_true, true_and, and_true, if_true, if_false, ite_self, Nat.add_zero, Nat.zero_add]
  · by_cases h5 : w < k
    · rw [e2 w h5]
      exact (h3 w (by omega)).mv (f2 w h5)
    · rw [e3 w (by omega) hw]
      exact (h3 (w + 1) (by omega)).mv (f3 w (by omega) (by omega))
