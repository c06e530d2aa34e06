def fd (f : Nat → Int32) (w : Int32) : Nat → Option Nat
  | 0 => none
  | m + 1 => match fd f w m with
    | some i => some i
    | none => if f m = w then some m else none
theorem fd_up {f : Nat → Int32} {w : Int32} {m i : Nat} (h : fd f w m = some i) : ∀ j, fd f w (m + j) = some i := by
  intro j
  induction j with
  | zero => exact h
  | succ j ih =>
    show fd f w (m + j + 1) = some i
    simp only [fd, ih]
theorem fd_lt {f : Nat → Int32} {w : Int32} : ∀ m i, fd f w m = some i → i < m := by
  intro m
  induction m with
  | zero => intro i h; simp [fd] at h
  | succ m ih =>
    intro i h
    simp only [fd] at h
    cases e : fd f w m with
    | none =>
      simp only [e] at h
      split at h
      · cases h; omega
      · cases h
    | some y =>
      simp only [e] at h
      have h2 := ih y e
      have h3 := Option.some.inj h
      omega
theorem fd_c {f f' : Nat → Int32} {w : Int32} : ∀ m, (∀ i, i < m → f i = f' i) → fd f w m = fd f' w m := by
  intro m
  induction m with
  | zero => intro _; rfl
  | succ m ih =>
    intro h
    simp only [fd]
    rw [ih (fun i hi => h i (by omega)), h m (by omega)]
def oNt (d : Int32) : Option Nat → Int32
  | none => d
  | some i => nI i
def bT_find (v1 : Int32) (gT : aG) (aT : aA) : Int32 → Option (Int32 ⊕ Int32) := (fun x1 => if (gT 1) ≤ x1 then (some (.inr ((-1)))) else (gd (inb x1 60) (lt (aT 0 x1.toNatClampNeg) (fun x8 => if x8 = v1 then (some (.inr (x1))) else (some (.inl (x1 + 1)))))))
theorem fndT {gT : aG} {aT : aA} {w : Int32} {N : Nat} (hN : N ≤ 60) (h1 : gT 1 = nI N) : ∀ j i n, i + j = N → j < n → fd (aT 0) w i = none → lp (bT_find w gT aT) n (nI i) = some (oNt (-1) (fd (aT 0) w N)) := by
  intro j
  induction j with
  | zero =>
    intro i n h2 h3 h4
    refine lp_e ?_ h3
    simp (disch := omega) only [bT_find, h1, le_L, L_le, lt_L, L_lt, eq_L, L_eq, ad_L, nI_add, nI_sb, sb_L, mu_L, nI_leI, nI_ltI, nI_eq, nI_clamp, inb_T, nI_cl0, lt, jn_b, bd_b, bd_s, bd_i, jn_l, jn_r, jn_i, gd_T, va_ap, upd_ap, reduceIte, Nat.reduceEqDiff, Nat.reduceAdd, Nat.reduceSub, Nat.reduceMul, Nat.reduceLT, Nat.reduceLeDiff, reduceCtorEq, Int32.reduceLT, Int32.reduceLE, one_ne_zero, zero_ne_one, not_true_eq_false, not_false_eq_true, true_and, and_true, if_true, if_false, ite_self, Nat.add_zero, Nat.zero_add]
    have e : i = N := by omega
    subst e
    rw [if_pos (by omega), h4]; rfl
  | succ j ih =>
    intro i n h2 h3 h4
    by_cases hz : aT 0 i = w
    · have h5 : fd (aT 0) w (i + 1) = some i := by simp only [fd, h4, hz, if_true]
      have h6 := fd_up h5 j
      rw [show i + 1 + j = N by omega] at h6
      refine lp_e ?_ (by omega)
      simp (disch := omega) only [bT_find, h1, hz, le_L, L_le, lt_L, L_lt, eq_L, L_eq, ad_L, nI_add, nI_sb, sb_L, mu_L, nI_leI, nI_ltI, nI_eq, nI_clamp, inb_T, nI_cl0, lt, jn_b, bd_b, bd_s, bd_i, jn_l, jn_r, jn_i, gd_T, va_ap, upd_ap, reduceIte, Nat.reduceEqDiff, Nat.reduceAdd, Nat.reduceSub, Nat.reduceMul, Nat.reduceLT, Nat.reduceLeDiff, reduceCtorEq, Int32.reduceLT, Int32.reduceLE, one_ne_zero, zero_ne_one, not_true_eq_false, not_false_eq_true, true_and, and_true, if_true, if_false, ite_self, Nat.add_zero, Nat.zero_add]
      rw [if_neg (by omega), h6]; rfl
    · refine (lp_s (y := nI (i + 1)) ?_ (by omega)).trans (ih (i + 1) (n - 1) (by omega) (by omega) (by simp only [fd, h4, hz, if_false]))
      simp (disch := omega) only [bT_find, h1, hz, le_L, L_le, lt_L, L_lt, eq_L, L_eq, ad_L, nI_add, nI_sb, sb_L, mu_L, nI_leI, nI_ltI, nI_eq, nI_clamp, inb_T, nI_cl0, lt, jn_b, bd_b, bd_s, bd_i, jn_l, jn_r, jn_i, gd_T, va_ap, upd_ap, reduceIte, Nat.reduceEqDiff, Nat.reduceAdd, Nat.reduceSub, Nat.reduceMul, Nat.reduceLT, Nat.reduceLeDiff, reduceCtorEq, Int32.reduceLT, Int32.reduceLE, one_ne_zero, zero_ne_one, not_true_eq_false, not_false_eq_true, true_and, and_true, if_true, if_false, ite_self, Nat.add_zero, Nat.zero_add]
      rw [if_neg (by omega)]
def bM_idx (v1 x13 : Int32) (a : aA) : Int32 × Int32 → Option ((Int32 × Int32) ⊕ (Int32 ⊕ ((aG × aA) ⊕ (Int32 × aG × aA)))) := (fun q96 => if q96.2 < 0 then (some (.inr (.inl q96.1))) else (gd (inb v1 8) (lt (a 17 v1.toNatClampNeg) (fun x102 => if x102 = 1 then (gd (inb (x13 + q96.2) 480) (lt (a 21 (x13 + q96.2).toNatClampNeg) (fun x105 => gd (inb v1 8) (lt (a 18 v1.toNatClampNeg) (fun x107 => if x105 = x107 then (some (.inl (q96.2, (q96.2 + (-1))))) else (some (.inl (q96.1, (q96.2 + (-1)))))))))) else (some (.inr (.inl q96.1)))))))
theorem m1_lt : nI 0 - 1 < 0 := by decide
theorem sbm_1 {m : Nat} (x : Int32) : x + (-1) = x - 1 := (Int32.sub_eq_add_neg x 1).symm
theorem idxM {k N : Nat} {a : aA} (hk : k < 8) (h17 : a 17 k = 1) : ∀ m r n, m ≤ 60 → m < n → lp (bM_idx (nI k) (nI (60 * k)) a) n (r, nI m - 1) = some (.inl (oNt r (fd (fun i => a 21 (60 * k + i)) (a 18 k) m))) := by
  intro m
  induction m with
  | zero =>
    intro r n h1 h2
    refine lp_e ?_ h2
    simp only [bM_idx, m1_lt, if_true]
    rfl
  | succ m ih =>
    intro r n h1 h2
    refine (lp_s (y := (if a 21 (60 * k + m) = a 18 k then nI m else r, nI m - 1)) ?_ (by omega)).trans ((ih _ (n - 1) (by omega) (by omega)).trans ?_)
    · rw [nI_pred]
      simp (disch := omega) only [bM_idx, h17, le_L, L_le, lt_L, L_lt, eq_L, L_eq, ad_L, nI_add, nI_sb, sb_L, mu_L, nI_leI, nI_ltI, nI_eq, nI_clamp, inb_T, nI_cl0, lt, jn_b, bd_b, bd_s, bd_i, jn_l, jn_r, jn_i, gd_T, va_ap, upd_ap, reduceIte, Nat.reduceEqDiff, Nat.reduceAdd, Nat.reduceSub, Nat.reduceMul, Nat.reduceLT, Nat.reduceLeDiff, reduceCtorEq, Int32.reduceLT, Int32.reduceLE, one_ne_zero, zero_ne_one, not_true_eq_false, not_false_eq_true, true_and, and_true, if_true, if_false, ite_self, Nat.add_zero, Nat.zero_add]
      rw [if_neg (by omega)]
      split <;> rw [sbm_1 (m := 0)]
    · congr 2
      simp only [fd]
      cases e : fd (fun i => a 21 (60 * k + i)) (a 18 k) m with
      | none => simp only [oNt]; split <;> rfl
      | some i => rfl
theorem idx0 {k n : Nat} {a : aA} {r y : Int32} (hk : k < 8) (h17 : ¬ a 17 k = 1) (hn : 0 < n) : lp (bM_idx (nI k) (nI (60 * k)) a) n (r, y) = some (.inl r) := by
  refine lp_e ?_ hn
  by_cases h : y < 0
  · simp only [bM_idx, h, if_true]
  · simp (disch := omega) only [bM_idx, h, h17, le_L, L_le, lt_L, L_lt, eq_L, L_eq, ad_L, nI_add, nI_sb, sb_L, mu_L, nI_leI, nI_ltI, nI_eq, nI_clamp, inb_T, nI_cl0, lt, jn_b, bd_b, bd_s, bd_i, jn_l, jn_r, jn_i, gd_T, va_ap, upd_ap, reduceIte, Nat.reduceEqDiff, Nat.reduceAdd, Nat.reduceSub, Nat.reduceMul, Nat.reduceLT, Nat.reduceLeDiff, reduceCtorEq, Int32.reduceLT, Int32.reduceLE, one_ne_zero, zero_ne_one, not_true_eq_false, not_false_eq_true, true_and, and_true, if_true, if_false, ite_self, Nat.add_zero, Nat.zero_add]
def runT (n : Nat) (k : Nat) (g : aG) (a : aA) (r : Int32) : Option (Int32 × aG × aA) := bd (mM_respond n 1 (a 16 k) (if r = -32603 then 0 else 1) r (va_up g 45 0) a) (fun q => bd (mM_remove n (nI k) q.1 q.2) (fun q' => some (a 16 k, q'.1, q'.2)))
theorem runT_i {n k : Nat} {g : aG} {a : aA} {y : Int32} : (if y = -32603 then bd (mM_respond n 1 (a 16 k) 0 y (va_up g 45 0) a) fun q => bd (mM_remove n (nI k) q.1 q.2) fun q' => some (a 16 k, q'.1, q'.2) else bd (mM_respond n 1 (a 16 k) 1 y (va_up g 45 0) a) fun q => bd (mM_remove n (nI k) q.1 q.2) fun q' => some (a 16 k, q'.1, q'.2)) = runT n k g a y := by
  by_cases z : y = -32603
  · rw [runT, if_pos z, if_pos z]
  · rw [runT, if_neg z, if_neg z]
theorem run_e (n : Nat) (v1 : Int32) (g : aG) (a : aA) : mM_run n v1 g a = lt (va_up g 45 0) (fun g1 => jn (α := aG × aA) (if v1 < 0 then (some (.inl (g1, a))) else (if v1 < (g1 31) then (lt ((60 * v1)) (fun x13 => gd (inb v1 8) (lt (a 20 v1.toNatClampNeg) (fun x15 => gd (inb v1 8) (lt (a 17 v1.toNatClampNeg) (fun x17 => jn (α := Int32) (if x17 = 0 then (some (.inl x15)) else (some (.inl (-32603)))) (fun x20 => gd (inb v1 8) (lt (a 17 v1.toNatClampNeg) (fun x23 => jn (α := Int32) (if x23 = 3 then (bd (mM_linesOf n (a 21) 480 x13 x15) (fun x148 => some (.inl x148))) else (some (.inl x20))) (fun x26 => gd (inb v1 8) (lt (a 17 v1.toNatClampNeg) (fun x29 => if x29 = 2 then (gd (inb v1 8) (lt (a 18 v1.toNatClampNeg) (fun x67 => gd (inb v1 8) (lt (a 19 v1.toNatClampNeg) (fun x69 => bd (mM_placeIn n (a 21) 480 x13 x15 x67 x69) (fun x71 => if x15 ≤ x71 then (lt ((x15 - 1)) (fun x74 => jn (α := Int32) (lp (ε := Int32 × Int32) (bM_idx v1 x13 a) n ((-32603), x74)) (fun x77 => gd (inb v1 8) (lt (a 16 v1.toNatClampNeg) (fun x80 => jn (α := Int32) (if x77 = (-32603) then (some (.inl 0)) else (some (.inl 1))) (fun x83 => bd (mM_respond n 1 x80 x83 x77 g1 a) (fun q85 => bd (mM_remove n v1 q85.1 q85.2) (fun q89 => some (.inr ((x80, q89.1, q89.2))))))))))) else (gd (inb (x13 + x71) 480) (lt (a 21 (x13 + x71).toNatClampNeg) (fun x110 => lt ((x15 - 1)) (fun x111 => jn (α := Int32) (lp (ε := Int32 × Int32) (bM_idx v1 x13 a) n (x110, x111)) (fun x114 => gd (inb v1 8) (lt (a 16 v1.toNatClampNeg) (fun x117 => jn (α := Int32) (if x114 = (-32603) then (some (.inl 0)) else (some (.inl 1))) (fun x120 => bd (mM_respond n 1 x117 x120 x114 g1 a) (fun q122 => bd (mM_remove n v1 q122.1 q122.2) (fun q126 => some (.inr ((x117, q126.1, q126.2))))))))))))))))))) else (lt ((x15 - 1)) (fun x31 => jn (α := Int32) (lp (ε := Int32 × Int32) (bM_idx v1 x13 a) n (x26, x31)) (fun x34 => gd (inb v1 8) (lt (a 16 v1.toNatClampNeg) (fun x37 => jn (α := Int32) (if x34 = (-32603) then (some (.inl 0)) else (some (.inl 1))) (fun x40 => bd (mM_respond n 1 x37 x40 x34 g1 a) (fun q42 => bd (mM_remove n v1 q42.1 q42.2) (fun q46 => some (.inr ((x37, q46.1, q46.2))))))))))))))))))))))) else (some (.inl (g1, a))))) (fun q6 => bd (mM_fail n 1 q6.1 q6.2) (fun q7 => some ((q7.1, q7.2, q6.2))))) := rfl
theorem chr_ne {x : Int32} (h : chr x) : ¬ x = -1 ∧ ¬ x = -32603 := by
  obtain ⟨c, h1, h2, rfl⟩ := h
  have h3 : (nI c).toInt = c := nI_toInt (by omega)
  refine ⟨fun e => ?_, fun e => ?_⟩
  · have := congrArg Int32.toInt e; rw [h3] at this; have h4 : (-1 : Int32).toInt = -1 := by decide
    omega
  · have := congrArg Int32.toInt e; rw [h3] at this; have h4 : (-32603 : Int32).toInt = -32603 := by decide
    omega
theorem nI_ne {c : Nat} (h : c < 1000) : ¬ nI c = -1 ∧ ¬ nI c = -32603 := by
  have h3 : (nI c).toInt = c := nI_toInt (by omega)
  refine ⟨fun e => ?_, fun e => ?_⟩
  · have := congrArg Int32.toInt e; rw [h3] at this; have h4 : (-1 : Int32).toInt = -1 := by decide
    omega
  · have := congrArg Int32.toInt e; rw [h3] at this; have h4 : (-32603 : Int32).toInt = -32603 := by decide
    omega
theorem work_2 {r : aDS} {g : aG} {a : aA} {k nw : Nat} (h : askR r a k) (hg : g 31 = nI nw) (hw : nw ≤ 8) (hk : k < nw) : ∃ x y : Int32, mK_workOut 200 r.2.1 r.2.2.1 r.2.2.2.1 r.2.2.2.2 = some x ∧ mM_run 200 (nI k) g a = runT 200 k g a y ∧ ((x = -1 ∧ y = -32603) ∨ (¬ x = -1 ∧ ¬ y = -32603 ∧ y = x ∧ rg x)) := by
  obtain ⟨h1, h2, ⟨kd, hkd, k1, k2, k3, k4⟩, ⟨N, n1, n2, n3, n4⟩⟩ := h
  have hr : kd = 0 ∨ kd = 1 ∨ kd = 2 ∨ kd = 3 := by omega
  rcases hr with rfl | rfl | rfl | rfl
  · refine ⟨nI N, nI N, ?_, ?_, .inr ⟨(nI_ne (by omega)).1, (nI_ne (by omega)).2, rfl, rg_n (by omega)⟩⟩
    · simp (disch := omega) only [mK_workOut, k1, n2, le_L, L_le, lt_L, L_lt, eq_L, L_eq, ad_L, nI_add, nI_sb, sb_L, mu_L, nI_leI, nI_ltI, nI_eq, nI_clamp, inb_T, nI_cl0, lt, jn_b, bd_b, bd_s, bd_i, jn_l, jn_r, jn_i, gd_T, va_ap, upd_ap, reduceIte, Nat.reduceEqDiff, Nat.reduceAdd, Nat.reduceSub, Nat.reduceMul, Nat.reduceLT, Nat.reduceLeDiff, reduceCtorEq, Int32.reduceLT, Int32.reduceLE, one_ne_zero, zero_ne_one, not_true_eq_false, not_false_eq_true, true_and, and_true, if_true, if_false, ite_self, Nat.add_zero, Nat.zero_add]
    · rw [run_e]
      simp (disch := omega) only [hg, k2, n3, idx0 (k := k) (a := a) (show k < 8 by omega) (by rw [k2]; decide), le_L, L_le, lt_L, L_lt, eq_L, L_eq, ad_L, nI_add, nI_sb, sb_L, mu_L, nI_leI, nI_ltI, nI_eq, nI_clamp, inb_T, nI_cl0, lt, jn_b, bd_b, bd_s, bd_i, jn_l, jn_r, jn_i, gd_T, va_ap, upd_ap, reduceIte, Nat.reduceEqDiff, Nat.reduceAdd, Nat.reduceSub, Nat.reduceMul, Nat.reduceLT, Nat.reduceLeDiff, reduceCtorEq, Int32.reduceLT, Int32.reduceLE, one_ne_zero, zero_ne_one, not_true_eq_false, not_false_eq_true, true_and, and_true, if_true, if_false, ite_self, Nat.add_zero, Nat.zero_add]
      rw [if_neg (by omega), if_pos hk, runT_i]
  · have hc : fd (r.2.2.2.2 0) (a 18 k) N = fd (fun i => a 21 (60 * k + i)) (a 18 k) N := fd_c N (fun i hi => (n4 i hi).1)
    refine ⟨oNt (-1) (fd (fun i => a 21 (60 * k + i)) (a 18 k) N), oNt (-32603) (fd (fun i => a 21 (60 * k + i)) (a 18 k) N), ?_, ?_, ?_⟩
    · rw [← hc, ← k3 rfl]
      have e : mT_find 200 (r.2.1 3) r.2.2.2.1 r.2.2.2.2 = some (oNt (-1) (fd (r.2.2.2.2 0) (r.2.1 3) N)) := fndT n1 n2 N 0 200 (by omega) (by omega) rfl
      simp (disch := omega) only [mK_workOut, k1, e, le_L, L_le, lt_L, L_lt, eq_L, L_eq, ad_L, nI_add, nI_sb, sb_L, mu_L, nI_leI, nI_ltI, nI_eq, nI_clamp, inb_T, nI_cl0, lt, jn_b, bd_b, bd_s, bd_i, jn_l, jn_r, jn_i, gd_T, va_ap, upd_ap, reduceIte, Nat.reduceEqDiff, Nat.reduceAdd, Nat.reduceSub, Nat.reduceMul, Nat.reduceLT, Nat.reduceLeDiff, reduceCtorEq, Int32.reduceLT, Int32.reduceLE, one_ne_zero, zero_ne_one, not_true_eq_false, not_false_eq_true, true_and, and_true, if_true, if_false, ite_self, Nat.add_zero, Nat.zero_add]
    · rw [run_e]
      simp (disch := omega) only [hg, k2, n3, idxM (k := k) (a := a) (N := N) (show k < 8 by omega) (by rw [k2]; rfl), le_L, L_le, lt_L, L_lt, eq_L, L_eq, ad_L, nI_add, nI_sb, sb_L, mu_L, nI_leI, nI_ltI, nI_eq, nI_clamp, inb_T, nI_cl0, lt, jn_b, bd_b, bd_s, bd_i, jn_l, jn_r, jn_i, gd_T, va_ap, upd_ap, reduceIte, Nat.reduceEqDiff, Nat.reduceAdd, Nat.reduceSub, Nat.reduceMul, Nat.reduceLT, Nat.reduceLeDiff, reduceCtorEq, Int32.reduceLT, Int32.reduceLE, one_ne_zero, zero_ne_one, not_true_eq_false, not_false_eq_true, true_and, and_true, if_true, if_false, ite_self, Nat.add_zero, Nat.zero_add]
      rw [if_neg (by omega), if_pos hk, runT_i]
    · cases e : fd (fun i => a 21 (60 * k + i)) (a 18 k) N with
      | none => exact .inl ⟨rfl, rfl⟩
      | some i =>
        have := fd_lt N i e
        exact .inr ⟨(nI_ne (by omega)).1, (nI_ne (by omega)).2, rfl, rg_n (by omega)⟩
  · obtain ⟨q, hq, e1, e2⟩ := place_2 (v := a 18 k) (u := a 19 k) (f := a 21) (off := 60 * k) (np := 480) (n := 200) n1 n2 (by omega) (by omega) (fun i hi => (n4 i hi).1) (by omega)
    by_cases hqN : q < N
    · obtain ⟨c1, c2⟩ := n4 q hqN
      refine ⟨a 21 (60 * k + q), a 21 (60 * k + q), ?_, ?_, .inr ⟨by rw [← c1]; exact (chr_ne c2).1, by rw [← c1]; exact (chr_ne c2).2, rfl, by rw [← c1]; exact rg_chr c2⟩⟩
      · rw [(k4 rfl).1.symm, (k4 rfl).2.symm] at e1
        simp (disch := omega) only [mK_workOut, k1, e1, mT_characterAt, n2, c1, le_L, L_le, lt_L, L_lt, eq_L, L_eq, ad_L, nI_add, nI_sb, sb_L, mu_L, nI_leI, nI_ltI, nI_eq, nI_clamp, inb_T, nI_cl0, lt, jn_b, bd_b, bd_s, bd_i, jn_l, jn_r, jn_i, gd_T, va_ap, upd_ap, reduceIte, Nat.reduceEqDiff, Nat.reduceAdd, Nat.reduceSub, Nat.reduceMul, Nat.reduceLT, Nat.reduceLeDiff, reduceCtorEq, Int32.reduceLT, Int32.reduceLE, one_ne_zero, zero_ne_one, not_true_eq_false, not_false_eq_true, true_and, and_true, if_true, if_false, ite_self, Nat.add_zero, Nat.zero_add]
        rw [if_neg (by omega), if_neg (by omega)]
      · rw [run_e]
        simp (disch := omega) only [hg, k2, n3, e2, idx0 (k := k) (a := a) (show k < 8 by omega) (by rw [k2]; decide), le_L, L_le, lt_L, L_lt, eq_L, L_eq, ad_L, nI_add, nI_sb, sb_L, mu_L, nI_leI, nI_ltI, nI_eq, nI_clamp, inb_T, nI_cl0, lt, jn_b, bd_b, bd_s, bd_i, jn_l, jn_r, jn_i, gd_T, va_ap, upd_ap, reduceIte, Nat.reduceEqDiff, Nat.reduceAdd, Nat.reduceSub, Nat.reduceMul, Nat.reduceLT, Nat.reduceLeDiff, reduceCtorEq, Int32.reduceLT, Int32.reduceLE, one_ne_zero, zero_ne_one, not_true_eq_false, not_false_eq_true, true_and, and_true, if_true, if_false, ite_self, Nat.add_zero, Nat.zero_add]
        rw [if_neg (by omega), if_pos hk, if_neg (by omega), runT_i]
    · refine ⟨-1, -32603, ?_, ?_, .inl ⟨rfl, rfl⟩⟩
      · rw [(k4 rfl).1.symm, (k4 rfl).2.symm] at e1
        simp (disch := omega) only [mK_workOut, k1, e1, mT_characterAt, n2, le_L, L_le, lt_L, L_lt, eq_L, L_eq, ad_L, nI_add, nI_sb, sb_L, mu_L, nI_leI, nI_ltI, nI_eq, nI_clamp, inb_T, nI_cl0, lt, jn_b, bd_b, bd_s, bd_i, jn_l, jn_r, jn_i, gd_T, va_ap, upd_ap, reduceIte, Nat.reduceEqDiff, Nat.reduceAdd, Nat.reduceSub, Nat.reduceMul, Nat.reduceLT, Nat.reduceLeDiff, reduceCtorEq, Int32.reduceLT, Int32.reduceLE, one_ne_zero, zero_ne_one, not_true_eq_false, not_false_eq_true, true_and, and_true, if_true, if_false, ite_self, Nat.add_zero, Nat.zero_add]
        rw [if_neg (by omega), if_pos (by omega)]
      · rw [run_e]
        simp (disch := omega) only [hg, k2, n3, e2, idx0 (k := k) (a := a) (show k < 8 by omega) (by rw [k2]; decide), le_L, L_le, lt_L, L_lt, eq_L, L_eq, ad_L, nI_add, nI_sb, sb_L, mu_L, nI_leI, nI_ltI, nI_eq, nI_clamp, inb_T, nI_cl0, lt, jn_b, bd_b, bd_s, bd_i, jn_l, jn_r, jn_i, gd_T, va_ap, upd_ap, reduceIte, Nat.reduceEqDiff, Nat.reduceAdd, Nat.reduceSub, Nat.reduceMul, Nat.reduceLT, Nat.reduceLeDiff, reduceCtorEq, Int32.reduceLT, Int32.reduceLE, one_ne_zero, zero_ne_one, not_true_eq_false, not_false_eq_true, true_and, and_true, if_true, if_false, ite_self, Nat.add_zero, Nat.zero_add]
        rw [if_neg (by omega), if_pos hk, if_pos (by omega), runT, if_pos rfl]
  · have hcl := cnl_le (a 21) N (60 * k)
    refine ⟨nI (1 + cnl (a 21) (60 * k) N), nI (1 + cnl (a 21) (60 * k) N), ?_, ?_, .inr ⟨(nI_ne (by omega)).1, (nI_ne (by omega)).2, rfl, rg_n (by omega)⟩⟩
    · rw [← cnl_c (f := r.2.2.2.2 0) N 0 (60 * k) (fun i hi => by rw [Nat.zero_add]; exact (n4 i hi).1)]
      simp (disch := omega) only [mK_workOut, k1, lines_T n1 n2 (show 60 < 200 by omega), le_L, L_le, lt_L, L_lt, eq_L, L_eq, ad_L, nI_add, nI_sb, sb_L, mu_L, nI_leI, nI_ltI, nI_eq, nI_clamp, inb_T, nI_cl0, lt, jn_b, bd_b, bd_s, bd_i, jn_l, jn_r, jn_i, gd_T, va_ap, upd_ap, reduceIte, Nat.reduceEqDiff, Nat.reduceAdd, Nat.reduceSub, Nat.reduceMul, Nat.reduceLT, Nat.reduceLeDiff, reduceCtorEq, Int32.reduceLT, Int32.reduceLE, one_ne_zero, zero_ne_one, not_true_eq_false, not_false_eq_true, true_and, and_true, if_true, if_false, ite_self, Nat.add_zero, Nat.zero_add]
    · rw [run_e]
      simp (disch := omega) only [hg, k2, n3, lines_M (f := a 21) (np := 480) (off := 60 * k) (N := N) (n := 200) (by omega) (by omega) (by omega), idx0 (k := k) (a := a) (show k < 8 by omega) (by rw [k2]; decide), le_L, L_le, lt_L, L_lt, eq_L, L_eq, ad_L, nI_add, nI_sb, sb_L, mu_L, nI_leI, nI_ltI, nI_eq, nI_clamp, inb_T, nI_cl0, lt, jn_b, bd_b, bd_s, bd_i, jn_l, jn_r, jn_i, gd_T, va_ap, upd_ap, reduceIte, Nat.reduceEqDiff, Nat.reduceAdd, Nat.reduceSub, Nat.reduceMul, Nat.reduceLT, Nat.reduceLeDiff, reduceCtorEq, Int32.reduceLT, Int32.reduceLE, one_ne_zero, zero_ne_one, not_true_eq_false, not_false_eq_true, true_and, and_true, if_true, if_false, ite_self, Nat.add_zero, Nat.zero_add]
      rw [if_neg (by omega), if_pos hk, runT_i]
theorem L_rn {gE gJ gV : aG} {aV : aA} {gN : aG} {aN : aA} {gS gZ : aG} {aZ : aA} {dP : aP} {gQ : aG} {dO : aP} {g : aG} {a : aA} (h : Inv gE gJ gV aV gN aN gS gZ aZ dP gQ dO g a) (v : Int32) : L_run Inv gE gJ gV aV gN aN gS gZ aZ dP gQ dO g a v := by
  have h9 := h
  obtain ⟨hF, hA, hD, ⟨nw, hw, w1, w2, h3⟩⟩ := h
  by_cases h0 : v < 0
  · right
    refine ⟨by rw [mE_run_i, if_pos h0], 200, 0, va_up g 45 1, a, ?_, rfl, Inv_c h9 1⟩
    simp only [mM_run, if_pos h0, fail_0, up_up, lt, jn_b, bd_b, bd_s, bd_i, jn_l, jn_r, jn_i, gd_T, va_ap, upd_ap, reduceIte, Nat.reduceEqDiff, Nat.reduceAdd, Nat.reduceSub, Nat.reduceMul, Nat.reduceLT, Nat.reduceLeDiff, reduceCtorEq, Int32.reduceLT, Int32.reduceLE, one_ne_zero, zero_ne_one, not_true_eq_false, not_false_eq_true, true_and, and_true, if_true, if_false, ite_self, Nat.add_zero, Nat.zero_add]
  obtain ⟨k, hk, rfl⟩ := nI_of h0
  by_cases h1 : k < nw
  · left
    obtain ⟨x, y, e1, e2, e3⟩ := work_2 (g := g) (h3 k h1) w2 hw h1
    obtain ⟨rId, rRg, -⟩ := h3 k h1
    obtain ⟨dO', a0, f1, f2, -, -, -⟩ := out_2 (gQ := gQ) (dO := dO) (g := g) (a := a) (k := k) (n := 200) hw w1 w2 h3 h1 (by omega)
    obtain ⟨gN', aN', g', a', c1, c2, c3, c4, c5⟩ : ∃ gN' aN' g' a', bd (if x = -1 then mN_addError 200 (a 16 k) (-32603) gN aN else mN_addResult 200 (a 16 k) x gN aN) some = some (gN', aN') ∧ mM_respond 200 1 (a 16 k) (if y = -32603 then 0 else 1) y (va_up g 45 0) a = some (g', a') ∧ IvA gN' aN' g' a' ∧ (∀ j, j ≠ 38 → g' j = (va_up g 45 0) j) ∧ (∀ j, j < 22 ∨ 25 < j → a' j = a j) := by
      rcases e3 with ⟨rfl, rfl⟩ | ⟨z1, z2, rfl, z4⟩
      · obtain ⟨gN', aN', g', a', c1, c2, c3⟩ := add_2 (n := 200) (w := 1) (i := a 16 k) (r := 0) (c := -32603) (g := va_up g 45 0) hA (.inr rfl) rRg (.inl rfl) ⟨true, 32603, by omega, fun _ => by omega, by decide⟩ (fun h => by cases h)
        refine ⟨gN', aN', g', a', ?_, ?_, c3⟩
        · simp only [mN_addError, c1, if_true, lt, jn_b, bd_b, bd_s, bd_i, jn_l, jn_r, jn_i, gd_T, va_ap, upd_ap, reduceIte, Nat.reduceEqDiff, Nat.reduceAdd, Nat.reduceSub, Nat.reduceMul, Nat.reduceLT, Nat.reduceLeDiff, reduceCtorEq, Int32.reduceLT, Int32.reduceLE, one_ne_zero, zero_ne_one, not_true_eq_false, not_false_eq_true, true_and, and_true, if_true, if_false, ite_self, Nat.add_zero, Nat.zero_add]
        · rw [if_pos rfl]; exact c2
      · obtain ⟨gN', aN', g', a', c1, c2, c3⟩ := add_2 (n := 200) (w := 1) (i := a 16 k) (r := 1) (c := y) (g := va_up g 45 0) hA (.inr rfl) rRg (.inr rfl) z4 (fun h => by cases h)
        refine ⟨gN', aN', g', a', ?_, ?_, c3⟩
        · simp only [mN_addResult, c1, if_neg z1, lt, jn_b, bd_b, bd_s, bd_i, jn_l, jn_r, jn_i, gd_T, va_ap, upd_ap, reduceIte, Nat.reduceEqDiff, Nat.reduceAdd, Nat.reduceSub, Nat.reduceMul, Nat.reduceLT, Nat.reduceLeDiff, reduceCtorEq, Int32.reduceLT, Int32.reduceLE, one_ne_zero, zero_ne_one, not_true_eq_false, not_false_eq_true, true_and, and_true, if_true, if_false, ite_self, Nat.add_zero, Nat.zero_add]
        · rw [if_neg z2]; exact c2
    obtain ⟨dO2, a2, m1, m2, m3, m4, m5⟩ := out_2 (gQ := gQ) (dO := dO) (g := g') (a := a') (k := k) (n := 200) hw w1 (by rw [c4 31 (by omega)]; exact w2) (fun w hw => (h3 w hw).mv ⟨by rw [c5 16 (by omega)], by rw [c5 17 (by omega)], by rw [c5 18 (by omega)], by rw [c5 19 (by omega)], by rw [c5 20 (by omega)], fun _ _ => by rw [c5 21 (by omega)]⟩) h1 (by omega)
    refine ⟨200, 200, a 16 k, gN', aN', va_up gQ 1 (nI (nw - 1)), dO2, va_up g' 31 (nI (nw - 1)), a2, ?_, ?_, ?_, ?_⟩
    · simp (disch := omega) only [mE_run, w1, m1, m2, rId, e1, le_L, L_le, lt_L, L_lt, eq_L, L_eq, ad_L, nI_add, nI_sb, sb_L, mu_L, nI_leI, nI_ltI, nI_eq, nI_clamp, inb_T, nI_cl0, lt, jn_b, bd_b, bd_s, bd_i, jn_l, jn_r, jn_i, gd_T, va_ap, upd_ap, reduceIte, Nat.reduceEqDiff, Nat.reduceAdd, Nat.reduceSub, Nat.reduceMul, Nat.reduceLT, Nat.reduceLeDiff, reduceCtorEq, Int32.reduceLT, Int32.reduceLE, one_ne_zero, zero_ne_one, not_true_eq_false, not_false_eq_true, true_and, and_true, if_true, if_false, ite_self, Nat.add_zero, Nat.zero_add]
      rw [if_neg (by omega), if_pos h1]
      by_cases z : x = -1
      · rw [if_pos z] at c1 ⊢
        cases hh : mN_addError 200 (a 16 k) (-32603) gN aN with
        | none => rw [hh] at c1; cases c1
        | some q => rw [hh] at c1; cases c1; rfl
      · rw [if_neg z] at c1 ⊢
        cases hh : mN_addResult 200 (a 16 k) x gN aN with
        | none => rw [hh] at c1; cases c1
        | some q => rw [hh] at c1; cases c1; rfl
    · rw [e2, runT, c2, bd_s, m3, bd_s]
    · show va_up g' 31 _ 45 = 0
      rw [va_up_ne _ _ (by omega), c4 45 (by omega)]; rfl
    · have hg : ∀ j, j ≠ 31 → j ≠ 38 → j ≠ 45 → va_up g' 31 (nI (nw - 1)) j = g j := fun j h1 h2 h3 => by
        rw [va_up_ne _ _ h1, c4 j h2, va_up_ne _ _ h3]
      have ha : ∀ j, j < 16 ∨ 25 < j → a2 j = a j := fun j hj => by rw [m5 j (by omega), c5 j (by omega)]
      refine ⟨?_, ?_, ?_, m4⟩
      · obtain ⟨st, s1, s2, s3, s4, s5, s6, s7⟩ := hF
        refine ⟨st, s1, s2, by rw [hg 0 (by omega) (by omega) (by omega)]; exact s3, by rw [hg 1 (by omega) (by omega) (by omega)]; exact s4, by rw [hg 2 (by omega) (by omega) (by omega)]; exact s5, by rw [hg 30 (by omega) (by omega) (by omega)]; exact s6, fun hs => ?_⟩
        obtain ⟨z1, z2⟩ := s7 hs
        refine ⟨z1, ?_⟩
        rw [hdR, bdR, hg 3 (by omega) (by omega) (by omega), hg 4 (by omega) (by omega) (by omega), hg 5 (by omega) (by omega) (by omega), hg 6 (by omega) (by omega) (by omega), ha 0 (by omega)]
        exact z2
      · obtain ⟨kn, s1, s2, s3, s4⟩ := c3
        refine ⟨kn, s1, s2, by rw [va_up_ne _ _ (by omega)]; exact s3, ?_⟩
        rw [m5 22 (by omega), m5 23 (by omega), m5 24 (by omega), m5 25 (by omega)]
        exact s4
      · obtain ⟨nd, s1, s2, s3, s4, s5⟩ := hD
        refine ⟨nd, s1, s2, by rw [hg 22 (by omega) (by omega) (by omega)]; exact s3, s4, fun d hd => ?_⟩
        have := s5 d hd
        rw [docR, ha 10 (by omega), ha 11 (by omega), ha 12 (by omega), ha 13 (by omega), ha 14 (by omega)]
        exact this
  · right
    refine ⟨?_, 200, 0, va_up g 45 1, a, ?_, rfl, Inv_c h9 1⟩
    · simp (disch := omega) only [mE_run_i, w1, le_L, L_le, lt_L, L_lt, eq_L, L_eq, ad_L, nI_add, nI_sb, sb_L, mu_L, nI_leI, nI_ltI, nI_eq, nI_clamp, inb_T, nI_cl0, lt, jn_b, bd_b, bd_s, bd_i, jn_l, jn_r, jn_i, gd_T, va_ap, upd_ap, reduceIte, Nat.reduceEqDiff, Nat.reduceAdd, Nat.reduceSub, Nat.reduceMul, Nat.reduceLT, Nat.reduceLeDiff, reduceCtorEq, Int32.reduceLT, Int32.reduceLE, one_ne_zero, zero_ne_one, not_true_eq_false, not_false_eq_true, true_and, and_true, if_true, if_false, ite_self, Nat.add_zero, Nat.zero_add]
      rw [if_neg (by omega), if_neg h1]
    · have hc : ¬ nI k < (va_up g 45 0) 31 := by
        rw [va_up_ne _ _ (by omega), w2]; exact nI_nlt (by omega) hk
      simp only [mM_run, lt, h0, hc, reduceIte, jn_l, fail_0, bd_s, up_up]
