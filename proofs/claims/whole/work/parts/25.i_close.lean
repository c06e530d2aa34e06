theorem rot_g {M : Nat} (hM : M < 1000) : ∀ (m n i c : Nat) (dS : aP), i + m = c → c < M → m < n → ∃ d', mRot n M (nI c) (nI i) dS = some d' ∧ (∀ j, j < i → d' j = dS j) ∧ (∀ j, i ≤ j → j < c → d' j = dS (j + 1)) ∧ d' c = dS i ∧ (∀ j, c < j → d' j = dS j) := by
  intro m
  induction m with
  | zero =>
    intro n i c dS h1 h2 h3
    have e : i = c := by omega
    subst e
    refine ⟨dS, lp_e ?_ h3, fun _ _ => rfl, fun j h4 h5 => by omega, rfl, fun _ _ => rfl⟩
    simp only [Int32.le_refl, if_true, decide_true, gd_T]
  | succ m ih =>
    intro n i c dS h1 h2 h3
    obtain ⟨d', e1, e2, e3, e4, e5⟩ := ih (n - 1) (i + 1) c (swp dS i (i + 1)) (by omega) h2 (by omega)
    have ev : ∀ j, swp dS i (i + 1) j = if j = i + 1 then dS i else if j = i then dS (i + 1) else dS j := fun j => rfl
    refine ⟨d', ?_, ?_, ?_, ?_, ?_⟩
    · refine (lp_s ?_ (by omega)).trans e1
      simp (disch := omega) only [le_L, L_le, lt_L, L_lt, eq_L, L_eq, ad_L, nI_add, nI_sb, sb_L, mu_L, nI_leI, nI_ltI, nI_eq, nI_clamp, inb_T, nI_cl0, lt, bd_s, jn_l, jn_r, gd_T, va_ap, upd_ap, reduceIte, Nat.reduceEqDiff, Nat.reduceAdd, Nat.reduceSub, Nat.reduceMul, Nat.reduceLT, Nat.reduceLeDiff, reduceCtorEq, Int32.reduceLT, Int32.reduceLE, one_ne_zero, zero_ne_one, not_true_eq_false, not_false_eq_true, true_and, and_true, if_true, if_false, ite_self, Nat.add_zero, Nat.zero_add]
      rw [if_neg (by omega)]
    · intro j hj
      rw [e2 j (by omega), ev, if_neg (by omega), if_neg (by omega)]
    · intro j h4 h5
      by_cases h6 : j = i
      · rw [e2 j (by omega), ev, if_neg (by omega), if_pos h6, h6]
      · rw [e3 j (by omega) h5, ev, if_neg (by omega), if_neg (by omega)]
    · rw [e4, ev, if_pos rfl]
    · intro j hj
      rw [e5 j hj, ev, if_neg (by omega), if_neg (by omega)]
section CL
variable {gV : aG} {aV : aA} {g : aG} {a : aA} {v u n : Nat}
def dE (a : aA) (i : Nat) (b : aA) (j : Nat) : Prop := a 10 i = b 10 j ∧ (∀ k, k < 4 → a 11 (4 * i + k) = b 11 (4 * j + k)) ∧ a 12 i = b 12 j ∧ a 13 i = b 13 j ∧ ∀ k, k < 60 → a 14 (60 * i + k) = b 14 (60 * j + k)
theorem dE.rf {a : aA} {i : Nat} : dE a i a i := ⟨rfl, fun _ _ => rfl, rfl, rfl, fun _ _ => rfl⟩
theorem dE.tr {a b c : aA} {i j k : Nat} (h : dE a i b j) (h2 : dE b j c k) : dE a i c k := ⟨h.1.trans h2.1, fun x hx => (h.2.1 x hx).trans (h2.2.1 x hx), h.2.2.1.trans h2.2.2.1, h.2.2.2.1.trans h2.2.2.2.1, fun x hx => (h.2.2.2.2 x hx).trans (h2.2.2.2.2 x hx)⟩
theorem docR.de {r : aDS} {a b : aA} {i j : Nat} (h : docR r b j) (e : dE a i b j) : docR r a i := by
  obtain ⟨⟨T, t1, t2, t3, t4, t5⟩, h2, h3⟩ := h
  obtain ⟨e1, e2, e3, e4, e5⟩ := e
  exact ⟨⟨T, t1, t2, t3, e1.trans t4, fun k hk => by rw [e2 k (by omega)]; exact t5 k hk⟩, h2.trans e3.symm, h3.mv e4 e5⟩
def cpb (M : Nat) (f : Nat → Int32) (j k : Nat) : Nat → Int32 := fun y => if M * j ≤ y ∧ y < M * j + k then f (y + M) else f y
theorem cpb_0 {M : Nat} {f : Nat → Int32} {j : Nat} : cpb M f j 0 = f := by
  funext y
  unfold cpb
  rw [if_neg (by omega)]
theorem cpb_s {M : Nat} {f : Nat → Int32} {j k : Nat} (hk : k < M) : upd (cpb M f j k) (M * j + k) (cpb M f j k (M * j + M + k)) = cpb M f j (k + 1) := by
  funext y
  simp only [upd_ap, cpb]
  by_cases h3 : y = M * j + k
  · rw [if_pos h3, if_neg (by omega), if_pos (by omega), h3]
    congr 1; omega
  · rw [if_neg h3]
    by_cases h4 : M * j ≤ y ∧ y < M * j + k
    · rw [if_pos h4, if_pos (by omega)]
    · rw [if_neg h4, if_neg (by omega)]
def bM_k1 (q16 : Int32 × aA) : Int32 × aA → Option ((Int32 × aA) ⊕ (aA ⊕ ((Int32 × aA) ⊕ (aA ⊕ (Int32 × aG × aA))))) := (fun q50 => if 4 ≤ q50.1 then (some (.inr (.inl q50.2))) else (gd (inb (((4 * q16.1) + 4) + q50.1) 12) (lt (q50.2 11 (((4 * q16.1) + 4) + q50.1).toNatClampNeg) (fun x56 => gd (inb ((4 * q16.1) + q50.1) 12) (lt (va_up q50.2 11 (upd (q50.2 11) ((4 * q16.1) + q50.1).toNatClampNeg x56)) (fun a58 => some (.inl ((q50.1 + 1), a58))))))))
def bM_k2 (q16 : Int32 × aA) : Int32 × aA → Option ((Int32 × aA) ⊕ ((Int32 × aA) ⊕ (aA ⊕ (Int32 × aG × aA)))) := (fun q39 => if 60 ≤ q39.1 then (some (.inr (.inl ((q16.1 + 1), q39.2)))) else (gd (inb (((60 * q16.1) + 60) + q39.1) 180) (lt (q39.2 14 (((60 * q16.1) + 60) + q39.1).toNatClampNeg) (fun x45 => gd (inb ((60 * q16.1) + q39.1) 180) (lt (va_up q39.2 14 (upd (q39.2 14) ((60 * q16.1) + q39.1).toNatClampNeg x45)) (fun a47 => some (.inl ((q39.1 + 1), a47))))))))
theorem k1_l {j : Nat} {b a : aA} {f : Nat → Int32} (hj : j + 1 < 3) : ∀ m k i, k + m = 4 → m < i → lp (bM_k1 (nI j, b)) i (nI k, va_up a 11 (cpb 4 f j k)) = some (.inl (va_up a 11 (cpb 4 f j 4))) := by
  intro m
  induction m with
  | zero =>
    intro k i h1 h2
    have e : k = 4 := by omega
    subst e
    have e1 : (4 : Int32) ≤ nI 4 := Int32.le_refl _
    refine lp_e ?_ h2
    simp only [bM_k1, e1, reduceIte]
  | succ m ih =>
    intro k i h1 h2
    have e : ¬ (4 : Int32) ≤ nI k := nI_ge (b := 4) (by omega) (by omega)
    have e3 : 4 * nI j + 4 + nI k = nI (4 * j + 4 + k) := by rw [mu_L, ad_L, nI_add]
    have e4 : 4 * nI j + nI k = nI (4 * j + k) := by rw [mu_L, nI_add]
    have e5 : inb (nI (4 * j + 4 + k)) 12 = true := inb_T (by omega) (by omega)
    have e6 : (nI (4 * j + 4 + k)).toNatClampNeg = 4 * j + 4 + k := nI_clamp (by omega)
    have e7 : inb (nI (4 * j + k)) 12 = true := inb_T (by omega) (by omega)
    have e8 : (nI (4 * j + k)).toNatClampNeg = 4 * j + k := nI_clamp (by omega)
    refine (lp_s ?_ (by omega)).trans (ih (k + 1) (i - 1) (by omega) (by omega))
    simp only [bM_k1, e, e3, e4, e5, e6, e7, e8, gd_T, lt, reduceIte, va_up_self, up_up, cpb_s (show k < 4 by omega), ad_L]
theorem k2_l {j : Nat} {b a : aA} {f : Nat → Int32} (hj : j + 1 < 3) : ∀ m k i, k + m = 60 → m < i → lp (bM_k2 (nI j, b)) i (nI k, va_up a 14 (cpb 60 f j k)) = some (.inl (nI (j + 1), va_up a 14 (cpb 60 f j 60))) := by
  intro m
  induction m with
  | zero =>
    intro k i h1 h2
    have e : k = 60 := by omega
    subst e
    have e1 : (60 : Int32) ≤ nI 60 := Int32.le_refl _
    refine lp_e ?_ h2
    simp only [bM_k2, e1, reduceIte, ad_L]
  | succ m ih =>
    intro k i h1 h2
    have e : ¬ (60 : Int32) ≤ nI k := nI_ge (b := 60) (by omega) (by omega)
    have e3 : 60 * nI j + 60 + nI k = nI (60 * j + 60 + k) := by rw [mu_L, ad_L, nI_add]
    have e4 : 60 * nI j + nI k = nI (60 * j + k) := by rw [mu_L, nI_add]
    have e5 : inb (nI (60 * j + 60 + k)) 180 = true := inb_T (by omega) (by omega)
    have e6 : (nI (60 * j + 60 + k)).toNatClampNeg = 60 * j + 60 + k := nI_clamp (by omega)
    have e7 : inb (nI (60 * j + k)) 180 = true := inb_T (by omega) (by omega)
    have e8 : (nI (60 * j + k)).toNatClampNeg = 60 * j + k := nI_clamp (by omega)
    refine (lp_s ?_ (by omega)).trans (ih (k + 1) (i - 1) (by omega) (by omega))
    simp only [bM_k2, e, e3, e4, e5, e6, e7, e8, gd_T, lt, reduceIte, va_up_self, up_up, cpb_s (show k < 60 by omega), ad_L]
def bM_cl (n : Nat) (g : aG) : Int32 × aA → Option ((Int32 × aA) ⊕ (aA ⊕ (Int32 × aG × aA))) := (fun q16 => if (g 22) ≤ (q16.1 + 1) then (some (.inr (.inl q16.2))) else (gd (inb (q16.1 + 1) 3) (lt (q16.2 10 (q16.1 + 1).toNatClampNeg) (fun x22 => gd (inb q16.1 3) (lt (va_up q16.2 10 (upd (q16.2 10) q16.1.toNatClampNeg x22)) (fun a24 => jn (α := aA) (lp (ε := Int32 × aA) (bM_k1 q16) n (0, a24)) (fun a27 => gd (inb (q16.1 + 1) 3) (lt (a27 12 (q16.1 + 1).toNatClampNeg) (fun x30 => gd (inb q16.1 3) (lt (va_up a27 12 (upd (a27 12) q16.1.toNatClampNeg x30)) (fun a32 => gd (inb (q16.1 + 1) 3) (lt (a32 13 (q16.1 + 1).toNatClampNeg) (fun x34 => gd (inb q16.1 3) (lt (va_up a32 13 (upd (a32 13) q16.1.toNatClampNeg x34)) (fun a36 => lp (ε := Int32 × aA) (bM_k2 q16) n (0, a36))))))))))))))))
theorem cl_e (n : Nat) (v1 : Int32) (g : aG) (a : aA) : mM_close n v1 g a = bd (mM_items n v1 g a) (fun x2 => jn (α := Int32) (if x2 = 1 then (bd (mM_item n v1 0 g a) (fun x61 => bd (mM_documentOf n x61 g a) (fun x64 => some (.inl x64)))) else (some (.inl (-1)))) (fun x6 => if 0 ≤ x6 then (jn (α := aA) (lp (bM_cl n g) n (x6, a)) (fun a11 => lt (va_up g 22 ((g 22) - 1)) (fun g13 => some ((1, g13, a11))))) else (some ((0, g, a))))) := rfl
theorem cl_s {j nd : Nat} {a : aA} (hg : g 22 = nI nd) (hnd : nd ≤ 3) (hj : j + 1 < nd) (hn : 100 < n) : ∃ a', bM_cl n g (nI j, a) = some (.inl (nI (j + 1), a')) ∧ dE a' j a (j + 1) ∧ (∀ i, i ≠ j → dE a' i a i) ∧ (∀ i, i < 10 ∨ 14 < i → a' i = a i) := by
  have e0 : ¬ nI nd ≤ nI (j + 1) := nI_ge (by omega) (by omega)
  have e1 : inb (nI (j + 1)) 3 = true := inb_T (by omega) (by omega)
  have e2 : (nI (j + 1)).toNatClampNeg = j + 1 := nI_clamp (by omega)
  have e3 : inb (nI j) 3 = true := inb_T (by omega) (by omega)
  have e4 : (nI j).toNatClampNeg = j := nI_clamp (by omega)
  obtain ⟨A1, hA1⟩ : ∃ A1, A1 = va_up a 10 (upd (a 10) j (a 10 (j + 1))) := ⟨_, rfl⟩
  obtain ⟨A2, hA2⟩ : ∃ A2, A2 = va_up A1 11 (cpb 4 (A1 11) j 4) := ⟨_, rfl⟩
  obtain ⟨A3, hA3⟩ : ∃ A3, A3 = va_up A2 12 (upd (A2 12) j (A2 12 (j + 1))) := ⟨_, rfl⟩
  obtain ⟨A4, hA4⟩ : ∃ A4, A4 = va_up A3 13 (upd (A3 13) j (A3 13 (j + 1))) := ⟨_, rfl⟩
  obtain ⟨A5, hA5⟩ : ∃ A5, A5 = va_up A4 14 (cpb 60 (A4 14) j 60) := ⟨_, rfl⟩
  have l1 := k1_l (j := j) (b := a) (a := A1) (f := A1 11) (by omega) 4 0 n (by omega) (by omega)
  rw [cpb_0, va_upE, ← hA2] at l1
  have l1 : lp (bM_k1 (nI j, a)) n (0, A1) = some (.inl A2) := l1
  have l2 := k2_l (j := j) (b := a) (a := A4) (f := A4 14) (by omega) 60 0 n (by omega) (by omega)
  rw [cpb_0, va_upE, ← hA5] at l2
  have l2 : lp (bM_k2 (nI j, a)) n (0, A4) = some (.inl (nI (j + 1), A5)) := l2
  have z1 : ∀ i, i ≠ 10 → A1 i = a i := fun i hi => by rw [hA1, va_up_ne _ _ hi]
  have z2 : ∀ i, i ≠ 11 → A2 i = A1 i := fun i hi => by rw [hA2, va_up_ne _ _ hi]
  have z3 : ∀ i, i ≠ 12 → A3 i = A2 i := fun i hi => by rw [hA3, va_up_ne _ _ hi]
  have z4 : ∀ i, i ≠ 13 → A4 i = A3 i := fun i hi => by rw [hA4, va_up_ne _ _ hi]
  have z5 : ∀ i, i ≠ 14 → A5 i = A4 i := fun i hi => by rw [hA5, va_up_ne _ _ hi]
  have y10 : A5 10 = upd (a 10) j (a 10 (j + 1)) := by rw [z5 _ (by omega), z4 _ (by omega), z3 _ (by omega), z2 _ (by omega), hA1, va_up_self]
  have y11 : A5 11 = cpb 4 (a 11) j 4 := by rw [z5 _ (by omega), z4 _ (by omega), z3 _ (by omega), hA2, va_up_self, z1 _ (by omega)]
  have y12 : A5 12 = upd (a 12) j (a 12 (j + 1)) := by rw [z5 _ (by omega), z4 _ (by omega), hA3, va_up_self, z2 _ (by omega), z1 _ (by omega)]
  have y13 : A5 13 = upd (a 13) j (a 13 (j + 1)) := by rw [z5 _ (by omega), hA4, va_up_self, z3 _ (by omega), z2 _ (by omega), z1 _ (by omega)]
  have y14 : A5 14 = cpb 60 (a 14) j 60 := by rw [hA5, va_up_self, z4 _ (by omega), z3 _ (by omega), z2 _ (by omega), z1 _ (by omega)]
  refine ⟨A5, ?_, ⟨?_, fun k hk => ?_, ?_, ?_, fun k hk => ?_⟩, fun i hi => ⟨?_, fun k hk => ?_, ?_, ?_, fun k hk => ?_⟩, fun i hi => ?_⟩
  · simp only [bM_cl, hg, ad_L, e0, e1, e2, e3, e4, gd_T, lt, reduceIte]
    rw [← hA1, l1, jn_l, ← hA3, ← hA4]
    exact l2
  · rw [y10, upd_eq]
  · rw [y11]; unfold cpb; rw [if_pos (by omega)]; congr 1; omega
  · rw [y12, upd_eq]
  · rw [y13, upd_eq]
  · rw [y14]; unfold cpb; rw [if_pos (by omega)]; congr 1; omega
  · rw [y10, upd_ne hi]
  · rw [y11]; unfold cpb; rw [if_neg (by omega)]
  · rw [y12, upd_ne hi]
  · rw [y13, upd_ne hi]
  · rw [y14]; unfold cpb; rw [if_neg (by omega)]
  · rw [z5 _ (by omega), z4 _ (by omega), z3 _ (by omega), z2 _ (by omega), z1 _ (by omega)]
theorem cl_l {nd : Nat} (hg : g 22 = nI nd) (hnd : nd ≤ 3) (hn : 100 < n) : ∀ m j a k, j + m + 1 = nd → m < k → ∃ a', lp (bM_cl n g) k (nI j, a) = some (.inl a') ∧ (∀ i, i < j → dE a' i a i) ∧ (∀ i, j ≤ i → i + 1 < nd → dE a' i a (i + 1)) ∧ (∀ i, i < 10 ∨ 14 < i → a' i = a i) := by
  intro m
  induction m with
  | zero =>
    intro j a k h1 h2
    have e0 : nI nd ≤ nI (j + 1) := nI_le (by omega) (by omega)
    refine ⟨a, lp_e ?_ h2, fun _ _ => dE.rf, fun i h3 h4 => by omega, fun _ _ => rfl⟩
    simp only [bM_cl, hg, ad_L, e0, reduceIte]
  | succ m ih =>
    intro j a k h1 h2
    obtain ⟨a1, e1, e2, e3, e4⟩ := cl_s (n := n) (a := a) hg hnd (j := j) (by omega) hn
    obtain ⟨a2, f1, f2, f3, f4⟩ := ih (j + 1) a1 (k - 1) (by omega) (by omega)
    refine ⟨a2, (lp_s e1 (by omega)).trans f1, fun i hi => (f2 i (by omega)).tr (e3 i (by omega)), fun i h3 h4 => ?_, fun i hi => (f4 i hi).trans (e4 i hi)⟩
    by_cases h5 : i = j
    · subst h5
      exact (f2 i (by omega)).tr e2
    · exact (f3 i (by omega) h4).tr (e3 (i + 1) (by omega))
/-- a document closed on both sides -/
theorem cls_2 (h : Vw gV aV g a v u) {L K : Nat} {w : Nat → Nat} {gS : aG} {aS : aA} {dP : aP} (hL : L < v) (hA : Arr n gV aV g a v L K w) (hD : IvD gS dP g a) (hn : 300 < n) : ∃ r gS' dP' g' a', mS_close n (nI L) gS aS gV aV dP = some (r, gS', dP') ∧ mM_close n (nI L) g a = some (r, g', a') ∧ (r = 0 ∨ r = 1) ∧ IvD gS' dP' g' a' ∧ (∀ j, j ≠ 22 → g' j = g j) ∧ (∀ j, j < 10 ∨ 14 < j → a' j = a j) := by
  obtain ⟨nd, d1, d2, d3, d4, d5⟩ := id hD
  have hv := h.1
  have l19 : slen 19 = 1 := by decide +kernel
  have b0 : sbyt 19 0 = 115 := by decide +kernel
  obtain ⟨p1, p2⟩ := hsp (n := n) (i := 19) h hL hA (by omega) (by rw [l19]; decide +kernel) hn
  rw [l19] at p1 p2
  have hK39 := hA.1
  have m1 : ¬ (0 : Int32) ≤ -1 := by decide
  have same : mS_close n (nI L) gS aS gV aV dP = some (0, gS, dP) → mM_close n (nI L) g a = some (0, g, a) → ∃ r gS' dP' g' a', mS_close n (nI L) gS aS gV aV dP = some (r, gS', dP') ∧ mM_close n (nI L) g a = some (r, g', a') ∧ (r = 0 ∨ r = 1) ∧ IvD gS' dP' g' a' ∧ (∀ j, j ≠ 22 → g' j = g j) ∧ (∀ j, j < 10 ∨ 14 < j → a' j = a j) := fun q1 q2 => ⟨0, gS, dP, g, a, q1, q2, .inl rfl, hD, fun _ _ => rfl, fun _ _ => rfl⟩
  by_cases hK : K = 1
  · subst hK
    have c1 : nI 1 = 1 := rfl
    obtain ⟨i0a, i0b, i0c, i0d⟩ := hA.2.2.2.1 0 (by omega)
    have i0c : mV_item n (nI L) 0 gV aV = some (nI (w 0)) := i0c
    have i0d : mM_item n (nI L) 0 g a = some (nI (w 0)) := i0d
    by_cases hs0 : aV 0 (w 0) = 2
    · have hsh := p1 ⟨rfl, fun j hj => by
        have : j = 0 := by omega
        subst this
        unfold KM; rw [if_pos b0]; exact hs0⟩
      obtain ⟨s, z, hT⟩ := h.str i0b hs0
      obtain ⟨y, y1, y2, y3⟩ := fnd_2x (n := n) (aS := aS) h i0b hT hn d1 d2 d3 d5
      rcases y3 with rfl | ⟨d, hd, rfl⟩
      · refine same ?_ ?_
        · simp only [mS_close, hsh, bd_s, one_ne_zero, reduceIte, i0c, y1, jn_l]
        · simp only [cl_e, hA.2.2.1, bd_s, if_pos c1, i0d, y2, jn_l, m1, reduceIte]
      · obtain ⟨z1, z2⟩ := nI_lt0 (d := d) (by omega)
        have z3 : (0 : Int32) ≤ nI d := nI_pos' (by omega)
        have e3 : inb (nI d) 3 = true := inb_T (by omega) (by omega)
        have e5 : nI nd - 1 = nI (nd - 1) := sb_L (by omega)
        have e6 : inb (nI (nd - 1)) 3 = true := inb_T (by omega) (by omega)
        obtain ⟨d', r1, r2, r3, r4, r5⟩ := rot_g (M := 3) (by omega) (nd - 1 - d) n d (nd - 1) dP (by omega) (by omega) (by omega)
        obtain ⟨a', f1, f2, f3, f4⟩ := cl_l (n := n) (g := g) d3 d1 (by omega) (nd - 1 - d) d a n (by omega) (by omega)
        refine ⟨1, va_up gS 2 (nI (nd - 1)), d', va_up g 22 (nI (nd - 1)), a', ?_, ?_, .inr rfl, ⟨nd - 1, by omega, rfl, rfl, fun i hi => ?_, fun i hi => ?_⟩, fun j hj => va_up_ne _ _ hj, f4⟩
        · simp only [mS_close, hsh, bd_s, one_ne_zero, reduceIte, i0c, y1, jn_l, z2, e3, gd_T, lt, d2, e5, va_up_self, r1, e6]
        · simp only [cl_e, hA.2.2.1, bd_s, if_pos c1, i0d, y2, jn_l, z3, f1, d3, e5, lt, reduceIte]
        · by_cases h6 : i < d
          · rw [r2 i h6]; exact d4 i hi
          · by_cases h7 : i < nd - 1
            · rw [r3 i (by omega) h7]; exact d4 (i + 1) (by omega)
            · by_cases h8 : i = nd - 1
              · rw [h8, r4]; exact d4 d (by omega)
              · rw [r5 i (by omega)]; exact d4 i hi
        · by_cases h6 : i < d
          · rw [r2 i h6]; exact (d5 i (by omega)).de (f2 i h6)
          · rw [r3 i (by omega) hi]; exact (d5 (i + 1) (by omega)).de (f3 i (by omega) (by omega))
    · have hsh := p2 (fun q => hs0 (by have := q.2 0 (by omega); unfold KM at this; rwa [if_pos b0] at this))
      refine same ?_ ?_
      · simp only [mS_close, hsh, bd_s, reduceIte, jn_l]
      · simp only [cl_e, hA.2.2.1, bd_s, if_pos c1, i0d, dc_n (n := n) h i0b hs0, jn_l, m1, reduceIte]
  · have hsh := p2 (fun q => hK q.1)
    have c1 : ¬ nI K = 1 := by rw [eq_L (b := 1) (by omega) (by decide)]; exact hK
    refine same ?_ ?_
    · simp only [mS_close, hsh, bd_s, reduceIte, jn_l]
    · simp only [cl_e, hA.2.2.1, bd_s, c1, jn_l, m1, reduceIte]
end CL
