theorem IvA.mv {gN : aG} {aN : aA} {g g' : aG} {a a' : aA} (h : IvA gN aN g a) (hg : g' 38 = g 38) (e : ∀ j, 22 ≤ j → j ≤ 25 → a' j = a j) : IvA gN aN g' a' := by
  obtain ⟨kn, k0, k1, k2, k3⟩ := h
  refine ⟨kn, k0, k1, hg.trans k2, ?_⟩
  rw [e 22 (by omega) (by omega), e 23 (by omega) (by omega), e 24 (by omega) (by omega), e 25 (by omega) (by omega)]
  exact k3
theorem askR.fr {r : aDS} {a a' : aA} {w : Nat} (h : askR r a w) (e : ∀ j, 16 ≤ j → j ≤ 21 → a' j = a j) : askR r a' w := by
  refine h.mv ⟨?_, ?_, ?_, ?_, ?_, fun k _ => ?_⟩
  · rw [e 16 (by omega) (by omega)]
  · rw [e 17 (by omega) (by omega)]
  · rw [e 18 (by omega) (by omega)]
  · rw [e 19 (by omega) (by omega)]
  · rw [e 20 (by omega) (by omega)]
  · rw [e 21 (by omega) (by omega)]
theorem IvQ.mv {gQ : aG} {dO : aP} {g g' : aG} {a a' : aA} (h : IvQ gQ dO g a) (hg : g' 31 = g 31) (e : ∀ j, 16 ≤ j → j ≤ 21 → a' j = a j) : IvQ gQ dO g' a' := by
  obtain ⟨nw, w0, w1, w2, w3⟩ := h
  exact ⟨nw, w0, w1, hg.trans w2, fun w hw => (w3 w hw).fr e⟩
theorem IvD.mv {gS : aG} {dP : aP} {g g' : aG} {a a' : aA} (h : IvD gS dP g a) (hg : g' 22 = g 22) (e : ∀ j, 10 ≤ j → j ≤ 14 → a' j = a j) : IvD gS dP g' a' := by
  obtain ⟨nd, d1, d2, d3, d4, d5⟩ := h
  refine ⟨nd, d1, d2, hg.trans d3, d4, fun d hd => (d5 d hd).mv ?_ (fun i _ => ?_) ?_ ?_ (fun i _ => ?_)⟩
  · rw [e 10 (by omega) (by omega)]
  · rw [e 11 (by omega) (by omega)]
  · rw [e 12 (by omega) (by omega)]
  · rw [e 13 (by omega) (by omega)]
  · rw [e 14 (by omega) (by omega)]
theorem err_2 {gN : aG} {aN : aA} {g : aG} {a : aA} {n : Nat} {i c : Int32} (h : IvA gN aN g a) (hi : rg i) (hc : rg c) : ∃ gN' aN' g' a', mN_addError n i c gN aN = some (gN', aN') ∧ mM_respond n 1 i 0 c g a = some (g', a') ∧ IvA gN' aN' g' a' ∧ (∀ j, j ≠ 38 → g' j = g j) ∧ (∀ j, j < 22 ∨ 25 < j → a' j = a j) := by
  obtain ⟨gN', aN', g', a', h1, h2, h3⟩ := add_2 (n := n) (w := 1) (i := i) (r := 0) (c := c) h (.inr rfl) hi (.inl rfl) hc (fun q => absurd q one_ne_zero)
  exact ⟨gN', aN', g', a', by rw [mN_addError, h1, bd_s], h2, h3⟩
theorem res_2 {gN : aG} {aN : aA} {g : aG} {a : aA} {n : Nat} {i : Int32} (h : IvA gN aN g a) (hi : rg i) : ∃ gN' aN' g' a', mN_addResult n i 0 gN aN = some (gN', aN') ∧ mM_respond n 1 i 1 0 g a = some (g', a') ∧ IvA gN' aN' g' a' ∧ (∀ j, j ≠ 38 → g' j = g j) ∧ (∀ j, j < 22 ∨ 25 < j → a' j = a j) := by
  obtain ⟨gN', aN', g', a', h1, h2, h3⟩ := add_2 (n := n) (w := 1) (i := i) (r := 1) (c := 0) h (.inr rfl) hi (.inr rfl) (rg_n (w := 0) (by omega)) (fun q => absurd q one_ne_zero)
  exact ⟨gN', aN', g', a', by rw [mN_addResult, h1, bd_s], h2, h3⟩
theorem noi_2 {gN : aG} {aN : aA} {g : aG} {a : aA} {n : Nat} {c : Int32} (h : IvA gN aN g a) (hc : rg c) : ∃ gN' aN' g' a', mN_addErrorWithoutId n c gN aN = some (gN', aN') ∧ mM_respond n 0 0 0 c g a = some (g', a') ∧ IvA gN' aN' g' a' ∧ (∀ j, j ≠ 38 → g' j = g j) ∧ (∀ j, j < 22 ∨ 25 < j → a' j = a j) := by
  obtain ⟨gN', aN', g', a', h1, h2, h3⟩ := add_2 (n := n) (w := 0) (i := 0) (r := 0) (c := c) h (.inl rfl) (rg_n (w := 0) (by omega)) (.inl rfl) hc (fun _ => rfl)
  exact ⟨gN', aN', g', a', by rw [mN_addErrorWithoutId, h1, bd_s], h2, h3⟩
section CN
variable {gV : aG} {aV : aA} {g : aG} {a : aA} {v u n : Nat}
def bV_qf (v1 : Int32) (gQ : aG) (dO : aP) : Int32 → Option (Int32 ⊕ Int32) := (fun x1 => if (gQ 1) ≤ x1 then (some (.inr ((-1)))) else (gd (inb x1 8) (if ((dO x1.toNatClampNeg).2.1 1) = v1 then (some (.inr (x1))) else (some (.inl (x1 + 1))))))
def bM_cn (n : Nat) (v1 : Int32) (g : aG) (a : aA) : Int32 → Option (Int32 ⊕ (Int32 ⊕ (Int32 × aG × aA))) := (fun x26 => if (g 31) ≤ x26 then (some (.inr (.inr ((0, g, a))))) else (gd (inb x26 8) (lt (a 16 x26.toNatClampNeg) (fun x33 => bd (mM_item n v1 0 g a) (fun x35 => gd (inb x35 41) (lt (a 2 x35.toNatClampNeg) (fun x38 => if x33 = x38 then (some (.inr (.inl x26))) else (some (.inl (x26 + 1))))))))))
theorem cnl_e (n : Nat) (v1 : Int32) (g : aG) (a : aA) : mM_cancel n v1 g a = bd (mM_items n v1 g a) (fun x2 => if x2 = 1 then (bd (mM_item n v1 0 g a) (fun x6 => bd (mM_isSort n x6 1 g a) (fun x9 => if x9 = 0 then (some ((0, g, a))) else (jn (α := Int32) (lp (ε := Int32) (bM_cn n v1 g a) n 0) (fun x14 => gd (inb x14 8) (lt (a 16 x14.toNatClampNeg) (fun x17 => bd (mM_respond n 1 x17 0 (-32800) g a) (fun q18 => bd (mM_remove n x14 q18.1 q18.2) (fun q22 => some ((1, q22.1, q22.2))))))))))) else (some ((0, g, a)))) := rfl
theorem cn_l {L w0 nw : Nat} {gQ : aG} {dO : aP} (hw : w0 < 41) (hi : mM_item n (nI L) 0 g a = some (nI w0)) (h0 : nw ≤ 8) (h1 : gQ 1 = nI nw) (h2 : g 31 = nI nw) (h3 : ∀ w, w < nw → (dO w).2.1 1 = a 16 w) : ∀ m y k, y + m = nw → m < k → (∃ i, i < nw ∧ lp (bV_qf (a 2 w0) gQ dO) k (nI y) = some (nI i) ∧ lp (bM_cn n (nI L) g a) k (nI y) = some (.inl (nI i))) ∨ (lp (bV_qf (a 2 w0) gQ dO) k (nI y) = some (-1) ∧ lp (bM_cn n (nI L) g a) k (nI y) = some (.inr (0, g, a))) := by
  have e3 : inb (nI w0) 41 = true := inb_T (by omega) (by omega)
  have e4 : (nI w0).toNatClampNeg = w0 := nI_clamp (by omega)
  intro m
  induction m with
  | zero =>
    intro y k q1 q2
    have e : nI nw ≤ nI y := nI_le (by omega) (by omega)
    refine .inr ⟨lp_e ?_ q2, lp_e ?_ q2⟩
    · simp only [bV_qf, h1, e, reduceIte]
    · simp only [bM_cn, h2, e, reduceIte]
  | succ m ih =>
    intro y k q1 q2
    have e : ¬ nI nw ≤ nI y := nI_ge (by omega) (by omega)
    have e1 : inb (nI y) 8 = true := inb_T (by omega) (by omega)
    have e2 : (nI y).toNatClampNeg = y := nI_clamp (by omega)
    by_cases hq : a 16 y = a 2 w0
    · refine .inl ⟨y, by omega, lp_e ?_ (by omega), lp_e ?_ (by omega)⟩
      · simp only [bV_qf, h1, e, e1, e2, h3 y (by omega), hq, gd_T, reduceIte]
      · simp only [bM_cn, h2, e, e1, e2, hi, e3, e4, hq, gd_T, lt, bd_s, reduceIte]
    · have s1 : bV_qf (a 2 w0) gQ dO (nI y) = some (.inl (nI (y + 1))) := by
        simp only [bV_qf, h1, e, e1, e2, h3 y (by omega), hq, gd_T, reduceIte, ad_L]
      have s2 : bM_cn n (nI L) g a (nI y) = some (.inl (nI (y + 1))) := by
        simp only [bM_cn, h2, e, e1, e2, hi, e3, e4, hq, gd_T, lt, bd_s, reduceIte, ad_L]
      rw [lp_s s1 (by omega), lp_s s2 (by omega)]
      exact ih (y + 1) (k - 1) (by omega) (by omega)
/-- a waiting request cancelled on both sides -/
theorem cnc_2 (h : Vw gV aV g a v u) {L K : Nat} {w : Nat → Nat} {gE gN gS gZ gQ : aG} {aE aN aS aZ aQ : aA} {dP dO : aP} (hL : L < v) (hA : Arr n gV aV g a v L K w) (hN : IvA gN aN g a) (hQ : IvQ gQ dO g a) (hn : 300 < n) : ∃ r gN' aN' gQ' dO' g' a', mE_cancel n (nI L) gE aE gV aV gN aN gS aS gZ aZ dP gQ aQ dO = some (r, gN', aN', gQ', dO') ∧ mM_cancel n (nI L) g a = some (r, g', a') ∧ (r = 0 ∨ r = 1) ∧ IvA gN' aN' g' a' ∧ IvQ gQ' dO' g' a' ∧ (∀ j, j ≠ 38 → j ≠ 31 → g' j = g j) ∧ (∀ j, j < 16 ∨ 25 < j → a' j = a j) := by
  obtain ⟨nw, w1, w2, w3, w4⟩ := id hQ
  have hv := h.1
  have l24 : slen 24 = 1 := by decide +kernel
  have b0 : ¬ sbyt 24 0 = 115 := by decide +kernel
  obtain ⟨p1, p2⟩ := hsp (n := n) (i := 24) h hL hA (by omega) (by rw [l24]; decide +kernel) hn
  rw [l24] at p1 p2
  have hK39 := hA.1
  have same : mE_cancel n (nI L) gE aE gV aV gN aN gS aS gZ aZ dP gQ aQ dO = some (0, gN, aN, gQ, dO) → mM_cancel n (nI L) g a = some (0, g, a) → ∃ r gN' aN' gQ' dO' g' a', mE_cancel n (nI L) gE aE gV aV gN aN gS aS gZ aZ dP gQ aQ dO = some (r, gN', aN', gQ', dO') ∧ mM_cancel n (nI L) g a = some (r, g', a') ∧ (r = 0 ∨ r = 1) ∧ IvA gN' aN' g' a' ∧ IvQ gQ' dO' g' a' ∧ (∀ j, j ≠ 38 → j ≠ 31 → g' j = g j) ∧ (∀ j, j < 16 ∨ 25 < j → a' j = a j) := fun q1 q2 => ⟨0, gN, aN, gQ, dO, g, a, q1, q2, .inl rfl, hN, hQ, fun _ _ _ => rfl, fun _ _ => rfl⟩
  by_cases hK : K = 1
  · subst hK
    have c1 : nI 1 = 1 := rfl
    obtain ⟨i0a, i0b, i0c, i0d⟩ := hA.2.2.2.1 0 (by omega)
    have i0c : mV_item n (nI L) 0 gV aV = some (nI (w 0)) := i0c
    have i0d : mM_item n (nI L) 0 g a = some (nI (w 0)) := i0d
    obtain ⟨k1s, k1n, -, -⟩ := knd (n := n) h i0b
    by_cases hs0 : aV 0 (w 0) = 1
    · have hsh := p1 ⟨rfl, fun j hj => by
        have : j = 0 := by omega
        subst this
        unfold KM; rw [if_neg b0]; exact hs0⟩
      obtain ⟨k1a, k1b, k1c⟩ := k1s hs0
      have nb : mV_numberAt n (nI L) 0 gV aV = some (a 2 (w 0)) := by rw [mV_numberAt, i0c, bd_s, k1b, bd_s]
      have hf : ∀ y k, mQ_find k y gQ aQ dO = lp (bV_qf y gQ dO) k 0 := fun _ _ => rfl
      rcases cn_l (n := n) (g := g) (a := a) (L := L) (w0 := w 0) (gQ := gQ) (dO := dO) (by omega) i0d w1 w2 w3 (fun w hw => (w4 w hw).1) nw 0 n (by omega) (by omega) with ⟨i, hi, f1, f2⟩ | ⟨f1, f2⟩
      · have f1 : lp (bV_qf (a 2 (w 0)) gQ dO) n 0 = some (nI i) := f1
        have f2 : lp (bM_cn n (nI L) g a) n 0 = some (.inl (nI i)) := f2
        have e1 : inb (nI i) 8 = true := inb_T (by omega) (by omega)
        have e2 : (nI i).toNatClampNeg = i := nI_clamp (by omega)
        obtain ⟨gN1, aN1, g1, a1, n1, n2, n3, n4, n5⟩ := err_2 (n := n) (i := a 16 i) (c := -32800) hN (w4 i hi).2.1 (rg_m (w := 32800) (by omega) (by omega))
        obtain ⟨dO2, a2, o1, o2, o3, o4, o5⟩ := out_2 (n := n) (g := g1) (a := a1) (k := i) w1 w2 ((n4 31 (by omega)).trans w3) (fun w hw => (w4 w hw).fr (fun j _ _ => n5 j (by omega))) hi (by omega)
        refine ⟨1, gN1, aN1, va_up gQ 1 (nI (nw - 1)), dO2, va_up g1 31 (nI (nw - 1)), a2, ?_, ?_, .inr rfl, n3.mv (va_up_ne _ _ (by omega)) (fun j j1 j2 => o5 j (by omega)), o4, fun j j1 j2 => (va_up_ne _ _ j2).trans (n4 j j1), fun j hj => (o5 j (by omega)).trans (n5 j (by omega))⟩
        · have r1 : ((dO2 (nw - 1)).2.1 1) = a 16 i := by rw [o2]; exact (w4 i hi).1
          simp only [mE_cancel, hsh, bd_s, one_ne_zero, reduceIte, nb, hf, f1, jn_l, (nI_lt0 (show i < 100 by omega)).2, o1, r1, n1]
        · simp only [cnl_e, hA.2.2.1, bd_s, if_pos c1, i0d, k1a, one_ne_zero, reduceIte, f2, jn_l, e1, e2, gd_T, lt, n2, o3]
      · have f1 : lp (bV_qf (a 2 (w 0)) gQ dO) n 0 = some (-1) := f1
        have f2 : lp (bM_cn n (nI L) g a) n 0 = some (.inr (0, g, a)) := f2
        refine same ?_ ?_
        · simp only [mE_cancel, hsh, bd_s, one_ne_zero, reduceIte, nb, hf, f1, jn_l]
        · simp only [cnl_e, hA.2.2.1, bd_s, if_pos c1, i0d, k1a, one_ne_zero, reduceIte, f2, jn_r]
    · have hsh := p2 (fun q => hs0 (by have := q.2 0 (by omega); unfold KM at this; rwa [if_neg b0] at this))
      refine same ?_ ?_
      · simp only [mE_cancel, hsh, bd_s, reduceIte, jn_l]
      · simp only [cnl_e, hA.2.2.1, bd_s, if_pos c1, i0d, k1n hs0, reduceIte]
  · have hsh := p2 (fun q => hK q.1)
    have c1 : ¬ nI K = 1 := by rw [eq_L (b := 1) (by omega) (by decide)]; exact hK
    refine same ?_ ?_
    · simp only [mE_cancel, hsh, bd_s, reduceIte, jn_l]
    · simp only [cnl_e, hA.2.2.1, bd_s, c1, reduceIte]
theorem cnc_n {y : Int32} {gE gN gS gZ gQ : aG} {aE aN aS aZ aQ : aA} {dP dO : aP} (hy : ∀ k, mV_item n y k gV aV = some (-1)) (hn : 300 < n) : mE_cancel n y gE aE gV aV gN aN gS aS gZ aZ dP gQ aQ dO = some (0, gN, aN, gQ, dO) := by
  have l24 : slen 24 = 1 := by decide +kernel
  have hsh := hsp_n (n := n) (i := 24) hy (by omega) (by omega) (by decide +kernel) hn
  simp only [mE_cancel, hsh, bd_s, reduceIte, jn_l]
end CN
