section OP
variable {gV : aG} {aV : aA} {g : aG} {a : aA} {v u n : Nat}
def bV_bg (n : Nat) (x1 : Int32) (g18 gV : aG) (aV : aA) : Int32 × aA → Option ((Int32 × aA) ⊕ (aA ⊕ (Int32 × aG × aA × aG × aA))) := (fun q29 => if (g18 2) ≤ q29.1 then (some (.inr (.inl q29.2))) else (bd (mV_letterOf n x1 q29.1 gV aV) (fun x34 => gd (inb q29.1 4) (lt (va_up q29.2 0 (upd (q29.2 0) q29.1.toNatClampNeg (vp_nar .char x34))) (fun a38 => some (.inl ((q29.1 + 1), a38)))))))
theorem bg_e (n : Nat) (v2 : Int32) (gD : aG) (aD : aA) (gT : aG) (aT : aA) (gV : aG) (aV : aA) : mD_begin n v2 gD aD gT aT gV aV = bd (mV_item n v2 0 gV aV) (fun x1 => bd (mV_sizeOf n x1 gV aV) (fun x4 => if x4 < 1 then (some ((0, gD, aD, gT, aT))) else (if x4 ≤ 4 then (bd (mV_item n v2 2 gV aV) (fun x9 => bd (mT_replace n 0 (gT 1) x9 gT aT gV aV) (fun q16 => if q16.1 = 0 then (some ((0, gD, aD, q16.2.1, q16.2.2))) else (lt (va_up gD 2 x4) (fun g18 => jn (α := aA) (lp (ε := Int32 × aA) (bV_bg n x1 g18 gV aV) n (0, aD)) (fun a21 => bd (mV_numberAt n v2 1 gV aV) (fun x23 => lt (va_up g18 3 x23) (fun g26 => some ((1, g26, a21, q16.2.1, q16.2.2)))))))))) else (some ((0, gD, aD, gT, aT)))))) := rfl
theorem bg_l (h : Vw gV aV g a v u) {w s z : Nat} {g18 : aG} {aD : aA} {f : Nat → Int32} (hw : w < v) (hT : isT aV a u w s z) (hz : z ≤ 4) (hg : g18 2 = nI z) : ∀ m k j, k + m = z → m < j → lp (bV_bg n (nI w) g18 gV aV) j (nI k, va_up aD 0 (wt f (a 8) 0 s k)) = some (.inl (va_up aD 0 (wt f (a 8) 0 s z))) := by
  intro m
  induction m with
  | zero =>
    intro k j h1 h2
    have e : k = z := by omega
    subst e
    have e1 : nI k ≤ nI k := Int32.le_refl _
    refine lp_e ?_ h2
    simp only [bV_bg, hg, e1, reduceIte]
  | succ m ih =>
    intro k j h1 h2
    have e : ¬ nI z ≤ nI k := nI_ge (by omega) (by omega)
    obtain ⟨l1, l2⟩ := let_w (n := n) h hw hT.2.2.1 hT.2.2.2.2.2.2 (show k < z by omega)
    have e2 : inb (nI k) 4 = true := inb_T (by omega) (by omega)
    have e3 : (nI k).toNatClampNeg = k := nI_clamp (by omega)
    refine (lp_s ?_ (by omega)).trans (ih (k + 1) (j - 1) (by omega) (by omega))
    simp only [bV_bg, hg, e, l1, bd_s, e2, e3, gd_T, lt, nar_c l2, reduceIte, ad_L, up_up, va_up_self, wt_s0]
theorem begV (h : Vw gV aV g a v u) {L w0 w1 w2 s0 z0 s2 z2 N0 : Nat} {gD gT : aG} {aD aT : aA} (hn : 300 < n) (h0 : mV_item n (nI L) 0 gV aV = some (nI w0)) (h2 : mV_item n (nI L) 2 gV aV = some (nI w2)) (h1 : mV_numberAt n (nI L) 1 gV aV = some (a 2 w1)) (hw0 : w0 < v) (hw2 : w2 < v) (hT0 : isT aV a u w0 s0 z0) (hT2 : isT aV a u w2 s2 z2) (hN : N0 ≤ 60) (hg : gT 1 = nI N0) : ((1 ≤ z0 ∧ z0 ≤ 4 ∧ z2 ≤ 60) → mD_begin n (nI L) gD aD gT aT gV aV = some (1, va_up (va_up gD 2 (nI z0)) 3 (a 2 w1), va_up aD 0 (wt (aD 0) (a 8) 0 s0 z0), va_up gT 1 (nI z2), va_up aT 0 (wt (va_cpy (aT 0) (aT 0) N0 z2 0) (a 8) 0 s2 z2))) ∧ (¬ (1 ≤ z0 ∧ z0 ≤ 4 ∧ z2 ≤ 60) → mD_begin n (nI L) gD aD gT aT gV aV = some (0, gD, aD, gT, aT)) := by
  have hu := h.2.2.1
  have t0 := hT0.2.2.2.2.2.2
  have sz := (num_w (n := n) h hw0).2
  rw [hT0.2.2.2.2.1] at sz
  obtain ⟨r1, r2⟩ := repV (n := n) (p := 0) (q := N0) (gT := gT) (aT := aT) h hw2 hT2 (by omega) (Nat.le_refl N0) hN hg (fun i h3 h4 => by omega) hn
  rw [Nat.sub_self, Nat.zero_add, Nat.add_zero] at r1 r2
  have r1 : z2 ≤ 60 → mT_replace n 0 (nI N0) (nI w2) gT aT gV aV = _ := r1
  have r2 : ¬ z2 ≤ 60 → mT_replace n 0 (nI N0) (nI w2) gT aT gV aV = _ := r2
  by_cases c1 : 1 ≤ z0
  · have q1 : ¬ nI z0 < 1 := nI_nlt (b := 1) c1 (by omega)
    by_cases c4 : z0 ≤ 4
    · have q4 : nI z0 ≤ 4 := nI_le (b := 4) c4 (by omega)
      by_cases c60 : z2 ≤ 60
      · refine ⟨fun _ => ?_, fun q => absurd ⟨c1, c4, c60⟩ q⟩
        have l1 := bg_l (n := n) (g18 := va_up gD 2 (nI z0)) (aD := aD) (f := aD 0) h hw0 hT0 c4 (va_up_self _ _ _) z0 0 n (by omega) (by omega)
        rw [wt_0, va_upE] at l1
        have l1 : lp (bV_bg n (nI w0) (va_up gD 2 (nI z0)) gV aV) n (0, aD) = _ := l1
        simp only [bg_e, h0, bd_s, sz, q1, q4, h2, hg, r1 c60, one_ne_zero, reduceIte, lt, l1, jn_l, h1]
      · refine ⟨fun q => absurd q.2.2 c60, fun _ => ?_⟩
        simp only [bg_e, h0, bd_s, sz, q1, q4, h2, hg, r2 c60, reduceIte]
    · refine ⟨fun q => absurd q.2.1 c4, fun _ => ?_⟩
      have q4 : ¬ nI z0 ≤ 4 := nI_ge (a := 4) (by omega) (by omega)
      simp only [bg_e, h0, bd_s, sz, q1, q4, reduceIte]
  · refine ⟨fun q => absurd q.1 c1, fun _ => ?_⟩
    have q1 : nI z0 < 1 := nI_lt (b := 1) (by omega) (by omega)
    simp only [bg_e, h0, bd_s, sz, q1, reduceIte]
def bM_o1 (x2 : Int32) (g : aG) : Int32 × aA → Option ((Int32 × aA) ⊕ (aA ⊕ (Int32 × aG × aA))) := (fun q81 => gd (inb x2 41) (lt (q81.2 4 x2.toNatClampNeg) (fun x86 => if x86 ≤ q81.1 then (some (.inr (.inl q81.2))) else (gd (inb x2 41) (lt (q81.2 3 x2.toNatClampNeg) (fun x89 => gd (inb (x89 + q81.1) 201) (lt (q81.2 8 (x89 + q81.1).toNatClampNeg) (fun x91 => gd (inb ((4 * (g 22)) + q81.1) 12) (lt (va_up q81.2 11 (upd (q81.2 11) ((4 * (g 22)) + q81.1).toNatClampNeg x91)) (fun a93 => some (.inl ((q81.1 + 1), a93))))))))))))
def bM_o2 (x5 : Int32) (g : aG) : Int32 × aA → Option ((Int32 × aA) ⊕ (aA ⊕ (Int32 × aG × aA))) := (fun q66 => gd (inb x5 41) (lt (q66.2 4 x5.toNatClampNeg) (fun x71 => if x71 ≤ q66.1 then (some (.inr (.inl q66.2))) else (gd (inb x5 41) (lt (q66.2 3 x5.toNatClampNeg) (fun x74 => gd (inb (x74 + q66.1) 201) (lt (q66.2 8 (x74 + q66.1).toNatClampNeg) (fun x76 => gd (inb ((60 * (g 22)) + q66.1) 180) (lt (va_up q66.2 14 (upd (q66.2 14) ((60 * (g 22)) + q66.1).toNatClampNeg x76)) (fun a78 => some (.inl ((q66.1 + 1), a78))))))))))))
theorem op_e (n : Nat) (v1 : Int32) (g : aG) (a : aA) : mM_open n v1 g a = bd (mM_item n v1 0 g a) (fun x2 => bd (mM_item n v1 2 g a) (fun x5 => bd (mM_items n v1 g a) (fun x8 => if x8 = 3 then (bd (mM_isSort n x2 2 g a) (fun x12 => if x12 = 0 then (some ((0, g, a))) else (bd (mM_item n v1 1 g a) (fun x16 => bd (mM_isSort n x16 1 g a) (fun x19 => if x19 = 0 then (some ((0, g, a))) else (bd (mM_isSort n x5 2 g a) (fun x23 => if x23 = 0 then (some ((0, g, a))) else (gd (inb x2 41) (lt (a 4 x2.toNatClampNeg) (fun x27 => if x27 < 1 then (some ((0, g, a))) else (gd (inb x2 41) (lt (a 4 x2.toNatClampNeg) (fun x30 => if 4 < x30 then (some ((0, g, a))) else (gd (inb x5 41) (lt (a 4 x5.toNatClampNeg) (fun x33 => if 60 < x33 then (some ((0, g, a))) else (if (g 22) = 3 then (some ((0, g, a))) else (bd (mM_documentOf n x2 g a) (fun x37 => if x37 < 0 then (gd (inb x2 41) (lt (a 4 x2.toNatClampNeg) (fun x41 => gd (inb (g 22) 3) (lt (va_up a 10 (upd (a 10) (g 22).toNatClampNeg x41)) (fun a43 => jn (α := aA) (lp (ε := Int32 × aA) (bM_o1 x2 g) n (0, a43)) (fun a46 => bd (mM_item n v1 1 g a46) (fun x49 => gd (inb x49 41) (lt (a46 2 x49.toNatClampNeg) (fun x52 => gd (inb (g 22) 3) (lt (va_up a46 12 (upd (a46 12) (g 22).toNatClampNeg x52)) (fun a54 => gd (inb x5 41) (lt (a54 4 x5.toNatClampNeg) (fun x56 => gd (inb (g 22) 3) (lt (va_up a54 13 (upd (a54 13) (g 22).toNatClampNeg x56)) (fun a58 => jn (α := aA) (lp (ε := Int32 × aA) (bM_o2 x5 g) n (0, a58)) (fun a61 => lt (va_up g 22 ((g 22) + 1)) (fun g63 => some ((1, g63, a61))))))))))))))))))) else (some ((0, g, a)))))))))))))))))))))) else (some ((0, g, a)))))) := rfl
theorem o1_b {w k : Nat} {A : aA} (hw : w < 41) (h4 : A 4 w = nI k) : bM_o1 (nI w) g (nI k, A) = some (.inr (.inl A)) := by
  have e1 : inb (nI w) 41 = true := inb_T (by omega) (by omega)
  have e2 : (nI w).toNatClampNeg = w := nI_clamp (by omega)
  obtain ⟨X, hX⟩ : ∃ X : Int32 → Option ((Int32 × aA) ⊕ (aA ⊕ (Int32 × aG × aA))), bM_o1 (nI w) g (nI k, A) = gd (inb (nI w) 41) (lt (A 4 (nI w).toNatClampNeg) (fun x23 => if x23 ≤ nI k then some (.inr (.inl A)) else X x23)) := ⟨fun _ => _, rfl⟩
  rw [hX, e1, gd_T, e2, lt, h4, if_pos (Int32.le_refl _)]
theorem o2_b {w k : Nat} {A : aA} (hw : w < 41) (h4 : A 4 w = nI k) : bM_o2 (nI w) g (nI k, A) = some (.inr (.inl A)) := by
  have e1 : inb (nI w) 41 = true := inb_T (by omega) (by omega)
  have e2 : (nI w).toNatClampNeg = w := nI_clamp (by omega)
  obtain ⟨X, hX⟩ : ∃ X : Int32 → Option ((Int32 × aA) ⊕ (aA ⊕ (Int32 × aG × aA))), bM_o2 (nI w) g (nI k, A) = gd (inb (nI w) 41) (lt (A 4 (nI w).toNatClampNeg) (fun x23 => if x23 ≤ nI k then some (.inr (.inl A)) else X x23)) := ⟨fun _ => _, rfl⟩
  rw [hX, e1, gd_T, e2, lt, h4, if_pos (Int32.le_refl _)]
theorem o1_s {w s z d k : Nat} {A : aA} (hw : w < 41) (hg : g 22 = nI d) (hd : d < 3) (h4 : A 4 w = nI z) (h3 : A 3 w = nI s) (hs : s + z ≤ 200) (hp : z ≤ 4) (hk : k < z) : bM_o1 (nI w) g (nI k, A) = some (.inl (nI (k + 1), va_up A 11 (upd (A 11) (4 * d + k) (A 8 (s + k))))) := by
  have e1 : inb (nI w) 41 = true := inb_T (by omega) (by omega)
  have e2 : (nI w).toNatClampNeg = w := nI_clamp (by omega)
  have e : ¬ nI z ≤ nI k := nI_ge (by omega) (by omega)
  have e3 : nI s + nI k = nI (s + k) := nI_add s k
  have e4 : 4 * nI d + nI k = nI (4 * d + k) := by rw [mu_L, nI_add]
  have e5 : inb (nI (s + k)) 201 = true := inb_T (by omega) (by omega)
  have e6 : (nI (s + k)).toNatClampNeg = s + k := nI_clamp (by omega)
  have e7 : inb (nI (4 * d + k)) 12 = true := inb_T (by omega) (by omega)
  have e8 : (nI (4 * d + k)).toNatClampNeg = 4 * d + k := nI_clamp (by omega)
  simp only [bM_o1, hg, e1, gd_T, e2, lt, h4, e, h3, e3, e5, e6, e4, e7, e8, nI_1, reduceIte]
theorem o2_s {w s z d k : Nat} {A : aA} (hw : w < 41) (hg : g 22 = nI d) (hd : d < 3) (h4 : A 4 w = nI z) (h3 : A 3 w = nI s) (hs : s + z ≤ 200) (hp : z ≤ 60) (hk : k < z) : bM_o2 (nI w) g (nI k, A) = some (.inl (nI (k + 1), va_up A 14 (upd (A 14) (60 * d + k) (A 8 (s + k))))) := by
  have e1 : inb (nI w) 41 = true := inb_T (by omega) (by omega)
  have e2 : (nI w).toNatClampNeg = w := nI_clamp (by omega)
  have e : ¬ nI z ≤ nI k := nI_ge (by omega) (by omega)
  have e3 : nI s + nI k = nI (s + k) := nI_add s k
  have e4 : 60 * nI d + nI k = nI (60 * d + k) := by rw [mu_L, nI_add]
  have e5 : inb (nI (s + k)) 201 = true := inb_T (by omega) (by omega)
  have e6 : (nI (s + k)).toNatClampNeg = s + k := nI_clamp (by omega)
  have e7 : inb (nI (60 * d + k)) 180 = true := inb_T (by omega) (by omega)
  have e8 : (nI (60 * d + k)).toNatClampNeg = 60 * d + k := nI_clamp (by omega)
  simp only [bM_o2, hg, e1, gd_T, e2, lt, h4, e, h3, e3, e5, e6, e4, e7, e8, nI_1, reduceIte]
theorem o1_l {w s z d : Nat} {f : Nat → Int32} {a : aA} (hw : w < 41) (hg : g 22 = nI d) (hd : d < 3) (h4 : a 4 w = nI z) (h3 : a 3 w = nI s) (hs : s + z ≤ 200) (hp : z ≤ 4) : ∀ m k j, k + m = z → m < j → lp (bM_o1 (nI w) g) j (nI k, va_up a 11 (wt f (a 8) (4 * d) s k)) = some (.inl (va_up a 11 (wt f (a 8) (4 * d) s z))) := by
  intro m
  induction m with
  | zero =>
    intro k j h1 h2
    have e : k = z := by omega
    subst e
    exact lp_e (o1_b hw (by rw [va_up_ne _ _ (by omega)]; exact h4)) h2
  | succ m ih =>
    intro k j h1 h2
    have hs1 := o1_s (g := g) (A := va_up a 11 (wt f (a 8) (4 * d) s k)) (k := k) hw hg hd (by rw [va_up_ne _ _ (by omega)]; exact h4) (by rw [va_up_ne _ _ (by omega)]; exact h3) hs hp (by omega)
    rw [up_up, va_up_self, va_up_ne _ _ (by omega), wt_s] at hs1
    exact (lp_s hs1 (by omega)).trans (ih (k + 1) (j - 1) (by omega) (by omega))
theorem o2_l {w s z d : Nat} {f : Nat → Int32} {a : aA} (hw : w < 41) (hg : g 22 = nI d) (hd : d < 3) (h4 : a 4 w = nI z) (h3 : a 3 w = nI s) (hs : s + z ≤ 200) (hp : z ≤ 60) : ∀ m k j, k + m = z → m < j → lp (bM_o2 (nI w) g) j (nI k, va_up a 14 (wt f (a 8) (60 * d) s k)) = some (.inl (va_up a 14 (wt f (a 8) (60 * d) s z))) := by
  intro m
  induction m with
  | zero =>
    intro k j h1 h2
    have e : k = z := by omega
    subst e
    exact lp_e (o2_b hw (by rw [va_up_ne _ _ (by omega)]; exact h4)) h2
  | succ m ih =>
    intro k j h1 h2
    have hs1 := o2_s (g := g) (A := va_up a 14 (wt f (a 8) (60 * d) s k)) (k := k) hw hg hd (by rw [va_up_ne _ _ (by omega)]; exact h4) (by rw [va_up_ne _ _ (by omega)]; exact h3) hs hp (by omega)
    rw [up_up, va_up_self, va_up_ne _ _ (by omega), wt_s] at hs1
    exact (lp_s hs1 (by omega)).trans (ih (k + 1) (j - 1) (by omega) (by omega))
theorem wtp {f P : Nat → Int32} {p s N i : Nat} (h : i < N) : wt f P p s N (p + i) = P (s + i) := by
  unfold wt
  rw [if_pos (by omega)]; congr 1; omega
/-- a document opened on both sides -/
theorem opn_2 (h : Vw gV aV g a v u) {L K : Nat} {w : Nat → Nat} {gS : aG} {aS : aA} {dP : aP} (hL : L < v) (hA : Arr n gV aV g a v L K w) (hD : IvD gS dP g a) (hn : 300 < n) : ∃ r gS' dP' g' a', mS_open n (nI L) gS aS gV aV dP = some (r, gS', dP') ∧ mM_open n (nI L) g a = some (r, g', a') ∧ (r = 0 ∨ r = 1) ∧ IvD gS' dP' g' a' ∧ (∀ j, j ≠ 22 → g' j = g j) ∧ (∀ j, j < 10 ∨ 14 < j → a' j = a j) := by
  obtain ⟨nd, d1, d2, d3, d4, d5⟩ := id hD
  have hv := h.1
  have hu := h.2.2.1
  have l17 : slen 17 = 3 := by decide +kernel
  have b0 : sbyt 17 0 = 115 := by decide +kernel
  have b1 : ¬ sbyt 17 1 = 115 := by decide +kernel
  have b2 : sbyt 17 2 = 115 := by decide +kernel
  obtain ⟨p1, p2⟩ := hsp (n := n) (i := 17) h hL hA (by omega) (by rw [l17]; decide +kernel) hn
  rw [l17] at p1 p2
  have hK39 := hA.1
  have same : mS_open n (nI L) gS aS gV aV dP = some (0, gS, dP) → mM_open n (nI L) g a = some (0, g, a) → ∃ r gS' dP' g' a', mS_open n (nI L) gS aS gV aV dP = some (r, gS', dP') ∧ mM_open n (nI L) g a = some (r, g', a') ∧ (r = 0 ∨ r = 1) ∧ IvD gS' dP' g' a' ∧ (∀ j, j ≠ 22 → g' j = g j) ∧ (∀ j, j < 10 ∨ 14 < j → a' j = a j) := fun q1 q2 => ⟨0, gS, dP, g, a, q1, q2, .inl rfl, hD, fun _ _ => rfl, fun _ _ => rfl⟩
  by_cases hK : K = 3
  · subst hK
    have c3 : nI 3 = 3 := rfl
    obtain ⟨-, x0, i0c, i0d⟩ := hA.2.2.2.1 0 (by omega)
    obtain ⟨-, x1, i1c, i1d⟩ := hA.2.2.2.1 1 (by omega)
    obtain ⟨-, x2, i2c, i2d⟩ := hA.2.2.2.1 2 (by omega)
    have i0c : mV_item n (nI L) 0 gV aV = some (nI (w 0)) := i0c
    have i0d : mM_item n (nI L) 0 g a = some (nI (w 0)) := i0d
    have i1c : mV_item n (nI L) 1 gV aV = some (nI (w 1)) := i1c
    have i1d : mM_item n (nI L) 1 g a = some (nI (w 1)) := i1d
    have i2c : mV_item n (nI L) 2 gV aV = some (nI (w 2)) := i2c
    have i2d : mM_item n (nI L) 2 g a = some (nI (w 2)) := i2d
    have hit := hA.2.2.1
    obtain ⟨-, -, k0s, k0n⟩ := knd (n := n) h x0
    obtain ⟨k1s, k1n, -, -⟩ := knd (n := n) h x1
    obtain ⟨-, -, k2s, k2n⟩ := knd (n := n) h x2
    by_cases hs0 : aV 0 (w 0) = 2
    · by_cases hs1 : aV 0 (w 1) = 1
      · by_cases hs2 : aV 0 (w 2) = 2
        · have hsh := p1 ⟨rfl, fun j hj => by
            have : j = 0 ∨ j = 1 ∨ j = 2 := by omega
            unfold KM
            rcases this with rfl | rfl | rfl
            · rw [if_pos b0]; exact hs0
            · rw [if_neg b1]; exact hs1
            · rw [if_pos b2]; exact hs2⟩
          obtain ⟨s0, z0, hT0⟩ := h.str x0 hs0
          obtain ⟨s2, z2, hT2⟩ := h.str x2 hs2
          obtain ⟨k1a, k1b, k1c⟩ := k1s hs1
          have nb : mV_numberAt n (nI L) 1 gV aV = some (a 2 (w 1)) := by rw [mV_numberAt, i1c, bd_s, k1b, bd_s]
          obtain ⟨y, y1, y2, y3⟩ := fnd_2x (n := n) (aS := aS) h x0 hT0 hn d1 d2 d3 d5
          have t04 := hT0.2.2.2.2.2.1
          have t03 := hT0.2.2.2.1
          have t24 := hT2.2.2.2.2.2.1
          have t23 := hT2.2.2.2.1
          have t07 := hT0.2.2.2.2.2.2
          have t27 := hT2.2.2.2.2.2.2
          have e0 : inb (nI (w 0)) 41 = true := inb_T (by omega) (by omega)
          have e0' : (nI (w 0)).toNatClampNeg = w 0 := nI_clamp (by omega)
          have e1 : inb (nI (w 1)) 41 = true := inb_T (by omega) (by omega)
          have e1' : (nI (w 1)).toNatClampNeg = w 1 := nI_clamp (by omega)
          have e2 : inb (nI (w 2)) 41 = true := inb_T (by omega) (by omega)
          have e2' : (nI (w 2)).toNatClampNeg = w 2 := nI_clamp (by omega)
          have m1 : (-1 : Int32) < 0 := by decide
          have q1 : (nI z0 < 1) ↔ z0 < 1 := lt_L (b := 1) (by omega) (by decide)
          have q4 : (4 < nI z0) ↔ 4 < z0 := L_lt (b := 4) (by omega) (by decide)
          have q60 : (60 < nI z2) ↔ 60 < z2 := L_lt (b := 60) (by omega) (by decide)
          have q3 : (nI nd = 3) ↔ nd = 3 := eq_L (b := 3) (by omega) (by decide)
          have q3' : (nI nd < 3) ↔ nd < 3 := lt_L (b := 3) (by omega) (by decide)
          -- what the reference answers where it refuses
          have refM : (z0 < 1 ∨ 4 < z0 ∨ 60 < z2 ∨ nd = 3 ∨ ¬ y = -1) → mM_open n (nI L) g a = some (0, g, a) := by
            intro hq
            by_cases r1 : z0 < 1
            · simp only [op_e, i0d, i2d, hit, bd_s, if_pos c3, k0s hs0, one_ne_zero, reduceIte, i1d, k1a, k2s hs2, e0, e0', t04, gd_T, lt, q1.mpr r1]
            have r1' : ¬ nI z0 < 1 := fun z => r1 (q1.mp z)
            by_cases r4 : 4 < z0
            · simp only [op_e, i0d, i2d, hit, bd_s, if_pos c3, k0s hs0, one_ne_zero, reduceIte, i1d, k1a, k2s hs2, e0, e0', t04, gd_T, lt, r1', q4.mpr r4]
            have r4' : ¬ 4 < nI z0 := fun z => r4 (q4.mp z)
            by_cases r60 : 60 < z2
            · simp only [op_e, i0d, i2d, hit, bd_s, if_pos c3, k0s hs0, one_ne_zero, reduceIte, i1d, k1a, k2s hs2, e0, e0', t04, gd_T, lt, r1', r4', e2, e2', t24, q60.mpr r60]
            have r60' : ¬ 60 < nI z2 := fun z => r60 (q60.mp z)
            by_cases r3 : nd = 3
            · simp only [op_e, i0d, i2d, hit, bd_s, if_pos c3, k0s hs0, one_ne_zero, reduceIte, i1d, k1a, k2s hs2, e0, e0', t04, gd_T, lt, r1', r4', e2, e2', t24, r60', d3, if_pos (q3.mpr r3)]
            have r3' : ¬ nI nd = 3 := fun z => r3 (q3.mp z)
            have hyn : ¬ y = -1 := by
              rcases hq with q | q | q | q | q
              · exact absurd q r1
              · exact absurd q r4
              · exact absurd q r60
              · exact absurd q r3
              · exact q
            have hy : ¬ y < 0 := by
              rcases y3 with y9 | ⟨i, hi, rfl⟩
              · exact absurd y9 hyn
              · exact nI_pos (by omega)
            simp only [op_e, i0d, i2d, hit, bd_s, if_pos c3, k0s hs0, one_ne_zero, reduceIte, i1d, k1a, k2s hs2, e0, e0', t04, gd_T, lt, r1', r4', e2, e2', t24, r60', d3, r3', y2, hy]
          by_cases hnd : nd < 3
          · have e3 : inb (nI nd) 3 = true := inb_T hnd (by omega)
            have e3' : (nI nd).toNatClampNeg = nd := nI_clamp (by omega)
            by_cases hy : y = -1
            · subst hy
              obtain ⟨N0, hN0, hg0⟩ := d4 nd hnd
              obtain ⟨g1, g2⟩ := begV (n := n) (gD := (dP nd).2.1) (aD := (dP nd).2.2.1) (aT := (dP nd).2.2.2.2) h hn i0c i2c nb x0 x2 hT0 hT2 hN0 hg0
              by_cases hok : 1 ≤ z0 ∧ z0 ≤ 4 ∧ z2 ≤ 60
              · have r1' : ¬ nI z0 < 1 := fun z => by have := q1.mp z; omega
                have r4' : ¬ 4 < nI z0 := fun z => by have := q4.mp z; omega
                have r60' : ¬ 60 < nI z2 := fun z => by have := q60.mp z; omega
                have r3' : ¬ nI nd = 3 := fun z => by have := q3.mp z; omega
                have o1 := o1_l (g := g) (w := w 0) (s := s0) (z := z0) (d := nd) (f := a 11) (a := va_up a 10 (upd (a 10) nd (nI z0))) (by omega) d3 hnd t04 t03 (by omega) hok.2.1 z0 0 n (by omega) (by omega)
                have va11 : va_up (va_up a 10 (upd (a 10) nd (nI z0))) 11 (a 11) = va_up a 10 (upd (a 10) nd (nI z0)) := va_upE (f := va_up a 10 (upd (a 10) nd (nI z0))) (k := 11)
                rw [wt_0, va11] at o1
                obtain ⟨A1, hA1⟩ : ∃ A1, A1 = va_up (va_up a 10 (upd (a 10) nd (nI z0))) 11 (wt (a 11) (a 8) (4 * nd) s0 z0) := ⟨_, rfl⟩
                have o1 : lp (bM_o1 (nI (w 0)) g) n (0, va_up a 10 (upd (a 10) nd (nI z0))) = some (.inl A1) := by rw [hA1]; exact o1
                obtain ⟨A2, hA2⟩ : ∃ A2, A2 = va_up (va_up A1 12 (upd (A1 12) nd (a 2 (w 1)))) 13 (upd (A1 13) nd (nI z2)) := ⟨_, rfl⟩
                have zA1 : ∀ i, i < 10 ∨ 11 < i → A1 i = a i := fun i hi => by rw [hA1, va_up_ne _ _ (by omega), va_up_ne _ _ (by omega)]
                have zA2 : ∀ i, i < 12 ∨ 13 < i → A2 i = A1 i := fun i hi => by rw [hA2, va_up_ne _ _ (by omega), va_up_ne _ _ (by omega)]
                have o2 := o2_l (g := g) (w := w 2) (s := s2) (z := z2) (d := nd) (f := A2 14) (a := A2) (by omega) d3 hnd (by rw [zA2 _ (by omega), zA1 _ (by omega)]; exact t24) (by rw [zA2 _ (by omega), zA1 _ (by omega)]; exact t23) (by omega) hok.2.2 z2 0 n (by omega) (by omega)
                rw [wt_0, va_upE] at o2
                have o2 : lp (bM_o2 (nI (w 2)) g) n (0, A2) = some (.inl (va_up A2 14 (wt (A2 14) (A2 8) (60 * nd) s2 z2))) := o2
                obtain ⟨A3, hA3⟩ : ∃ A3, A3 = va_up A2 14 (wt (A2 14) (A2 8) (60 * nd) s2 z2) := ⟨_, rfl⟩
                rw [← hA3] at o2
                have i1e : mM_item n (nI L) 1 g A1 = some (nI (w 1)) := by rw [item_c (g := g) (a := a) rfl (zA1 5 (by omega))]; exact i1d
                have y10 : A3 10 = upd (a 10) nd (nI z0) := by rw [hA3, va_up_ne _ _ (by omega), zA2 _ (by omega), hA1, va_up_ne _ _ (by omega), va_up_self]
                have y11 : A3 11 = wt (a 11) (a 8) (4 * nd) s0 z0 := by rw [hA3, va_up_ne _ _ (by omega), zA2 _ (by omega), hA1, va_up_self]
                have y12 : A3 12 = upd (a 12) nd (a 2 (w 1)) := by rw [hA3, va_up_ne _ _ (by omega), hA2, va_up_ne _ _ (by omega), va_up_self, zA1 _ (by omega)]
                have y13 : A3 13 = upd (a 13) nd (nI z2) := by rw [hA3, va_up_ne _ _ (by omega), hA2, va_up_self, zA1 _ (by omega)]
                have y14 : A3 14 = wt (a 14) (a 8) (60 * nd) s2 z2 := by rw [hA3, va_up_self, zA2 _ (by omega), zA1 _ (by omega), zA2 _ (by omega), zA1 _ (by omega)]
                obtain ⟨dR, hdR⟩ : ∃ dR : aDS, dR = ((dP nd).1, va_up (va_up (dP nd).2.1 2 (nI z0)) 3 (a 2 (w 1)), va_up (dP nd).2.2.1 0 (wt ((dP nd).2.2.1 0) (a 8) 0 s0 z0), va_up (dP nd).2.2.2.1 1 (nI z2), va_up (dP nd).2.2.2.2 0 (wt (va_cpy ((dP nd).2.2.2.2 0) ((dP nd).2.2.2.2 0) N0 z2 0) (a 8) 0 s2 z2)) := ⟨_, rfl⟩
                have hlet := h.2.2.2.2.2.2.1.2.2
                refine ⟨1, va_up gS 2 (nI (nd + 1)), va_up dP nd dR, va_up g 22 (nI (nd + 1)), A3, ?_, ?_, .inr rfl, ⟨nd + 1, by omega, rfl, rfl, fun i hi => ?_, fun i hi => ?_⟩, fun j hj => va_up_ne _ _ hj, fun j hj => ?_⟩
                · simp only [mS_open, hsh, bd_s, one_ne_zero, reduceIte, d2, q3'.mpr hnd, i0c, y1, e3, e3', gd_T, g1 hok, lt, ad_L, hdR]
                · rw [op_e]
                  simp only [i0d, i2d, hit, bd_s, if_pos c3, k0s hs0, one_ne_zero, reduceIte, i1d, k1a, k2s hs2, e0, e0', t04, gd_T, lt, r1', r4', e2, e2', t24, r60', d3, r3', y2, m1, e3, e3', o1, jn_l, i1e, e1, e1']
                  have w2 : A1 2 (w 1) = a 2 (w 1) := by rw [zA1 _ (by omega)]
                  have w4 : (va_up A1 12 (upd (A1 12) nd (a 2 (w 1)))) 4 (w 2) = nI z2 := by rw [va_up_ne _ _ (by omega), zA1 _ (by omega)]; exact t24
                  have w13 : (va_up A1 12 (upd (A1 12) nd (a 2 (w 1)))) 13 = A1 13 := va_up_ne _ _ (by omega)
                  rw [w2, w4, w13, ← hA2, o2, jn_l, show nI nd + 1 = nI (nd + 1) from nI_1 nd]
                · by_cases hid : i = nd
                  · rw [hid, va_up_self, hdR]; exact ⟨z2, hok.2.2, rfl⟩
                  · rw [va_up_ne _ _ hid]; exact d4 i hi
                · by_cases hid : i = nd
                  · subst hid
                    rw [va_up_self, hdR]
                    refine ⟨⟨z0, hok.1, hok.2.1, ?_, ?_, fun j hj => ?_⟩, ?_, ⟨z2, hok.2.2, rfl, ?_, fun j hj => ?_⟩⟩
                    · show va_up (va_up (dP i).2.1 2 (nI z0)) 3 (a 2 (w 1)) 2 = nI z0
                      rw [va_up_ne _ _ (by omega), va_up_self]
                    · rw [y10, upd_eq]
                    · show va_up (dP i).2.2.1 0 (wt ((dP i).2.2.1 0) (a 8) 0 s0 z0) 0 j = A3 11 (4 * i + j) ∧ chr (va_up (dP i).2.2.1 0 (wt ((dP i).2.2.1 0) (a 8) 0 s0 z0) 0 j)
                      rw [va_up_self, wt0 hj, y11, wtp hj]
                      exact ⟨rfl, (hlet (s0 + j) (by omega)).2⟩
                    · show va_up (va_up (dP i).2.1 2 (nI z0)) 3 (a 2 (w 1)) 3 = A3 12 i
                      rw [va_up_self, y12, upd_eq]
                    · rw [y13, upd_eq]
                    · show va_up (dP i).2.2.2.2 0 (wt (va_cpy ((dP i).2.2.2.2 0) ((dP i).2.2.2.2 0) N0 z2 0) (a 8) 0 s2 z2) 0 j = A3 14 (60 * i + j) ∧ chr (va_up (dP i).2.2.2.2 0 (wt (va_cpy ((dP i).2.2.2.2 0) ((dP i).2.2.2.2 0) N0 z2 0) (a 8) 0 s2 z2) 0 j)
                      rw [va_up_self, wt0 hj, y14, wtp hj]
                      exact ⟨rfl, (hlet (s2 + j) (by omega)).2⟩
                  · rw [va_up_ne _ _ hid]
                    refine (d5 i (by omega)).mv ?_ (fun j hj => ?_) ?_ ?_ (fun j hj => ?_)
                    · rw [y10, upd_ne hid]
                    · rw [y11]; unfold wt; rw [if_neg (by omega)]
                    · rw [y12, upd_ne hid]
                    · rw [y13, upd_ne hid]
                    · rw [y14]; unfold wt; rw [if_neg (by omega)]
                · rw [hA3, va_up_ne _ _ (by omega), zA2 _ (by omega), zA1 _ (by omega)]
              · have hdP : va_up dP nd ((dP nd).1, (dP nd).2.1, (dP nd).2.2.1, (dP nd).2.2.2.1, (dP nd).2.2.2.2) = dP := by
                  funext j
                  rw [va_ap]
                  split
                  · rename_i e; rw [e]
                  · rfl
                refine same ?_ (refM (by omega))
                simp only [mS_open, hsh, bd_s, one_ne_zero, reduceIte, d2, q3'.mpr hnd, i0c, y1, e3, e3', gd_T, g2 hok, lt, hdP]
            · refine same ?_ (refM (.inr (.inr (.inr (.inr hy)))))
              simp only [mS_open, hsh, bd_s, one_ne_zero, reduceIte, d2, q3'.mpr hnd, i0c, y1, hy]
          · refine same ?_ (refM (by omega))
            have q3n : ¬ nI nd < 3 := fun z => hnd (q3'.mp z)
            simp only [mS_open, hsh, bd_s, one_ne_zero, reduceIte, d2, q3n]
        · have hsh := p2 (fun q => hs2 (by have := q.2 2 (by omega); unfold KM at this; rwa [if_pos b2] at this))
          refine same ?_ ?_
          · simp only [mS_open, hsh, bd_s, reduceIte]
          · simp only [op_e, i0d, i2d, hit, bd_s, if_pos c3, k0s hs0, one_ne_zero, reduceIte, i1d, (k1s hs1).1, k2n hs2]
      · have hsh := p2 (fun q => hs1 (by have := q.2 1 (by omega); unfold KM at this; rwa [if_neg b1] at this))
        refine same ?_ ?_
        · simp only [mS_open, hsh, bd_s, reduceIte]
        · simp only [op_e, i0d, i2d, hit, bd_s, if_pos c3, k0s hs0, one_ne_zero, reduceIte, i1d, k1n hs1]
    · have hsh := p2 (fun q => hs0 (by have := q.2 0 (by omega); unfold KM at this; rwa [if_pos b0] at this))
      refine same ?_ ?_
      · simp only [mS_open, hsh, bd_s, reduceIte]
      · simp only [op_e, i0d, i2d, hit, bd_s, if_pos c3, k0n hs0, reduceIte]
  · have hsh := p2 (fun q => hK q.1)
    have c3 : ¬ nI K = 3 := by rw [eq_L (b := 3) (by omega) (by decide)]; exact hK
    have hi0 : ∃ y, mM_item n (nI L) 0 g a = some y := by
      by_cases h0 : 0 < K
      · exact ⟨_, (hA.2.2.2.1 0 h0).2.2.2⟩
      · exact ⟨_, (hA.2.2.2.2 0 (by omega) (by omega)).2⟩
    have hi2 : ∃ y, mM_item n (nI L) 2 g a = some y := by
      by_cases h0 : 2 < K
      · exact ⟨_, (hA.2.2.2.1 2 h0).2.2.2⟩
      · exact ⟨_, (hA.2.2.2.2 2 (by omega) (by omega)).2⟩
    obtain ⟨y0, hy0⟩ := hi0
    obtain ⟨y2, hy2⟩ := hi2
    refine same ?_ ?_
    · simp only [mS_open, hsh, bd_s, reduceIte]
    · simp only [op_e, hy0, hy2, hA.2.2.1, bd_s, c3, reduceIte]
end OP
