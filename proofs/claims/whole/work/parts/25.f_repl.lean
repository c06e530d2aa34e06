/-! a part of a text replaced -/
def wt (f P : Nat → Int32) (p s k : Nat) : Nat → Int32 := fun i => if p ≤ i ∧ i < p + k then P (s + (i - p)) else f i
theorem wt_0 (f P : Nat → Int32) (p s : Nat) : wt f P p s 0 = f := by
  funext i
  unfold wt
  rw [if_neg (by omega)]
theorem wt_s (f P : Nat → Int32) (p s k : Nat) : upd (wt f P p s k) (p + k) (P (s + k)) = wt f P p s (k + 1) := by
  funext i
  simp only [upd_ap, wt]
  by_cases h : i = p + k
  · rw [if_pos h, if_pos (by omega), h]; congr 1; omega
  · rw [if_neg h]
    by_cases h2 : p ≤ i ∧ i < p + k
    · rw [if_pos h2, if_pos (by omega)]
    · rw [if_neg h2, if_neg (by omega)]
section RP
variable {gV : aG} {aV : aA} {g : aG} {a : aA} {v u n : Nat}
def bV_rp (n : Nat) (v1 x1 x4 v4 : Int32) (gT gV : aG) (aV : aA) : Int32 × aA → Option ((Int32 × aA) ⊕ (Int32 × aG × aA)) := (fun q11 => if x1 ≤ q11.1 then (lt (va_up gT 1 x4) (fun g16 => some (.inr ((1, g16, q11.2))))) else (bd (mV_letterOf n v4 q11.1 gV aV) (fun x17 => gd (inb (v1 + q11.1) 60) (lt (va_up q11.2 0 (upd (q11.2 0) (v1 + q11.1).toNatClampNeg (vp_nar .char x17))) (fun a21 => some (.inl ((q11.1 + 1), a21)))))))
theorem rpV_l (h : Vw gV aV g a v u) {w s z p : Nat} {gT : aG} {aT : aA} {x4 : Int32} {f : Nat → Int32} (hw : w < v) (hT : isT aV a u w s z) (hp : p + z ≤ 60) : ∀ m k j, k + m = z → m < j → lp (bV_rp n (nI p) (nI z) x4 (nI w) gT gV aV) j (nI k, va_up aT 0 (wt f (a 8) p s k)) = some (1, va_up gT 1 x4, va_up aT 0 (wt f (a 8) p s z)) := by
  intro m
  induction m with
  | zero =>
    intro k j h1 h2
    have e : k = z := by omega
    subst e
    refine lp_e ?_ h2
    simp only [bV_rp, show nI k ≤ nI k from Int32.le_refl _, reduceIte, lt]
  | succ m ih =>
    intro k j h1 h2
    have e : ¬ nI z ≤ nI k := nI_ge (by omega) (by omega)
    obtain ⟨l1, l2⟩ := let_w (n := n) h hw hT.2.2.1 hT.2.2.2.2.2.2 (show k < z by omega)
    refine (lp_s ?_ (by omega)).trans (ih (k + 1) (j - 1) (by omega) (by omega))
    have e1 : nI p + nI k = nI (p + k) := nI_add p k
    have e2 : inb (nI (p + k)) 60 = true := inb_T (by omega) (by omega)
    have e3 : (nI (p + k)).toNatClampNeg = p + k := nI_clamp (by omega)
    simp only [bV_rp, e, l1, bd_s, e1, e2, e3, gd_T, lt, nar_c l2, reduceIte, ad_L, up_up, va_up_self, wt_s]
theorem cpk {p q N z : Nat} (hN : q ≤ N) (h1 : N ≤ 60) (h2 : p + z + (N - q) ≤ 60) : cpok (nI q) (nI (p + z)) (nI (N - q)) 60 60 = true := by
  unfold cpok
  rw [nI_clamp (by omega), nI_clamp (by omega), nI_clamp (by omega)]
  exact decide_eq_true ⟨nI_pos' (by omega), nI_pos' (by omega), nI_pos' (by omega), by omega, by omega⟩
theorem okcs_T {f : Nat → Int32} {q k : Nat} (h : ∀ i, i < k → chr (f (q + i))) : okcs f q k = true := List.all_eq_true.mpr (fun i hi => (chr_k (h i (List.mem_range.mp hi))).2)
theorem repV (h : Vw gV aV g a v u) {w s z p q N : Nat} {gT : aG} {aT : aA} (hw : w < v) (hT : isT aV a u w s z) (hpq : p ≤ q) (hqN : q ≤ N) (hN : N ≤ 60) (hg1 : gT 1 = nI N) (hc : ∀ i, q ≤ i → i < N → chr (aT 0 i)) (hn : 300 < n) : (p + z + (N - q) ≤ 60 → mT_replace n (nI p) (nI q) (nI w) gT aT gV aV = some (1, va_up gT 1 (nI (p + z + (N - q))), va_up aT 0 (wt (va_cpy (aT 0) (aT 0) q (p + z) (N - q)) (a 8) p s z))) ∧ (¬ p + z + (N - q) ≤ 60 → mT_replace n (nI p) (nI q) (nI w) gT aT gV aV = some (0, gT, aT)) := by
  have hu := h.2.2.1
  have t7 := hT.2.2.2.2.2.2
  have hz := (num_w (n := n) h hw).2
  rw [hT.2.2.2.2.1] at hz
  have e1 : nI q - nI p = nI (q - p) := nI_sb hpq
  have e2 : nI N - nI (q - p) = nI (N - (q - p)) := nI_sb (by omega)
  have e3 : nI (N - (q - p)) + nI z = nI (p + z + (N - q)) := by rw [nI_add]; congr 1; omega
  have e4 : (nI (p + z + (N - q)) ≤ 60) ↔ p + z + (N - q) ≤ 60 := le_L (b := 60) (by omega) (by decide)
  have e5 : nI p + nI z = nI (p + z) := nI_add p z
  have e6 : nI N - nI q = nI (N - q) := nI_sb hqN
  have e7 : (nI q).toNatClampNeg = q := nI_clamp (by omega)
  have e8 : (nI (p + z)).toNatClampNeg = p + z := nI_clamp (by omega)
  have e9 : (nI (N - q)).toNatClampNeg = N - q := nI_clamp (by omega)
  refine ⟨fun hle => ?_, fun hle => ?_⟩
  · have l1 := rpV_l (n := n) (gT := gT) (aT := aT) (x4 := nI (p + z + (N - q))) (f := va_cpy (aT 0) (aT 0) q (p + z) (N - q)) h hw hT (p := p) (by omega) z 0 n (by omega) (by omega)
    rw [wt_0] at l1
    have c1 := cpk (p := p) (z := z) hqN hN hle
    have c2 : okcs (aT 0) q (N - q) = true := okcs_T (fun i hi => hc (q + i) (by omega) (by omega))
    rw [mT_replace, hz, bd_s, hg1, e1, e2, lt, e3, if_pos (e4.mpr hle), e5, e6, c1, gd_T, e7, e9, c2, gd_T, e8, lt]
    exact l1
  · rw [mT_replace, hz, bd_s, hg1, e1, e2, lt, e3, if_neg (fun z => hle (e4.mp z))]
/-! the reference's three loops -/
def sh (f : Nat → Int32) (t N m : Nat) : Nat → Int32 := fun i => if t + m ≤ i ∧ i < N + m then f (i - m) else f i
def sd (f : Nat → Int32) (q k m : Nat) : Nat → Int32 := fun i => if q ≤ i + m ∧ i + m < k then f (i + m) else f i
def bM_up (v2 x3 : Int32) : Int32 × aA → Option ((Int32 × aA) ⊕ (aA ⊕ (Int32 × aG × aA))) := (fun q33 => if q33.1 < v2 then (some (.inr (.inl q33.2))) else (gd (inb q33.1 60) (lt (q33.2 15 q33.1.toNatClampNeg) (fun x39 => gd (inb (q33.1 + x3) 60) (lt (va_up q33.2 15 (upd (q33.2 15) (q33.1 + x3).toNatClampNeg x39)) (fun a41 => some (.inl ((q33.1 + (-1)), a41))))))))
def bM_w1 (v1 v3 : Int32) : Int32 × aA → Option ((Int32 × aA) ⊕ (aA ⊕ (Int32 × aG × aA))) := (fun q18 => gd (inb v3 41) (lt (q18.2 4 v3.toNatClampNeg) (fun x23 => if x23 ≤ q18.1 then (some (.inr (.inl q18.2))) else (gd (inb v3 41) (lt (q18.2 3 v3.toNatClampNeg) (fun x26 => gd (inb (x26 + q18.1) 201) (lt (q18.2 8 (x26 + q18.1).toNatClampNeg) (fun x28 => gd (inb (v1 + q18.1) 60) (lt (va_up q18.2 15 (upd (q18.2 15) (v1 + q18.1).toNatClampNeg x28)) (fun a30 => some (.inl ((q18.1 + 1), a30))))))))))))
def bM_dn (x3 : Int32) (g : aG) : Int32 × aA → Option ((Int32 × aA) ⊕ (aA ⊕ (Int32 × aG × aA))) := (fun q68 => if (g 29) ≤ q68.1 then (some (.inr (.inl q68.2))) else (gd (inb q68.1 60) (lt (q68.2 15 q68.1.toNatClampNeg) (fun x74 => gd (inb (q68.1 + x3) 60) (lt (va_up q68.2 15 (upd (q68.2 15) (q68.1 + x3).toNatClampNeg x74)) (fun a76 => some (.inl ((q68.1 + 1), a76))))))))
def bM_w2 (v1 v3 : Int32) : Int32 × aA → Option ((Int32 × aA) ⊕ (aA ⊕ (Int32 × aG × aA))) := (fun q53 => gd (inb v3 41) (lt (q53.2 4 v3.toNatClampNeg) (fun x58 => if x58 ≤ q53.1 then (some (.inr (.inl q53.2))) else (gd (inb v3 41) (lt (q53.2 3 v3.toNatClampNeg) (fun x61 => gd (inb (x61 + q53.1) 201) (lt (q53.2 8 (x61 + q53.1).toNatClampNeg) (fun x63 => gd (inb (v1 + q53.1) 60) (lt (va_up q53.2 15 (upd (q53.2 15) (v1 + q53.1).toNatClampNeg x63)) (fun a65 => some (.inl ((q53.1 + 1), a65))))))))))))
theorem rep_e (n : Nat) (v1 v2 v3 : Int32) (g : aG) (a : aA) : mM_replace n v1 v2 v3 g a = gd (inb v3 41) (lt (a 4 v3.toNatClampNeg) (fun x2 => lt ((x2 - (v2 - v1))) (fun x3 => if ((g 29) + x3) ≤ 60 then (if 0 ≤ x3 then (lt (((g 29) - 1)) (fun x6 => jn (α := aA) (lp (ε := Int32 × aA) (bM_up v2 x3) n (x6, a)) (fun a9 => jn (α := aA) (lp (ε := Int32 × aA) (bM_w1 v1 v3) n (0, a9)) (fun a13 => lt (va_up g 29 ((g 29) + x3)) (fun g15 => some ((1, g15, a13))))))) else (jn (α := aA) (lp (ε := Int32 × aA) (bM_dn x3 g) n (v2, a)) (fun a44 => jn (α := aA) (lp (ε := Int32 × aA) (bM_w2 v1 v3) n (0, a44)) (fun a48 => lt (va_up g 29 ((g 29) + x3)) (fun g50 => some ((1, g50, a48))))))) else (some ((0, g, a)))))) := rfl
theorem w2_e : bM_w2 = bM_w1 := rfl
theorem up_l {q N m : Nat} {f : Nat → Int32} {a : aA} (hN : N + m ≤ 60) : ∀ t j, q ≤ t → t ≤ N → t - q < j → lp (bM_up (nI q) (nI m)) j (nI t - 1, va_up a 15 (sh f t N m)) = some (.inl (va_up a 15 (sh f q N m))) := by
  intro t
  induction t with
  | zero =>
    intro j h1 h2 h3
    have e : q = 0 := by omega
    subst e
    have e1 : nI 0 - 1 < nI 0 := by decide
    refine lp_e ?_ (by omega)
    simp only [bM_up, e1, reduceIte]
  | succ t ih =>
    intro j h1 h2 h3
    rw [nI_pred]
    by_cases hq : q = t + 1
    · subst hq
      have e1 : nI t < nI (t + 1) := nI_lt (by omega) (by omega)
      refine lp_e ?_ (by omega)
      simp only [bM_up, e1, reduceIte]
    · have e1 : ¬ nI t < nI q := nI_nlt (by omega) (by omega)
      refine (lp_s ?_ (by omega)).trans (ih (j - 1) (by omega) (by omega) (by omega))
      have e2 : upd (sh f (t + 1) N m) (t + m) (sh f (t + 1) N m t) = sh f t N m := by
        funext i
        simp only [upd_ap, sh]
        by_cases h : i = t + m
        · rw [if_pos h, if_neg (by omega), if_pos (by omega), h]; congr 1; omega
        · rw [if_neg h]
          by_cases h4 : t + 1 + m ≤ i ∧ i < N + m
          · rw [if_pos h4, if_pos (by omega)]
          · rw [if_neg h4, if_neg (by omega)]
      simp (disch := omega) only [bM_up, e1, inb_T, nI_clamp, nI_add, va_up_self, up_up, e2, gd_T, lt, reduceIte, sbm_1 (m := 0)]
theorem dn_l {q N m : Nat} {f : Nat → Int32} {a : aA} (hg : g 29 = nI N) (hN : N ≤ 60) (hm : m ≤ q) : ∀ t k j, k + t = N → q ≤ k → t < j → lp (bM_dn (-(nI m)) g) j (nI k, va_up a 15 (sd f q k m)) = some (.inl (va_up a 15 (sd f q N m))) := by
  intro t
  induction t with
  | zero =>
    intro k j h1 h2 h3
    have e : k = N := by omega
    subst e
    refine lp_e ?_ h3
    simp only [bM_dn, hg, show nI k ≤ nI k from Int32.le_refl _, reduceIte]
  | succ t ih =>
    intro k j h1 h2 h3
    have e1 : ¬ nI N ≤ nI k := nI_ge (by omega) (by omega)
    have e0 : nI k + -(nI m) = nI (k - m) := by rw [← Int32.sub_eq_add_neg]; exact nI_sb (by omega)
    refine (lp_s ?_ (by omega)).trans (ih (k + 1) (j - 1) (by omega) (by omega) (by omega))
    have e2 : upd (sd f q k m) (k - m) (sd f q k m k) = sd f q (k + 1) m := by
      funext i
      simp only [upd_ap, sd]
      by_cases h : i = k - m
      · rw [if_pos h, if_pos (show q ≤ i + m ∧ i + m < k + 1 by omega)]
        by_cases hm0 : q ≤ k + m ∧ k + m < k
        · omega
        · rw [if_neg hm0]; congr 1; omega
      · rw [if_neg h]
        by_cases h4 : q ≤ i + m ∧ i + m < k
        · rw [if_pos h4, if_pos (by omega)]
        · rw [if_neg h4, if_neg (by omega)]
    simp (disch := omega) only [bM_dn, hg, e1, e0, inb_T, nI_clamp, va_up_self, up_up, e2, gd_T, lt, reduceIte, ad_L]
theorem w1_b {w k : Nat} {p : Int32} {A : aA} (hw : w < 41) (h4 : A 4 w = nI k) : bM_w1 p (nI w) (nI k, A) = some (.inr (.inl A)) := by
  have e1 : inb (nI w) 41 = true := inb_T (by omega) (by omega)
  have e2 : (nI w).toNatClampNeg = w := nI_clamp (by omega)
  obtain ⟨X, hX⟩ : ∃ X : Int32 → Option ((Int32 × aA) ⊕ (aA ⊕ (Int32 × aG × aA))), bM_w1 p (nI w) (nI k, A) = gd (inb (nI w) 41) (lt (A 4 (nI w).toNatClampNeg) (fun x23 => if x23 ≤ nI k then some (.inr (.inl A)) else X x23)) := ⟨fun _ => _, rfl⟩
  rw [hX, e1, gd_T, e2, lt, h4, if_pos (Int32.le_refl _)]
theorem w1_s {w s z p k : Nat} {A : aA} (hw : w < 41) (h4 : A 4 w = nI z) (h3 : A 3 w = nI s) (hs : s + z ≤ 200) (hp : p + z ≤ 60) (hk : k < z) : bM_w1 (nI p) (nI w) (nI k, A) = some (.inl (nI (k + 1), va_up A 15 (upd (A 15) (p + k) (A 8 (s + k))))) := by
  have e1 : inb (nI w) 41 = true := inb_T (by omega) (by omega)
  have e2 : (nI w).toNatClampNeg = w := nI_clamp (by omega)
  have e : ¬ nI z ≤ nI k := nI_ge (by omega) (by omega)
  have e3 : nI s + nI k = nI (s + k) := nI_add s k
  have e4 : nI p + nI k = nI (p + k) := nI_add p k
  have e5 : inb (nI (s + k)) 201 = true := inb_T (by omega) (by omega)
  have e6 : (nI (s + k)).toNatClampNeg = s + k := nI_clamp (by omega)
  have e7 : inb (nI (p + k)) 60 = true := inb_T (by omega) (by omega)
  have e8 : (nI (p + k)).toNatClampNeg = p + k := nI_clamp (by omega)
  simp only [bM_w1, e1, gd_T, e2, lt, h4, e, h3, e3, e5, e6, e4, e7, e8, nI_1, reduceIte]
theorem w1_l {w s z p : Nat} {f : Nat → Int32} {a : aA} (hw : w < 41) (h4 : a 4 w = nI z) (h3 : a 3 w = nI s) (hs : s + z ≤ 200) (hp : p + z ≤ 60) : ∀ m k j, k + m = z → m < j → lp (bM_w1 (nI p) (nI w)) j (nI k, va_up a 15 (wt f (a 8) p s k)) = some (.inl (va_up a 15 (wt f (a 8) p s z))) := by
  intro m
  induction m with
  | zero =>
    intro k j h1 h2
    have e : k = z := by omega
    subst e
    exact lp_e (w1_b hw (by rw [va_up_ne _ _ (by omega)]; exact h4)) h2
  | succ m ih =>
    intro k j h1 h2
    have hs1 := w1_s (A := va_up a 15 (wt f (a 8) p s k)) (p := p) (k := k) hw (by rw [va_up_ne _ _ (by omega)]; exact h4) (by rw [va_up_ne _ _ (by omega)]; exact h3) hs hp (by omega)
    rw [up_up, va_up_self, va_up_ne _ _ (by omega), wt_s] at hs1
    exact (lp_s hs1 (by omega)).trans (ih (k + 1) (j - 1) (by omega) (by omega))
theorem va_15 {a : aA} (f : Nat → Int32) (h : f = a 15) : a = va_up a 15 f := by rw [h]; exact va_upE.symm
theorem sh_0 {f : Nat → Int32} {N m : Nat} : sh f N N m = f := by
  funext i
  unfold sh
  rw [if_neg (by omega)]
theorem sd_0 {f : Nat → Int32} {q m : Nat} : sd f q q m = f := by
  funext i
  unfold sd
  rw [if_neg (by omega)]
theorem repM {w s z p q N : Nat} (hw : w < 41) (h4 : a 4 w = nI z) (h3 : a 3 w = nI s) (hs : s + z ≤ 200) (hg : g 29 = nI N) (hpq : p ≤ q) (hqN : q ≤ N) (hN : N ≤ 60) (hn : 300 < n) : (p + z + (N - q) ≤ 60 → ∃ f, mM_replace n (nI p) (nI q) (nI w) g a = some (1, va_up g 29 (nI (p + z + (N - q))), va_up a 15 f) ∧ ∀ i, i < p + z + (N - q) → f i = wt (va_cpy (a 15) (a 15) q (p + z) (N - q)) (a 8) p s z i) ∧ (¬ p + z + (N - q) ≤ 60 → mM_replace n (nI p) (nI q) (nI w) g a = some (0, g, a)) := by
  have e1 : inb (nI w) 41 = true := inb_T (by omega) (by omega)
  have e2 : (nI w).toNatClampNeg = w := nI_clamp (by omega)
  have e3 : nI q - nI p = nI (q - p) := nI_sb hpq
  have e5 : nI N + (nI z - nI (q - p)) = nI (p + z + (N - q)) := by
    rw [Int32.sub_eq_add_neg, ← Int32.add_assoc, ← Int32.sub_eq_add_neg, nI_add, nI_sb (by omega)]; congr 1; omega
  have e4 : (nI (p + z + (N - q)) ≤ 60) ↔ p + z + (N - q) ≤ 60 := le_L (b := 60) (by omega) (by decide)
  refine ⟨fun hle => ?_, fun hle => ?_⟩
  · by_cases hm : q - p ≤ z
    · have e6 : nI z - nI (q - p) = nI (z - (q - p)) := nI_sb hm
      have e7 : 0 ≤ nI (z - (q - p)) := nI_pos' (by omega)
      have l1 := up_l (q := q) (N := N) (m := z - (q - p)) (f := a 15) (a := a) (by omega) N n hqN (Nat.le_refl N) (by omega)
      rw [sh_0, va_upE] at l1
      have l2 := w1_l (w := w) (s := s) (z := z) (p := p) (f := sh (a 15) q N (z - (q - p))) (a := va_up a 15 (sh (a 15) q N (z - (q - p)))) hw h4 h3 hs (by omega) z 0 n (by omega) (by omega)
      rw [wt_0, up_up, up_up] at l2
      refine ⟨wt (sh (a 15) q N (z - (q - p))) (a 8) p s z, ?_, fun i hi => ?_⟩
      · rw [rep_e, e1, gd_T, e2, lt, h4, e3, lt, hg, e5, if_pos (e4.mpr hle), e6, if_pos e7, lt, l1, jn_l]
        have l2 : lp (bM_w1 (nI p) (nI w)) n (0, va_up a 15 (sh (a 15) q N (z - (q - p)))) = _ := l2
        rw [l2, jn_l]; rfl
      · unfold wt
        by_cases hh : p ≤ i ∧ i < p + z
        · rw [if_pos hh, if_pos hh]
        · rw [if_neg hh, if_neg hh]
          unfold sh va_cpy
          by_cases h5 : p + z ≤ i ∧ i < p + z + (N - q)
          · rw [if_pos h5, if_pos (by omega)]; congr 1; omega
          · rw [if_neg h5, if_neg (by omega)]
    · have e6 : nI z - nI (q - p) = -(nI (q - p - z)) := by
        rw [show q - p = (q - p - z) + z by omega, ← nI_add, show q - p - z + z - z = q - p - z by omega, Int32.sub_eq_add_neg, Int32.neg_add, Int32.add_comm, Int32.sub_add_cancel]
      have e7 : ¬ (0 ≤ -(nI (q - p - z))) := by
        rw [Int32.le_iff_toInt_le, nN_toInt (by omega)]
        have : (0 : Int32).toInt = 0 := by decide
        omega
      have l1 := dn_l (g := g) (q := q) (N := N) (m := q - p - z) (f := a 15) (a := a) hg hN (by omega) (N - q) q n (by omega) (Nat.le_refl q) (by omega)
      rw [sd_0, va_upE] at l1
      have l2 := w1_l (w := w) (s := s) (z := z) (p := p) (f := sd (a 15) q N (q - p - z)) (a := va_up a 15 (sd (a 15) q N (q - p - z))) hw h4 h3 hs (by omega) z 0 n (by omega) (by omega)
      rw [wt_0, up_up, up_up] at l2
      refine ⟨wt (sd (a 15) q N (q - p - z)) (a 8) p s z, ?_, fun i hi => ?_⟩
      · rw [rep_e, e1, gd_T, e2, lt, h4, e3, lt, hg, e5, if_pos (e4.mpr hle), e6, if_neg e7, l1, jn_l, w2_e]
        have l2 : lp (bM_w1 (nI p) (nI w)) n (0, va_up a 15 (sd (a 15) q N (q - p - z))) = _ := l2
        rw [l2, jn_l]; rfl
      · unfold wt
        by_cases hh : p ≤ i ∧ i < p + z
        · rw [if_pos hh, if_pos hh]
        · rw [if_neg hh, if_neg hh]
          unfold sd va_cpy
          by_cases h5 : p + z ≤ i ∧ i < p + z + (N - q)
          · rw [if_pos h5, if_pos (by omega)]; congr 1; omega
          · rw [if_neg h5, if_neg (by omega)]
  · rw [rep_e, e1, gd_T, e2, lt, h4, e3, lt, hg, e5, if_neg (fun z => hle (e4.mp z))]
/-- a part of the draft, or of the row being worked on, replaced -/
def wkR (gT : aG) (aT : aA) (g : aG) (a : aA) : Prop := ∃ N : Nat, N ≤ 60 ∧ gT 1 = nI N ∧ g 29 = nI N ∧ ∀ i, i < N → aT 0 i = a 15 i ∧ chr (aT 0 i)
theorem rep_2 (h : Vw gV aV g a v u) {w s z p q N : Nat} {gT : aG} {aT : aA} (hw : w < v) (hT : isT aV a u w s z) (hpq : p ≤ q) (hqN : q ≤ N) (hN : N ≤ 60) (h1 : gT 1 = nI N) (h29 : g 29 = nI N) (hc : ∀ i, i < N → aT 0 i = a 15 i ∧ chr (aT 0 i)) (hn : 300 < n) : ∃ r gT' aT' f x, mT_replace n (nI p) (nI q) (nI w) gT aT gV aV = some (r, gT', aT') ∧ mM_replace n (nI p) (nI q) (nI w) g a = some (r, va_up g 29 x, va_up a 15 f) ∧ (r = 0 ∨ r = 1) ∧ wkR gT' aT' (va_up g 29 x) (va_up a 15 f) := by
  have hv := h.1
  have hu := h.2.2.1
  obtain ⟨t1, t2, t3, t4, t5, t6, t7⟩ := id hT
  obtain ⟨v1, v2⟩ := repV (n := n) h hw hT hpq hqN hN h1 (fun i _ h2 => (hc i h2).2) hn
  obtain ⟨m1, m2⟩ := repM (n := n) (g := g) (a := a) (p := p) (q := q) (N := N) (show w < 41 by omega) t6 t4 (by omega) h29 hpq hqN hN hn
  by_cases hle : p + z + (N - q) ≤ 60
  · obtain ⟨f, f1, f2⟩ := m1 hle
    refine ⟨1, _, _, f, _, v1 hle, f1, .inr rfl, p + z + (N - q), hle, rfl, rfl, fun i hi => ?_⟩
    have e1 : va_up aT 0 (wt (va_cpy (aT 0) (aT 0) q (p + z) (N - q)) (a 8) p s z) 0 i = wt (va_cpy (aT 0) (aT 0) q (p + z) (N - q)) (a 8) p s z i := rfl
    have e2 : va_up a 15 f 15 i = f i := rfl
    rw [e1, e2, f2 i hi]
    unfold wt
    by_cases hh : p ≤ i ∧ i < p + z
    · rw [if_pos hh, if_pos hh]
      exact ⟨rfl, (h.2.2.2.2.2.2.1.2.2 (s + (i - p)) (by omega)).2⟩
    · rw [if_neg hh, if_neg hh]
      unfold va_cpy
      by_cases h5 : p + z ≤ i ∧ i < p + z + (N - q)
      · rw [if_pos h5, if_pos h5]; exact hc _ (by omega)
      · rw [if_neg h5, if_neg h5]; exact hc i (by omega)
  · refine ⟨0, gT, aT, a 15, nI N, v2 hle, ?_, .inl rfl, N, hN, h1, rfl, fun i hi => hc i hi⟩
    rw [m2 hle, va_upE, ← h29]
    congr 3
    funext j
    simp only [va_ap]
    split
    · rename_i e; rw [e]
    · rfl
end RP
