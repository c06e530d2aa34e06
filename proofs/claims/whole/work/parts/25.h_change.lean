section CH
variable {gV : aG} {aV : aA} {g : aG} {a : aA} {v u n : Nat}
theorem wt_s0 (f P : Nat → Int32) (s k : Nat) : upd (wt f P 0 s k) k (P (s + k)) = wt f P 0 s (k + 1) := by
  have := wt_s f P 0 s k
  rwa [Nat.zero_add] at this
theorem cpyV {gT gU : aG} {aT aU : aA} {N : Nat} (hN : N ≤ 60) (h1 : gU 1 = nI N) (hc : ∀ i, i < N → chr (aU 0 i)) : mT_copyFrom n gT aT gU aU = some (va_up gT 1 (nI N), va_up aT 0 (va_cpy (aU 0) (aT 0) 0 0 N)) := by
  have e0 : (0 : Int32).toNatClampNeg = 0 := by decide
  have e1 : (nI N).toNatClampNeg = N := nI_clamp (by omega)
  have c1 : cpok 0 0 (nI N) 60 60 = true := by
    unfold cpok
    rw [e0, e1]
    exact decide_eq_true ⟨by decide, by decide, nI_pos' (by omega), by omega, by omega⟩
  have c2 : okcs (aU 0) 0 N = true := okcs_T (fun i hi => by rw [Nat.zero_add]; exact hc i hi)
  simp only [mT_copyFrom, h1, c1, e0, e1, c2, gd_T, lt]
theorem cpy0 {f g : Nat → Int32} {N i : Nat} (h : i < N) : va_cpy f g 0 0 N i = f i := by
  unfold va_cpy
  rw [if_pos (by omega)]; congr 1; omega
theorem wt0 {f P : Nat → Int32} {s N i : Nat} (h : i < N) : wt f P 0 s N i = P (s + i) := by
  unfold wt
  rw [if_pos (by omega)]; rfl
def bM_c1 (x6 : Int32) (g26 : aG) : Int32 × aA → Option ((Int32 × aA) ⊕ (aA ⊕ (Int32 × aG × aA))) := (fun q78 => if (g26 29) ≤ q78.1 then (some (.inr (.inl q78.2))) else (gd (inb ((60 * x6) + q78.1) 180) (lt (q78.2 14 ((60 * x6) + q78.1).toNatClampNeg) (fun x84 => gd (inb q78.1 60) (lt (va_up q78.2 15 (upd (q78.2 15) q78.1.toNatClampNeg x84)) (fun a86 => some (.inl ((q78.1 + 1), a86))))))))
def bM_c2 (n : Nat) (v1 x2 : Int32) : Int32 × Int32 × aG × aA → Option ((Int32 × Int32 × aG × aA) ⊕ ((Int32 × aG × aA) ⊕ (Int32 × aG × aA))) := (fun q62 => if x2 ≤ q62.2.1 then (some (.inr (.inl (q62.1, q62.2.2.1, q62.2.2.2)))) else (if q62.1 = 0 then (some (.inr (.inl (q62.1, q62.2.2.1, q62.2.2.2)))) else (bd (mM_item n v1 q62.2.1 q62.2.2.1 q62.2.2.2) (fun x69 => bd (mM_edit n x69 q62.2.2.1 q62.2.2.2) (fun q71 => some (.inl (q71.1, (q62.2.1 + 1), q71.2.1, q71.2.2)))))))
def bM_c3 (x6 : Int32) (q36 : Int32 × aG × aA) : Int32 × aA → Option ((Int32 × aA) ⊕ (Int32 × aG × aA)) := (fun q49 => if (q36.2.1 29) ≤ q49.1 then (some (.inr ((1, q36.2.1, q49.2)))) else (gd (inb q49.1 60) (lt (q49.2 15 q49.1.toNatClampNeg) (fun x55 => gd (inb ((60 * x6) + q49.1) 180) (lt (va_up q49.2 14 (upd (q49.2 14) ((60 * x6) + q49.1).toNatClampNeg x55)) (fun a57 => some (.inl ((q49.1 + 1), a57))))))))
theorem chM_e (n : Nat) (v1 : Int32) (g : aG) (a : aA) : mM_change n v1 g a = bd (mM_items n v1 g a) (fun x2 => jn (α := Int32) (if 2 ≤ x2 then (bd (mM_item n v1 0 g a) (fun x89 => bd (mM_documentOf n x89 g a) (fun x92 => some (.inl x92)))) else (some (.inl (-1)))) (fun x6 => if x6 < 0 then (some ((0, g, a))) else (bd (mM_item n v1 1 g a) (fun x10 => bd (mM_isSort n x10 1 g a) (fun x13 => if x13 = 0 then (some ((0, g, a))) else (bd (mM_item n v1 1 g a) (fun x17 => gd (inb x17 41) (lt (a 2 x17.toNatClampNeg) (fun x20 => gd (inb x6 3) (lt (a 12 x6.toNatClampNeg) (fun x22 => if x22 < x20 then (gd (inb x6 3) (lt (a 13 x6.toNatClampNeg) (fun x25 => lt (va_up g 29 x25) (fun g26 => jn (α := aA) (lp (ε := Int32 × aA) (bM_c1 x6 g26) n (0, a)) (fun a29 => jn (α := Int32 × aG × aA) (lp (ε := Int32 × Int32 × aG × aA) (bM_c2 n v1 x2) n (1, 2, g26, a29)) (fun q36 => if q36.1 = 0 then (some ((0, q36.2.1, q36.2.2))) else (bd (mM_item n v1 1 q36.2.1 q36.2.2) (fun x39 => gd (inb x39 41) (lt (q36.2.2 2 x39.toNatClampNeg) (fun x42 => gd (inb x6 3) (lt (va_up q36.2.2 12 (upd (q36.2.2 12) x6.toNatClampNeg x42)) (fun a44 => gd (inb x6 3) (lt (va_up a44 13 (upd (a44 13) x6.toNatClampNeg (q36.2.1 29))) (fun a46 => lp (ε := Int32 × aA) (bM_c3 x6 q36) n (0, a46))))))))))))))) else (some ((0, g, a)))))))))))))) := rfl
def bV_c2 (n : Nat) (v2 : Int32) (gS : aG) (aS : aA) (gV : aG) (aV : aA) (dP : aP) : Int32 × aG × aA → Option ((Int32 × aG × aA) ⊕ ((aG × aA) ⊕ (Int32 × aG × aA × aP))) := (fun q39 => bd (mV_sizeOf n v2 gV aV) (fun x43 => if x43 ≤ q39.1 then (some (.inr (.inl (q39.2.1, q39.2.2)))) else (bd (mV_item n v2 q39.1 gV aV) (fun x47 => bd (mS_edit n x47 gS aS q39.2.1 q39.2.2 gV aV) (fun q54 => if q54.1 = 0 then (some (.inr (.inr ((0, q54.2.1, q54.2.2, dP))))) else (some (.inl ((q39.1 + 1), q54.2.1, q54.2.2))))))))
theorem chV_e (n : Nat) (v2 : Int32) (gS : aG) (aS : aA) (gZ : aG) (aZ : aA) (gV : aG) (aV : aA) (dP : aP) : mS_change n v2 gS aS gZ aZ gV aV dP = bd (mV_hasShape n 21 v2 gV aV) (fun x1 => jn (α := Int32) (if x1 = 0 then (some (.inl (-1))) else (bd (mV_item n v2 0 gV aV) (fun x57 => bd (mS_find n x57 gS aS gV aV dP) (fun x60 => some (.inl x60))))) (fun x6 => if x6 = (-1) then (some ((0, gZ, aZ, dP))) else (bd (mV_numberAt n v2 1 gV aV) (fun x9 => gd (inb x6 3) (if ((dP x6.toNatClampNeg).2.1 3) < x9 then (gd (inb x6 3) (bd (mT_copyFrom n gZ aZ ((dP x6.toNatClampNeg).2.2.2.1) ((dP x6.toNatClampNeg).2.2.2.2)) (fun q18 => jn (α := aG × aA) (lp (ε := Int32 × aG × aA) (bV_c2 n v2 gS aS gV aV dP) n (2, q18.1, q18.2)) (fun q23 => gd (inb x6 3) (bd (mT_copyFrom n ((dP x6.toNatClampNeg).2.2.2.1) ((dP x6.toNatClampNeg).2.2.2.2) q23.1 q23.2) (fun q28 => lt (va_up dP x6.toNatClampNeg ((dP x6.toNatClampNeg).1, (dP x6.toNatClampNeg).2.1, (dP x6.toNatClampNeg).2.2.1, q28.1, q28.2)) (fun d29 => gd (inb x6 3) (bd (mV_numberAt n v2 1 gV aV) (fun x31 => lt (va_up (d29 x6.toNatClampNeg).2.1 3 x31) (fun g34 => lt (va_up d29 x6.toNatClampNeg ((d29 x6.toNatClampNeg).1, g34, (d29 x6.toNatClampNeg).2.2.1, (d29 x6.toNatClampNeg).2.2.2.1, (d29 x6.toNatClampNeg).2.2.2.2)) (fun d35 => some ((1, q23.1, q23.2, d35))))))))))))) else (some ((0, gZ, aZ, dP)))))))) := rfl
theorem c1_l {d N : Nat} {g26 : aG} {f : Nat → Int32} {a : aA} (hd : d < 3) (hN : N ≤ 60) (h29 : g26 29 = nI N) : ∀ m k j, k + m = N → m < j → lp (bM_c1 (nI d) g26) j (nI k, va_up a 15 (wt f (a 14) 0 (60 * d) k)) = some (.inl (va_up a 15 (wt f (a 14) 0 (60 * d) N))) := by
  intro m
  induction m with
  | zero =>
    intro k j h1 h2
    have e : k = N := by omega
    subst e
    have e1 : nI k ≤ nI k := Int32.le_refl _
    refine lp_e ?_ h2
    simp only [bM_c1, h29, e1, reduceIte]
  | succ m ih =>
    intro k j h1 h2
    have e : ¬ nI N ≤ nI k := nI_ge (by omega) (by omega)
    have q14 : (va_up a 15 (wt f (a 14) 0 (60 * d) k)) 14 (60 * d + k) = a 14 (60 * d + k) := by rw [va_up_ne _ _ (by omega)]
    have e3 : 60 * nI d + nI k = nI (60 * d + k) := by rw [mu_L, nI_add]
    have e5 : inb (nI (60 * d + k)) 180 = true := inb_T (by omega) (by omega)
    have e6 : (nI (60 * d + k)).toNatClampNeg = 60 * d + k := nI_clamp (by omega)
    have e7 : inb (nI k) 60 = true := inb_T (by omega) (by omega)
    have e8 : (nI k).toNatClampNeg = k := nI_clamp (by omega)
    refine (lp_s ?_ (by omega)).trans (ih (k + 1) (j - 1) (by omega) (by omega))
    simp only [bM_c1, h29, e, e3, e5, e6, e7, e8, q14, gd_T, lt, reduceIte, va_up_self, up_up, wt_s0, ad_L]
theorem c3_l {d N : Nat} {q36 : Int32 × aG × aA} {f : Nat → Int32} {a : aA} (hd : d < 3) (hN : N ≤ 60) (h29 : q36.2.1 29 = nI N) : ∀ m k j, k + m = N → m < j → lp (bM_c3 (nI d) q36) j (nI k, va_up a 14 (wt f (a 15) (60 * d) 0 k)) = some (1, q36.2.1, va_up a 14 (wt f (a 15) (60 * d) 0 N)) := by
  intro m
  induction m with
  | zero =>
    intro k j h1 h2
    have e : k = N := by omega
    subst e
    have e1 : nI k ≤ nI k := Int32.le_refl _
    refine lp_e ?_ h2
    simp only [bM_c3, h29, e1, reduceIte]
  | succ m ih =>
    intro k j h1 h2
    have e : ¬ nI N ≤ nI k := nI_ge (by omega) (by omega)
    have q15 : (va_up a 14 (wt f (a 15) (60 * d) 0 k)) 15 k = a 15 (0 + k) := by rw [va_up_ne _ _ (by omega), Nat.zero_add]
    have e3 : 60 * nI d + nI k = nI (60 * d + k) := by rw [mu_L, nI_add]
    have e5 : inb (nI (60 * d + k)) 180 = true := inb_T (by omega) (by omega)
    have e6 : (nI (60 * d + k)).toNatClampNeg = 60 * d + k := nI_clamp (by omega)
    have e7 : inb (nI k) 60 = true := inb_T (by omega) (by omega)
    have e8 : (nI k).toNatClampNeg = k := nI_clamp (by omega)
    refine (lp_s ?_ (by omega)).trans (ih (k + 1) (j - 1) (by omega) (by omega))
    simp only [bM_c3, h29, e, e3, e5, e6, e7, e8, q15, gd_T, lt, reduceIte, va_up_self, up_up, wt_s, ad_L]
/-- all the edits of a notification -/
theorem c2_l {L K : Nat} {w : Nat → Nat} {gS : aG} {aS : aA} {dP : aP} (hn : 300 < n) (hL : L < v) (hz : mV_sizeOf n (nI L) gV aV = some (nI K)) : ∀ m i j gZ aZ g a, i + m = K → m + 1 < j → Vw gV aV g a v u → Arr n gV aV g a v L K w → wkR gZ aZ g a → (∃ gZ' aZ' f y, lp (bV_c2 n (nI L) gS aS gV aV dP) j (nI i, gZ, aZ) = some (.inl (gZ', aZ')) ∧ lp (bM_c2 n (nI L) (nI K)) j (1, nI i, g, a) = some (.inl (1, va_up g 29 y, va_up a 15 f)) ∧ wkR gZ' aZ' (va_up g 29 y) (va_up a 15 f)) ∨ (∃ gZ' aZ' f y, lp (bV_c2 n (nI L) gS aS gV aV dP) j (nI i, gZ, aZ) = some (.inr (0, gZ', aZ', dP)) ∧ lp (bM_c2 n (nI L) (nI K)) j (1, nI i, g, a) = some (.inl (0, va_up g 29 y, va_up a 15 f))) := by
  intro m
  induction m with
  | zero =>
    intro i j gZ aZ g a h1 h2 hV hA hk
    have e : i = K := by omega
    subst e
    have e1 : nI i ≤ nI i := Int32.le_refl _
    refine .inl ⟨gZ, aZ, a 15, g 29, lp_e ?_ (by omega), ?_, ?_⟩
    · simp only [bV_c2, hz, bd_s, e1, reduceIte]
    · rw [upI, va_upE]
      refine lp_e ?_ (by omega)
      simp only [bM_c2, e1, reduceIte]
    · rw [upI, va_upE]; exact hk
  | succ m ih =>
    intro i j gZ aZ g a h1 h2 hV hA hk
    have hK39 := hA.1
    have e : ¬ nI K ≤ nI i := nI_ge (by omega) (by omega)
    obtain ⟨b1, b2, b3, b4⟩ := hA.2.2.2.1 i (by omega)
    obtain ⟨r, gZ', aZ', f, y, q1, q2, q3, q4⟩ := edit_2 (n := n) (gS := gS) (aS := aS) hV b2 hk hn
    have stM : bM_c2 n (nI L) (nI K) (1, nI i, g, a) = some (.inl (r, nI (i + 1), va_up g 29 y, va_up a 15 f)) := by
      simp only [bM_c2, e, one_ne_zero, b4, bd_s, q2, reduceIte, ad_L]
    rcases q3 with rfl | rfl
    · refine .inr ⟨gZ', aZ', f, y, lp_e ?_ (by omega), ?_⟩
      · simp only [bV_c2, hz, bd_s, e, b3, q1, reduceIte]
      · rw [lp_s stM (by omega)]
        refine lp_e ?_ (by omega)
        simp only [bM_c2, reduceIte, ite_self]
    · have stV : bV_c2 n (nI L) gS aS gV aV dP (nI i, gZ, aZ) = some (.inl (nI (i + 1), gZ', aZ')) := by
        simp only [bV_c2, hz, bd_s, e, b3, q1, one_ne_zero, reduceIte, ad_L]
      have hV' : Vw gV aV (va_up g 29 y) (va_up a 15 f) v u := hV.mv (va_up_ne _ _ (by omega)) (fun j h3 h4 => va_up_ne _ _ (by omega))
      have hA' : Arr n gV aV (va_up g 29 y) (va_up a 15 f) v L K w := hA.mv (va_up_ne _ _ (by omega)) (va_up_ne _ _ (by omega))
      rcases ih (i + 1) (j - 1) gZ' aZ' (va_up g 29 y) (va_up a 15 f) (by omega) (by omega) hV' hA' q4 with ⟨gZ2, aZ2, f2, y2, c1, c2, c3⟩ | ⟨gZ2, aZ2, f2, y2, c1, c2⟩
      · rw [up_up, up_up] at c2 c3
        exact .inl ⟨gZ2, aZ2, f2, y2, (lp_s stV (by omega)).trans c1, (lp_s stM (by omega)).trans c2, c3⟩
      · rw [up_up, up_up] at c2
        exact .inr ⟨gZ2, aZ2, f2, y2, (lp_s stV (by omega)).trans c1, (lp_s stM (by omega)).trans c2⟩
theorem docR.mv {r : aDS} {a a' : aA} {d : Nat} (h : docR r a d) (e10 : a' 10 d = a 10 d) (e11 : ∀ i, i < 4 → a' 11 (4 * d + i) = a 11 (4 * d + i)) (e12 : a' 12 d = a 12 d) (e13 : a' 13 d = a 13 d) (e14 : ∀ i, i < 60 → a' 14 (60 * d + i) = a 14 (60 * d + i)) : docR r a' d := by
  obtain ⟨⟨T, t1, t2, t3, t4, t5⟩, h2, h3⟩ := h
  exact ⟨⟨T, t1, t2, t3, e10.trans t4, fun i hi => by rw [e11 i (by omega)]; exact t5 i hi⟩, h2.trans e12.symm, h3.mv e13 e14⟩
theorem nI_lt0 {d : Nat} (h : d < 100) : ¬ nI d < 0 ∧ ¬ nI d = -1 := ⟨nI_pos (by omega), (nI_ne (by omega)).1⟩
theorem chg_2 (h : Vw gV aV g a v u) {L K : Nat} {w : Nat → Nat} {gS gZ : aG} {aS aZ : aA} {dP : aP} (hL : L < v) (hA : Arr n gV aV g a v L K w) (hD : IvD gS dP g a) (hn : 300 < n) : ∃ r gZ' aZ' dP' g' a', mS_change n (nI L) gS aS gZ aZ gV aV dP = some (r, gZ', aZ', dP') ∧ mM_change n (nI L) g a = some (r, g', a') ∧ (r = 0 ∨ r = 1) ∧ IvD gS dP' g' a' ∧ (∀ j, j ≠ 29 → g' j = g j) ∧ (∀ j, j < 12 ∨ 15 < j → a' j = a j) := by
  obtain ⟨nd, d1, d2, d3, d4, d5⟩ := id hD
  have hv := h.1
  obtain ⟨p1, p2⟩ := hsp21 (n := n) h hL hA hn
  have hz := (num_w (n := n) h hL).2
  rw [hA.2.1] at hz
  have hK39 := hA.1
  have b0 : sbyt 21 0 = 115 := by decide +kernel
  have b1 : ¬ sbyt 21 1 = 115 := by decide +kernel
  have same : ∀ (gZ' : aG) (aZ' : aA), mS_change n (nI L) gS aS gZ aZ gV aV dP = some (0, gZ', aZ', dP) → mM_change n (nI L) g a = some (0, g, a) → ∃ r gZ' aZ' dP' g' a', mS_change n (nI L) gS aS gZ aZ gV aV dP = some (r, gZ', aZ', dP') ∧ mM_change n (nI L) g a = some (r, g', a') ∧ (r = 0 ∨ r = 1) ∧ IvD gS dP' g' a' ∧ (∀ j, j ≠ 29 → g' j = g j) ∧ (∀ j, j < 12 ∨ 15 < j → a' j = a j) := fun gZ' aZ' q1 q2 => ⟨0, gZ', aZ', dP, g, a, q1, q2, .inl rfl, hD, fun _ _ => rfl, fun _ _ => rfl⟩
  by_cases h2 : 2 ≤ K
  · have c2 : (2 : Int32) ≤ nI K := nI_le (a := 2) h2 (by omega)
    obtain ⟨i0a, i0b, i0c, i0d⟩ := hA.2.2.2.1 0 (by omega)
    obtain ⟨i1a, i1b, i1c, i1d⟩ := hA.2.2.2.1 1 (by omega)
    have i0c : mV_item n (nI L) 0 gV aV = some (nI (w 0)) := i0c
    have i0d : mM_item n (nI L) 0 g a = some (nI (w 0)) := i0d
    have i1c : mV_item n (nI L) 1 gV aV = some (nI (w 1)) := i1c
    have i1d : mM_item n (nI L) 1 g a = some (nI (w 1)) := i1d
    have m1 : (-1 : Int32) < 0 := by decide
    by_cases hs0 : aV 0 (w 0) = 2
    · obtain ⟨s, z, hT⟩ := h.str i0b hs0
      obtain ⟨y, y1, y2, y3⟩ := fnd_2x (n := n) (aS := aS) h i0b hT hn d1 d2 d3 d5
      obtain ⟨k1, k2, -⟩ := knd (n := n) h i1b
      by_cases hn1 : aV 0 (w 1) = 1
      · have hsh := p1 ⟨h2, by unfold KM; rw [if_pos b0]; exact hs0, by unfold KM; rw [if_neg b1]; exact hn1⟩
        obtain ⟨k1a, k1b, k1c⟩ := k1 hn1
        have nb : mV_numberAt n (nI L) 1 gV aV = some (a 2 (w 1)) := by rw [mV_numberAt, i1c, bd_s, k1b, bd_s]
        rcases y3 with rfl | ⟨d, hd, rfl⟩
        · refine same gZ aZ ?_ ?_
          · simp only [chV_e, hsh, bd_s, one_ne_zero, reduceIte, i0c, y1, jn_l]
          · simp only [chM_e, hA.2.2.1, bd_s, c2, reduceIte, i0d, y2, jn_l, m1]
        · obtain ⟨z1, z2⟩ := nI_lt0 (d := d) (by omega)
          have e3 : inb (nI d) 3 = true := inb_T (by omega) (by omega)
          have e4 : (nI d).toNatClampNeg = d := nI_clamp (by omega)
          have e5 : inb (nI (w 1)) 41 = true := inb_T (by omega) (by omega)
          have e6 : (nI (w 1)).toNatClampNeg = w 1 := nI_clamp (by omega)
          obtain ⟨hTi, hver, ⟨N, n1, n2, n3, n4⟩⟩ := d5 d hd
          by_cases hlt : a 12 d < a 2 (w 1)
          · have cV := cpyV (n := n) (gT := gZ) (aT := aZ) n1 n2 (fun i hi => (n4 i hi).2)
            have l1 := c1_l (d := d) (N := N) (g26 := va_up g 29 (nI N)) (f := a 15) (a := a) (by omega) n1 rfl N 0 n (by omega) (by omega)
            rw [wt_0, va_upE] at l1
            have l1 : lp (bM_c1 (nI d) (va_up g 29 (nI N))) n (0, a) = some (.inl (va_up a 15 (wt (a 15) (a 14) 0 (60 * d) N))) := l1
            have hV1 : Vw gV aV (va_up g 29 (nI N)) (va_up a 15 (wt (a 15) (a 14) 0 (60 * d) N)) v u := h.mv (va_up_ne _ _ (by omega)) (fun j h3 h4 => va_up_ne _ _ (by omega))
            have hA1 : Arr n gV aV (va_up g 29 (nI N)) (va_up a 15 (wt (a 15) (a 14) 0 (60 * d) N)) v L K w := hA.mv (va_up_ne _ _ (by omega)) (va_up_ne _ _ (by omega))
            have hk1 : wkR (va_up gZ 1 (nI N)) (va_up aZ 0 (va_cpy ((dP d).2.2.2.2 0) (aZ 0) 0 0 N)) (va_up g 29 (nI N)) (va_up a 15 (wt (a 15) (a 14) 0 (60 * d) N)) := by
              refine ⟨N, n1, rfl, rfl, fun i hi => ?_⟩
              rw [va_up_self, va_up_self, cpy0 hi, wt0 hi]
              exact n4 i hi
            rcases c2_l (n := n) (u := u) (gS := gS) (aS := aS) (dP := dP) hn hL hz (K - 2) 2 n _ _ _ _ (by omega) (by omega) hV1 hA1 hk1 with ⟨gZ', aZ', f, yy, q1, q2, N', m1, m2, m3, m4⟩ | ⟨gZ', aZ', f, yy, q1, q2⟩
            · rw [up_up, up_up] at q2
              rw [up_up] at m3
              rw [up_up] at m4
              have q1 : lp (bV_c2 n (nI L) gS aS gV aV dP) n (2, _, _) = _ := q1
              have q2 : lp (bM_c2 n (nI L) (nI K)) n (1, 2, _, _) = _ := q2
              have cV2 := cpyV (n := n) (gT := (dP d).2.2.2.1) (aT := (dP d).2.2.2.2) m1 m2 (fun i hi => (m4 i hi).2)
              have i1e : mM_item n (nI L) 1 (va_up g 29 yy) (va_up a 15 f) = some (nI (w 1)) := by rw [item_c (g := g) (a := a) (va_up_ne _ _ (by omega)) (va_up_ne _ _ (by omega))]; exact i1d
              have m3 : yy = nI N' := m3
              have l3 := c3_l (d := d) (N := N') (q36 := (1, va_up g 29 yy, va_up a 15 f)) (f := a 14) (a := va_up (va_up (va_up a 15 f) 12 (upd (a 12) d (a 2 (w 1)))) 13 (upd (a 13) d yy)) (by omega) m1 m3 N' 0 n (by omega) (by omega)
              have va14 : va_up (va_up (va_up (va_up a 15 f) 12 (upd (a 12) d (a 2 (w 1)))) 13 (upd (a 13) d yy)) 14 (a 14) = va_up (va_up (va_up a 15 f) 12 (upd (a 12) d (a 2 (w 1)))) 13 (upd (a 13) d yy) := by
                have := va_upE (f := va_up (va_up (va_up a 15 f) 12 (upd (a 12) d (a 2 (w 1)))) 13 (upd (a 13) d yy)) (k := 14)
                exact this
              rw [wt_0, va14] at l3
              have l3 : lp (bM_c3 (nI d) (1, va_up g 29 yy, va_up a 15 f)) n (0, va_up (va_up (va_up a 15 f) 12 (upd (a 12) d (a 2 (w 1)))) 13 (upd (a 13) d yy)) = _ := l3
              obtain ⟨aR, haR⟩ : ∃ aR, aR = va_up (va_up (va_up (va_up a 15 f) 12 (upd (a 12) d (a 2 (w 1)))) 13 (upd (a 13) d yy)) 14 (wt (a 14) f (60 * d) 0 N') := ⟨_, rfl⟩
              obtain ⟨dR, hdR⟩ : ∃ dR : aDS, dR = ((dP d).1, va_up (dP d).2.1 3 (a 2 (w 1)), (dP d).2.2.1, va_up (dP d).2.2.2.1 1 (nI N'), va_up (dP d).2.2.2.2 0 (va_cpy (aZ' 0) ((dP d).2.2.2.2 0) 0 0 N')) := ⟨_, rfl⟩
              refine ⟨1, gZ', aZ', va_up dP d dR, va_up g 29 yy, aR, ?_, ?_, .inr rfl, ⟨nd, d1, d2, (va_up_ne _ _ (by omega)).trans d3, fun i hi => ?_, fun i hi => ?_⟩, fun j hj => va_up_ne _ _ hj, fun j hj => ?_⟩
              · rw [hver.symm] at hlt
                rw [chV_e]
                simp only [hsh, bd_s, one_ne_zero, reduceIte, i0c, y1, jn_l, z2, nb, e3, e4, gd_T, hlt, cV, q1, cV2, lt, va_up_self, up_up, hdR]
              · rw [chM_e]
                simp only [hA.2.2.1, bd_s, c2, reduceIte, i0d, y2, jn_l, z1, i1d, k1a, one_ne_zero, e5, e6, gd_T, lt, e3, e4, hlt, n3, l1, q2, i1e]
                have w2 : (va_up a 15 f) 2 (w 1) = a 2 (w 1) := by rw [va_up_ne _ _ (by omega)]
                have w12 : (va_up a 15 f) 12 = a 12 := va_up_ne _ _ (by omega)
                have w13 : (va_up (va_up a 15 f) 12 (upd (a 12) d (a 2 (w 1)))) 13 = a 13 := by rw [va_up_ne _ _ (by omega), va_up_ne _ _ (by omega)]
                have w29 : (va_up g 29 yy) 29 = yy := va_up_self _ _ _
                rw [w2, w12, w13, w29, l3, haR]
                have w15 : (va_up (va_up (va_up a 15 f) 12 (upd (a 12) d (a 2 (w 1)))) 13 (upd (a 13) d yy)) 15 = f := by rw [va_up_ne _ _ (by omega), va_up_ne _ _ (by omega), va_up_self]
                rw [w15]
              · by_cases hid : i = d
                · rw [hid, va_up_self, hdR]; exact ⟨N', m1, rfl⟩
                · rw [va_up_ne _ _ hid]; exact d4 i hi
              · by_cases hid : i = d
                · subst hid
                  rw [va_up_self, hdR]
                  obtain ⟨T, t1, t2, t3, t4, t5⟩ := hTi
                  refine ⟨⟨T, t1, t2, ?_, ?_, fun j hj => ?_⟩, ?_, ⟨N', m1, rfl, ?_, fun j hj => ?_⟩⟩
                  · show va_up (dP i).2.1 3 (a 2 (w 1)) 2 = nI T
                    rw [va_up_ne _ _ (by omega)]; exact t3
                  · rw [haR, va_up_ne _ _ (by omega), va_up_ne _ _ (by omega), va_up_ne _ _ (by omega), va_up_ne _ _ (by omega)]; exact t4
                  · rw [haR, va_up_ne _ _ (by omega), va_up_ne _ _ (by omega), va_up_ne _ _ (by omega), va_up_ne _ _ (by omega)]; exact t5 j hj
                  · show va_up (dP i).2.1 3 (a 2 (w 1)) 3 = aR 12 i
                    rw [va_up_self, haR, va_up_ne _ _ (by omega), va_up_ne _ _ (by omega), va_up_self, upd_eq]
                  · rw [haR, va_up_ne _ _ (by omega), va_up_self, upd_eq]; exact m3
                  · show va_up (dP i).2.2.2.2 0 (va_cpy (aZ' 0) ((dP i).2.2.2.2 0) 0 0 N') 0 j = aR 14 (60 * i + j) ∧ chr (va_up (dP i).2.2.2.2 0 (va_cpy (aZ' 0) ((dP i).2.2.2.2 0) 0 0 N') 0 j)
                    rw [va_up_self, cpy0 hj, haR, va_up_self]
                    unfold wt
                    rw [if_pos (by omega), show 0 + (60 * i + j - 60 * i) = j by omega]
                    exact m4 j hj
                · rw [va_up_ne _ _ hid]
                  refine (d5 i hi).mv ?_ (fun j hj => ?_) ?_ ?_ (fun j hj => ?_)
                  · rw [haR, va_up_ne _ _ (by omega), va_up_ne _ _ (by omega), va_up_ne _ _ (by omega), va_up_ne _ _ (by omega)]
                  · rw [haR, va_up_ne _ _ (by omega), va_up_ne _ _ (by omega), va_up_ne _ _ (by omega), va_up_ne _ _ (by omega)]
                  · rw [haR, va_up_ne _ _ (by omega), va_up_ne _ _ (by omega), va_up_self, upd_ne hid]
                  · rw [haR, va_up_ne _ _ (by omega), va_up_self, upd_ne hid]
                  · rw [haR, va_up_self]
                    unfold wt
                    rw [if_neg (by omega)]
              · rw [haR, va_up_ne _ _ (by omega), va_up_ne _ _ (by omega), va_up_ne _ _ (by omega), va_up_ne _ _ (by omega)]
            · rw [up_up, up_up] at q2
              have q1 : lp (bV_c2 n (nI L) gS aS gV aV dP) n (2, _, _) = _ := q1
              have q2 : lp (bM_c2 n (nI L) (nI K)) n (1, 2, _, _) = _ := q2
              refine ⟨0, gZ', aZ', dP, va_up g 29 yy, va_up a 15 f, ?_, ?_, .inl rfl, ⟨nd, d1, d2, (va_up_ne _ _ (by omega)).trans d3, d4, fun i hi => (d5 i hi).mv ?_ (fun j hj => ?_) ?_ ?_ (fun j hj => ?_)⟩, fun j hj => va_up_ne _ _ hj, fun j hj => va_up_ne _ _ (by omega)⟩
              · rw [hver.symm] at hlt
                rw [chV_e]
                simp only [hsh, bd_s, one_ne_zero, reduceIte, i0c, y1, jn_l, jn_r, z2, nb, e3, e4, gd_T, hlt, cV, q1]
              · rw [chM_e]
                simp only [hA.2.2.1, bd_s, c2, reduceIte, i0d, y2, jn_l, z1, i1d, k1a, one_ne_zero, e5, e6, gd_T, lt, e3, e4, hlt, n3, l1, q2]
              all_goals rw [va_up_ne _ _ (by omega)]
          · refine same gZ aZ ?_ ?_
            · have hlt' : ¬ (dP d).2.1 3 < a 2 (w 1) := by rw [hver]; exact hlt
              simp only [chV_e, hsh, bd_s, one_ne_zero, reduceIte, i0c, y1, jn_l, z2, nb, e3, e4, gd_T, hlt']
            · simp only [chM_e, hA.2.2.1, bd_s, c2, reduceIte, i0d, y2, jn_l, z1, i1d, k1a, one_ne_zero, e5, e6, gd_T, lt, e3, e4, hlt]
      · have hsh := p2 (fun q => hn1 (by have := q.2.2; unfold KM at this; rwa [if_neg b1] at this))
        refine same gZ aZ ?_ ?_
        · simp only [chV_e, hsh, bd_s, reduceIte, jn_l]
        · rcases y3 with rfl | ⟨d, hd, rfl⟩
          · simp only [chM_e, hA.2.2.1, bd_s, c2, reduceIte, i0d, y2, jn_l, m1]
          · obtain ⟨z1, z2⟩ := nI_lt0 (d := d) (by omega)
            simp only [chM_e, hA.2.2.1, bd_s, c2, reduceIte, i0d, y2, jn_l, z1, i1d, k2 hn1]
    · have hsh := p2 (fun q => hs0 (by have := q.2.1; unfold KM at this; rwa [if_pos b0] at this))
      refine same gZ aZ ?_ ?_
      · simp only [chV_e, hsh, bd_s, reduceIte, jn_l]
      · simp only [chM_e, hA.2.2.1, bd_s, c2, reduceIte, i0d, dc_n (n := n) h i0b hs0, jn_l, m1]
  · have hsh := p2 (fun q => h2 q.1)
    have c2 : ¬ (2 : Int32) ≤ nI K := nI_ge (b := 2) (by omega) (by omega)
    have m1 : (-1 : Int32) < 0 := by decide
    refine same gZ aZ ?_ ?_
    · simp only [chV_e, hsh, bd_s, reduceIte, jn_l]
    · simp only [chM_e, hA.2.2.1, bd_s, c2, reduceIte, jn_l, m1]
end CH
