section VZ
variable {gV : aG} {aV : aA} {g : aG} {a : aA} {v u n : Nat}
def bM_n1 (v1 x5 : Int32) (a : aA) : Int32 × Int32 → Option ((Int32 × Int32) ⊕ (Int32 ⊕ (Int32 ⊕ Int32))) := (fun q45 => gd (inb x5 3) (lt (a 10 x5.toNatClampNeg) (fun x50 => if x50 ≤ q45.2 then (some (.inr (.inl q45.1))) else (if q45.1 = 0 then (some (.inr (.inl q45.1))) else (gd (inb ((4 * x5) + q45.2) 12) (lt (a 11 ((4 * x5) + q45.2).toNatClampNeg) (fun x54 => gd (inb v1 41) (lt (a 3 v1.toNatClampNeg) (fun x56 => gd (inb (x56 + q45.2) 201) (lt (a 8 (x56 + q45.2).toNatClampNeg) (fun x58 => if x54 = x58 then (some (.inl (1, (q45.2 + 1)))) else (some (.inl (0, (q45.2 + 1)))))))))))))))
def bM_n0 (v1 x5 : Int32) (a : aA) : Int32 × Int32 → Option ((Int32 × Int32) ⊕ (Int32 ⊕ (Int32 ⊕ Int32))) := (fun q23 => gd (inb x5 3) (lt (a 10 x5.toNatClampNeg) (fun x28 => if x28 ≤ q23.2 then (some (.inr (.inl q23.1))) else (if q23.1 = 0 then (some (.inr (.inl q23.1))) else (gd (inb ((4 * x5) + q23.2) 12) (lt (a 11 ((4 * x5) + q23.2).toNatClampNeg) (fun x32 => gd (inb v1 41) (lt (a 3 v1.toNatClampNeg) (fun x34 => gd (inb (x34 + q23.2) 201) (lt (a 8 (x34 + q23.2).toNatClampNeg) (fun x36 => if x32 = x36 then (some (.inl (1, (q23.2 + 1)))) else (some (.inl (0, (q23.2 + 1)))))))))))))))
theorem n1_l {w s d T : Nat} (hw : w < 41) (hd : d < 3) (hT : a 10 d = nI T) (hT4 : T ≤ 4) (h3 : a 3 w = nI s) (hs : s + T ≤ 200) : ∀ m y k, y + m = T → m + 1 < k → ((∀ j, y ≤ j → j < T → a 11 (4 * d + j) = a 8 (s + j)) → lp (bM_n1 (nI w) (nI d) a) k (1, nI y) = some (.inl 1)) ∧ ((¬ ∀ j, y ≤ j → j < T → a 11 (4 * d + j) = a 8 (s + j)) → lp (bM_n1 (nI w) (nI d) a) k (1, nI y) = some (.inl 0)) := by
  intro m
  induction m with
  | zero =>
    intro y k h1 h2
    refine ⟨fun _ => lp_e ?_ (by omega), fun q => absurd (fun j h3 h4 => by omega) q⟩
    have e : nI T ≤ nI y := nI_le (by omega) (by omega)
    simp (disch := omega) only [bM_n1, hT, e, inb_T, nI_clamp, lt, bd_s, jn_l, jn_r, gd_T, va_ap, upd_ap, reduceIte, Nat.reduceEqDiff, Nat.reduceAdd, Nat.reduceSub, Nat.reduceMul, Nat.reduceLT, Nat.reduceLeDiff, reduceCtorEq, Int32.reduceLT, Int32.reduceLE, one_ne_zero, zero_ne_one, not_true_eq_false, not_false_eq_true, true_and, and_true, if_true, if_false, ite_self, Nat.add_zero, Nat.zero_add]
  | succ m ih =>
    intro y k h1 h2
    have e : ¬ nI T ≤ nI y := nI_ge (by omega) (by omega)
    have hst : bM_n1 (nI w) (nI d) a (1, nI y) = if a 11 (4 * d + y) = a 8 (s + y) then some (.inl (1, nI (y + 1))) else some (.inl (0, nI (y + 1))) := by
      simp (disch := omega) only [bM_n1, hT, e, h3, inb_T, nI_clamp, mu_L, nI_add, ad_L, lt, bd_s, jn_l, jn_r, gd_T, va_ap, upd_ap, reduceIte, Nat.reduceEqDiff, Nat.reduceAdd, Nat.reduceSub, Nat.reduceMul, Nat.reduceLT, Nat.reduceLeDiff, reduceCtorEq, Int32.reduceLT, Int32.reduceLE, one_ne_zero, zero_ne_one, not_true_eq_false, not_false_eq_true, true_and, and_true, if_true, if_false, ite_self, Nat.add_zero, Nat.zero_add]
    obtain ⟨i1, i2⟩ := ih (y + 1) (k - 1) (by omega) (by omega)
    by_cases hq : a 11 (4 * d + y) = a 8 (s + y)
    · rw [if_pos hq] at hst
      rw [lp_s hst (by omega)]
      refine ⟨fun q => i1 (fun j h3 h4 => q j (by omega) h4), fun q => i2 (fun h3 => q (fun j h4 h5 => ?_))⟩
      by_cases h6 : j = y
      · rw [h6]; exact hq
      · exact h3 j (by omega) h5
    · rw [if_neg hq] at hst
      rw [lp_s hst (by omega)]
      refine ⟨fun q => absurd (q y (Nat.le_refl _) (by omega)) hq, fun _ => lp_e ?_ (by omega)⟩
      by_cases e9 : nI T ≤ nI (y + 1)
      · simp (disch := omega) only [bM_n1, hT, e9, inb_T, nI_clamp, lt, bd_s, jn_l, jn_r, gd_T, va_ap, upd_ap, reduceIte, Nat.reduceEqDiff, Nat.reduceAdd, Nat.reduceSub, Nat.reduceMul, Nat.reduceLT, Nat.reduceLeDiff, reduceCtorEq, Int32.reduceLT, Int32.reduceLE, one_ne_zero, zero_ne_one, not_true_eq_false, not_false_eq_true, true_and, and_true, if_true, if_false, ite_self, Nat.add_zero, Nat.zero_add]
      · simp (disch := omega) only [bM_n1, hT, e9, inb_T, nI_clamp, lt, bd_s, jn_l, jn_r, gd_T, va_ap, upd_ap, reduceIte, Nat.reduceEqDiff, Nat.reduceAdd, Nat.reduceSub, Nat.reduceMul, Nat.reduceLT, Nat.reduceLeDiff, reduceCtorEq, Int32.reduceLT, Int32.reduceLE, one_ne_zero, zero_ne_one, not_true_eq_false, not_false_eq_true, true_and, and_true, if_true, if_false, ite_self, Nat.add_zero, Nat.zero_add]
theorem n0_l {w d T k : Nat} (hd : d < 3) (hT : a 10 d = nI T) (hT1 : 1 ≤ T) (hT4 : T ≤ 4) (hk : 0 < k) : lp (bM_n0 (nI w) (nI d) a) k (0, 0) = some (.inl 0) := by
  refine lp_e ?_ hk
  have e : ¬ nI T ≤ 0 := nI_nle (by omega) (by omega)
  simp (disch := omega) only [bM_n0, hT, e, inb_T, nI_clamp, lt, bd_s, jn_l, jn_r, gd_T, va_ap, upd_ap, reduceIte, Nat.reduceEqDiff, Nat.reduceAdd, Nat.reduceSub, Nat.reduceMul, Nat.reduceLT, Nat.reduceLeDiff, reduceCtorEq, Int32.reduceLT, Int32.reduceLE, one_ne_zero, zero_ne_one, not_true_eq_false, not_false_eq_true, true_and, and_true, if_true, if_false, ite_self, Nat.add_zero, Nat.zero_add]
def bM_dc (n : Nat) (v1 : Int32) (g : aG) (a : aA) : Int32 → Option (Int32 ⊕ Int32) := (fun x5 => if (g 22) ≤ x5 then (some (.inr ((-1)))) else (gd (inb x5 3) (lt (a 10 x5.toNatClampNeg) (fun x12 => gd (inb v1 41) (lt (a 4 v1.toNatClampNeg) (fun x14 => if x12 = x14 then (jn (α := Int32) (lp (ε := Int32 × Int32) (bM_n1 v1 x5 a) n (1, 0)) (fun x40 => if x40 = 0 then (some (.inl (x5 + 1))) else (some (.inr (x5))))) else (jn (α := Int32) (lp (ε := Int32 × Int32) (bM_n0 v1 x5 a) n (0, 0)) (fun x18 => if x18 = 0 then (some (.inl (x5 + 1))) else (some (.inr (x5)))))))))))
theorem dc_e (n : Nat) (v1 : Int32) (g : aG) (a : aA) : mM_documentOf n v1 g a = bd (mM_isSort n v1 2 g a) (fun x2 => if x2 = 0 then (some ((-1))) else lp (bM_dc n v1 g a) n 0) := rfl
def bV_fd (n : Nat) (v2 : Int32) (gS : aG) (gV : aG) (aV : aA) (dP : aP) : Int32 → Option (Int32 ⊕ Int32) := (fun x1 => if (gS 2) ≤ x1 then (some (.inr ((-1)))) else (gd (inb x1 3) (bd (mD_isNamed n v2 ((dP x1.toNatClampNeg).2.1) ((dP x1.toNatClampNeg).2.2.1) gV aV) (fun x8 => if x8 = 0 then (some (.inl (x1 + 1))) else (some (.inr (x1)))))))
theorem fnd_l (h : Vw gV aV g a v u) {w s z nd : Nat} {gS : aG} {dP : aP} (hw : w < v) (hT : isT aV a u w s z) (hn : 300 < n) (hnd : nd ≤ 3) (h2 : gS 2 = nI nd) (h22 : g 22 = nI nd) (hD : ∀ d, d < nd → docR (dP d) a d) : ∀ m d k, d + m = nd → m < k → ∃ y, lp (bV_fd n (nI w) gS gV aV dP) k (nI d) = some y ∧ lp (bM_dc n (nI w) g a) k (nI d) = some y ∧ (y = -1 ∨ ∃ i, i < nd ∧ y = nI i) := by
  have hv := h.1
  have hu := h.2.2.1
  obtain ⟨t1, t2, t3, t4, t5, t6, t7⟩ := id hT
  intro m
  induction m with
  | zero =>
    intro d k h1 h3
    have e : nI nd ≤ nI d := nI_le (by omega) (by omega)
    refine ⟨-1, lp_e ?_ h3, lp_e ?_ h3, .inl rfl⟩
    · simp only [bV_fd, h2, e, reduceIte]
    · simp only [bM_dc, h22, e, reduceIte]
  | succ m ih =>
    intro d k h1 h3
    have e : ¬ nI nd ≤ nI d := nI_ge (by omega) (by omega)
    have e1 : inb (nI d) 3 = true := inb_T (by omega) (by omega)
    have e2 : (nI d).toNatClampNeg = d := nI_clamp (by omega)
    have e3 : inb (nI w) 41 = true := inb_T (by omega) (by omega)
    have e4 : (nI w).toNatClampNeg = w := nI_clamp (by omega)
    obtain ⟨⟨T, r1, r2, r3, r4, r5⟩, -⟩ := hD d (by omega)
    obtain ⟨v1, v2⟩ := ndV (n := n) (gD := (dP d).2.1) (aD := (dP d).2.2.1) h hw hT r3 r2 hn
    by_cases hq : T = z ∧ ∀ j, j < z → (dP d).2.2.1 0 j = a 8 (s + j)
    · refine ⟨nI d, lp_e ?_ (by omega), lp_e ?_ (by omega), .inr ⟨d, by omega, rfl⟩⟩
      · simp only [bV_fd, h2, e, e1, e2, v1 hq, gd_T, bd_s, one_ne_zero, reduceIte]
      · obtain ⟨rfl, hq2⟩ := hq
        have i1 := (n1_l (a := a) (w := w) (s := s) (d := d) (by omega) (by omega) r4 r2 t4 (by omega) T 0 n (by omega) (by omega)).1 (fun j _ hj => by rw [← (r5 j hj).1]; exact hq2 j hj)
        have i1 : lp (bM_n1 (nI w) (nI d) a) n (1, 0) = some (.inl 1) := i1
        simp only [bM_dc, h22, e, e1, e2, r4, e3, e4, t6, i1, gd_T, lt, jn_l, one_ne_zero, reduceIte]
    · obtain ⟨y, y1, y2, y3⟩ := ih (d + 1) (k - 1) (by omega) (by omega)
      refine ⟨y, (lp_s ?_ (by omega)).trans y1, (lp_s ?_ (by omega)).trans y2, y3⟩
      · simp only [bV_fd, h2, e, e1, e2, v2 hq, gd_T, bd_s, reduceIte, ad_L]
      · by_cases hz : T = z
        · subst hz
          have i1 := (n1_l (a := a) (w := w) (s := s) (d := d) (by omega) (by omega) r4 r2 t4 (by omega) T 0 n (by omega) (by omega)).2 (fun q => hq ⟨rfl, fun j hj => by rw [(r5 j hj).1]; exact q j (by omega) hj⟩)
          have i1 : lp (bM_n1 (nI w) (nI d) a) n (1, 0) = some (.inl 0) := i1
          simp only [bM_dc, h22, e, e1, e2, r4, e3, e4, t6, i1, gd_T, lt, jn_l, reduceIte, ad_L]
        · have i1 := n0_l (a := a) (w := w) (d := d) (k := n) (by omega) r4 r1 r2 (by omega)
          have e9 : ¬ nI T = nI z := by rw [nI_eq (by omega) (by omega)]; exact hz
          simp only [bM_dc, h22, e, e1, e2, r4, e3, e4, t6, e9, i1, gd_T, lt, jn_l, reduceIte, ad_L]
/-- both find the same document -/
theorem fnd_2x (h : Vw gV aV g a v u) {w s z nd : Nat} {gS : aG} {aS : aA} {dP : aP} (hw : w < v) (hT : isT aV a u w s z) (hn : 300 < n) (hnd : nd ≤ 3) (h2 : gS 2 = nI nd) (h22 : g 22 = nI nd) (hD : ∀ d, d < nd → docR (dP d) a d) : ∃ y, mS_find n (nI w) gS aS gV aV dP = some y ∧ mM_documentOf n (nI w) g a = some y ∧ (y = -1 ∨ ∃ i, i < nd ∧ y = nI i) := by
  obtain ⟨y, y1, y2, y3⟩ := fnd_l (n := n) h hw hT hn hnd h2 h22 hD nd 0 n (by omega) (by omega)
  refine ⟨y, y1, ?_, y3⟩
  have hS : mM_isSort n (nI w) 2 g a = some 1 := (isS_w (n := n) (kd := 2) h hw (by omega) hT.1 hT.2.1).2.2.1
  rw [dc_e, hS, bd_s, if_neg one_ne_zero]
  exact y2
/-- the reference finds none where there is no string -/
theorem dc_n (h : Vw gV aV g a v u) {w : Nat} (hw : w < v) (h2 : ¬ aV 0 w = 2) : mM_documentOf n (nI w) g a = some (-1) := by
  obtain ⟨kd, k1, k2, k3, -⟩ := h.kd hw
  have hk : ¬ kd = 2 := fun z => h2 (by rw [k2, z]; rfl)
  have hS := (isS_w (n := n) h hw k1 k2 k3).2.2.1
  rw [b01, if_neg hk] at hS
  rw [dc_e, hS, bd_s, if_pos rfl]
theorem dc_m : mM_documentOf n (-1) g a = some (-1) := by
  rw [dc_e, (isS_n (n := n) (gV := g) (aV := a) (g := g) (a := a)).2.2.1 2, bd_s, if_pos rfl]
end VZ
