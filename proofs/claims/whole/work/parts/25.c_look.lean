section VX
variable {gV : aG} {aV : aA} {g : aG} {a : aA} {v u n : Nat}
def okS (i : Nat) : Bool := decide (slen i ≤ 6) && (List.range 6).all (fun k => if k < slen i then decide (¬ sbyt i k ≤ 0) else decide (sbyt i k ≤ 0))
theorem okS_u {i : Nat} (h : okS i = true) : slen i ≤ 6 ∧ (∀ k, k < slen i → ¬ sbyt i k ≤ 0) ∧ ∀ k, slen i ≤ k → k < 6 → sbyt i k ≤ 0 := by
  unfold okS at h
  rw [Bool.and_eq_true, decide_eq_true_eq] at h
  obtain ⟨h1, h2⟩ := h
  have h3 := fun k (hk : k < 6) => List.all_eq_true.mp h2 k (List.mem_range.mpr hk)
  refine ⟨h1, fun k hk => ?_, fun k hk hk2 => ?_⟩
  · have h4 := h3 k (by omega)
    rw [if_pos hk] at h4
    exact of_decide_eq_true h4
  · have h4 := h3 k hk2
    rw [if_neg (by omega)] at h4
    exact of_decide_eq_true h4
theorem spl_M {s z i : Nat} (hi : okS i = true) (hs : s + z ≤ 200) (hn : 300 < n) : (eqs (a 8) s z i → mM_spells n (nI s) (nI z) (sbyt i 0) (sbyt i 1) (sbyt i 2) (sbyt i 3) (sbyt i 4) (sbyt i 5) g a = some 1) ∧ (¬ eqs (a 8) s z i → mM_spells n (nI s) (nI z) (sbyt i 0) (sbyt i 1) (sbyt i 2) (sbyt i 3) (sbyt i 4) (sbyt i 5) g a = some 0) := by
  obtain ⟨h1, h2, h3⟩ := okS_u hi
  exact spelM h1 h2 h3 hs hn
/-- a string value w at s, z letters -/
def isT (aV a : aA) (u w s z : Nat) : Prop := aV 0 w = 2 ∧ a 1 w = 2 ∧ aV 2 w = nI s ∧ a 3 w = nI s ∧ aV 3 w = nI z ∧ a 4 w = nI z ∧ s + z ≤ u
theorem Vw.str (h : Vw gV aV g a v u) {w : Nat} (hw : w < v) (h2 : aV 0 w = 2) : ∃ s z, isT aV a u w s z := by
  obtain ⟨kd, k1, k2, k3, k4, k5⟩ := h.kd hw
  have : nI kd = nI 2 := k2.symm.trans h2
  rw [nI_eq (by omega) (by omega)] at this
  subst this
  obtain ⟨s, z, q1, q2, q3, q4, q5⟩ := k5 rfl
  exact ⟨s, z, h2, k3, q1, q2, q3, q4, q5⟩
theorem splV (h : Vw gV aV g a v u) {w s z i : Nat} (hw : w < v) (hT : isT aV a u w s z) (hn : 300 < n) (hi : slen i < 300) : (eqs (a 8) s z i → mV_spells n i (nI w) gV aV = some 1) ∧ (¬ eqs (a 8) s z i → mV_spells n i (nI w) gV aV = some 0) := by
  obtain ⟨e1, e2, e3, e4, e5⟩ := h.nv hw
  obtain ⟨t1, t2, t3, t4, t5, t6, t7⟩ := hT
  have hS : mV_isString n (nI w) gV aV = some 1 := (isS_w (n := n) (kd := 2) h hw (by omega) t1 t2).1
  obtain ⟨m1, m2⟩ := smV (n := n) h t7 hn hi
  refine ⟨fun q => ?_, fun q => ?_⟩
  · simp only [mV_spells, hS, bd_s, one_ne_zero, reduceIte, e3, e5, t3, t5, gd_T, lt, m1 q]
  · simp only [mV_spells, hS, bd_s, one_ne_zero, reduceIte, e3, e5, t3, t5, gd_T, lt, m2 q]
theorem sayM (h : Vw gV aV g a v u) {w s z i : Nat} (hw : w < v) (hT : isT aV a u w s z) (hn : 300 < n) (hi : okS i = true) : (eqs (a 8) s z i → mM_says n (nI w) (sbyt i 0) (sbyt i 1) (sbyt i 2) (sbyt i 3) (sbyt i 4) (sbyt i 5) g a = some 1) ∧ (¬ eqs (a 8) s z i → mM_says n (nI w) (sbyt i 0) (sbyt i 1) (sbyt i 2) (sbyt i 3) (sbyt i 4) (sbyt i 5) g a = some 0) := by
  obtain ⟨e1, e2, e3, e4, e5⟩ := h.nv hw
  obtain ⟨t1, t2, t3, t4, t5, t6, t7⟩ := hT
  have hu := h.2.2.1
  obtain ⟨m1, m2⟩ := spl_M (n := n) (g := g) (a := a) (s := s) (z := z) hi (by omega) hn
  refine ⟨fun q => ?_, fun q => ?_⟩
  · simp only [mM_says, e4, e5, t4, t6, gd_T, lt, m1 q, bd_s, okz_1]
  · simp only [mM_says, e4, e5, t4, t6, gd_T, lt, m2 q, bd_s, okz_0]
theorem iniM (h : Vw gV aV g a v u) {w s z : Nat} (hw : w < v) (hT : isT aV a u w s z) (hn : 300 < n) : (eqs (a 8) s z 14 → mM_isInitialize n (nI w) g a = some 1) ∧ (¬ eqs (a 8) s z 14 → mM_isInitialize n (nI w) g a = some 0) := by
  obtain ⟨e1, e2, e3, e4, e5⟩ := h.nv hw
  obtain ⟨t1, t2, t3, t4, t5, t6, t7⟩ := hT
  have hu := h.2.2.1
  have l14 : slen 14 = 10 := by decide +kernel
  have hc : ∀ k, k < 10 → ¬ sbyt 14 k ≤ 0 := by decide +kernel
  have A := spelM (n := n) (g := g) (a := a) (s := s) (z := 6) (L := 6) (c := fun k => sbyt 14 k) (by omega) (fun k hk => hc k (by omega)) (fun k h1 h2 => by omega)
  have B := spelM (n := n) (g := g) (a := a) (s := s + 6) (z := 4) (L := 4) (c := fun k => if k < 4 then sbyt 14 (6 + k) else 0) (by omega) (fun k hk => by simp only [if_pos hk]; exact hc (6 + k) (by omega)) (fun k h1 h2 => by simp only [if_neg (show ¬ k < 4 by omega)]; decide)
  have EA : sbyt 14 0 = 105 ∧ sbyt 14 1 = 110 ∧ sbyt 14 2 = 105 ∧ sbyt 14 3 = 116 ∧ sbyt 14 4 = 105 ∧ sbyt 14 5 = 97 ∧ sbyt 14 6 = 108 ∧ sbyt 14 7 = 105 ∧ sbyt 14 8 = 122 ∧ sbyt 14 9 = 101 := by decide +kernel
  obtain ⟨x0, x1, x2, x3, x4, x5, x6, x7, x8, x9⟩ := EA
  simp only [x0, x1, x2, x3, x4, x5] at A
  have B0 : (if (0 : Nat) < 4 then sbyt 14 (6 + 0) else 0) = 108 := x6
  have B1 : (if (1 : Nat) < 4 then sbyt 14 (6 + 1) else 0) = 105 := x7
  have B2 : (if (2 : Nat) < 4 then sbyt 14 (6 + 2) else 0) = 122 := x8
  have B3 : (if (3 : Nat) < 4 then sbyt 14 (6 + 3) else 0) = 101 := x9
  have B4 : (if (4 : Nat) < 4 then sbyt 14 (6 + 4) else 0) = 0 := rfl
  have B5 : (if (5 : Nat) < 4 then sbyt 14 (6 + 5) else 0) = 0 := rfl
  simp only [B0, B1, B2, B3, B4, B5] at B
  have q6 : nI 6 = 6 := rfl
  have q4 : nI 4 = 4 := rfl
  rw [q6] at A
  rw [q4] at B
  by_cases hz : z = 10
  · subst hz
    have A := A (by omega) hn
    have B := B (by omega) hn
    have c10 : nI 10 = 10 := rfl
    have s6 : nI s + 6 = nI (s + 6) := nI_add s 6
    by_cases PA : True ∧ ∀ j, j < 6 → a 8 (s + j) = sbyt 14 j
    · by_cases PB : True ∧ ∀ j, j < 4 → a 8 (s + 6 + j) = (if j < 4 then sbyt 14 (6 + j) else 0)
      · have hE : eqs (a 8) s 10 14 := ⟨l14.symm, fun j hj => by
          rw [l14] at hj
          by_cases hj6 : j < 6
          · exact PA.2 j hj6
          · have := PB.2 (j - 6) (by omega)
            rw [if_pos (by omega), show s + 6 + (j - 6) = s + j by omega, show 6 + (j - 6) = j by omega] at this
            exact this⟩
        refine ⟨fun _ => ?_, fun q => absurd hE q⟩
        simp only [mM_isInitialize, e4, e5, t4, t6, gd_T, lt, if_pos c10, A.1 PA, s6, B.1 PB, bd_s, one_ne_zero, reduceIte]
      · refine ⟨fun q => absurd ⟨trivial, (fun j hj => by rw [if_pos hj, show s + 6 + j = s + (6 + j) by omega]; exact q.2 (6 + j) (by omega))⟩ PB, fun _ => ?_⟩
        · simp only [mM_isInitialize, e4, e5, t4, t6, gd_T, lt, if_pos c10, A.1 PA, s6, B.2 PB, bd_s, one_ne_zero, reduceIte]
    · refine ⟨fun q => absurd ⟨trivial, fun j hj => q.2 j (by omega)⟩ PA, fun _ => ?_⟩
      simp only [mM_isInitialize, e4, e5, t4, t6, gd_T, lt, if_pos c10, A.2 PA, bd_s, reduceIte]
  · have c10 : ¬ nI z = 10 := by rw [eq_L (by omega) (by decide)]; exact hz
    refine ⟨fun q => absurd (q.1.trans l14) hz, fun _ => ?_⟩
    simp only [mM_isInitialize, e4, e5, t6, gd_T, lt, c10, reduceIte]
theorem shuM (h : Vw gV aV g a v u) {w s z : Nat} (hw : w < v) (hT : isT aV a u w s z) (hn : 300 < n) : (eqs (a 8) s z 13 → mM_isShutdown n (nI w) g a = some 1) ∧ (¬ eqs (a 8) s z 13 → mM_isShutdown n (nI w) g a = some 0) := by
  obtain ⟨e1, e2, e3, e4, e5⟩ := h.nv hw
  obtain ⟨t1, t2, t3, t4, t5, t6, t7⟩ := hT
  have hu := h.2.2.1
  have l13 : slen 13 = 8 := by decide +kernel
  have hc : ∀ k, k < 8 → ¬ sbyt 13 k ≤ 0 := by decide +kernel
  have A := spelM (n := n) (g := g) (a := a) (s := s) (z := 6) (L := 6) (c := fun k => sbyt 13 k) (by omega) (fun k hk => hc k (by omega)) (fun k h1 h2 => by omega)
  have B := spelM (n := n) (g := g) (a := a) (s := s + 6) (z := 2) (L := 2) (c := fun k => if k < 2 then sbyt 13 (6 + k) else 0) (by omega) (fun k hk => by simp only [if_pos hk]; exact hc (6 + k) (by omega)) (fun k h1 h2 => by simp only [if_neg (show ¬ k < 2 by omega)]; decide)
  have EA : sbyt 13 0 = 115 ∧ sbyt 13 1 = 104 ∧ sbyt 13 2 = 117 ∧ sbyt 13 3 = 116 ∧ sbyt 13 4 = 100 ∧ sbyt 13 5 = 111 ∧ sbyt 13 6 = 119 ∧ sbyt 13 7 = 110 := by decide +kernel
  obtain ⟨x0, x1, x2, x3, x4, x5, x6, x7⟩ := EA
  simp only [x0, x1, x2, x3, x4, x5] at A
  have B0 : (if (0 : Nat) < 2 then sbyt 13 (6 + 0) else 0) = 119 := x6
  have B1 : (if (1 : Nat) < 2 then sbyt 13 (6 + 1) else 0) = 110 := x7
  have B2 : (if (2 : Nat) < 2 then sbyt 13 (6 + 2) else 0) = 0 := rfl
  have B3 : (if (3 : Nat) < 2 then sbyt 13 (6 + 3) else 0) = 0 := rfl
  have B4 : (if (4 : Nat) < 2 then sbyt 13 (6 + 4) else 0) = 0 := rfl
  have B5 : (if (5 : Nat) < 2 then sbyt 13 (6 + 5) else 0) = 0 := rfl
  simp only [B0, B1, B2, B3, B4, B5] at B
  have q6 : nI 6 = 6 := rfl
  have q4 : nI 2 = 2 := rfl
  rw [q6] at A
  rw [q4] at B
  by_cases hz : z = 8
  · subst hz
    have A := A (by omega) hn
    have B := B (by omega) hn
    have c10 : nI 8 = 8 := rfl
    have s6 : nI s + 6 = nI (s + 6) := nI_add s 6
    by_cases PA : True ∧ ∀ j, j < 6 → a 8 (s + j) = sbyt 13 j
    · by_cases PB : True ∧ ∀ j, j < 2 → a 8 (s + 6 + j) = (if j < 2 then sbyt 13 (6 + j) else 0)
      · have hE : eqs (a 8) s 8 13 := ⟨l13.symm, fun j hj => by
          rw [l13] at hj
          by_cases hj6 : j < 6
          · exact PA.2 j hj6
          · have := PB.2 (j - 6) (by omega)
            rw [if_pos (by omega), show s + 6 + (j - 6) = s + j by omega, show 6 + (j - 6) = j by omega] at this
            exact this⟩
        refine ⟨fun _ => ?_, fun q => absurd hE q⟩
        simp only [mM_isShutdown, e4, e5, t4, t6, gd_T, lt, if_pos c10, A.1 PA, s6, B.1 PB, bd_s, one_ne_zero, reduceIte]
      · refine ⟨fun q => absurd ⟨trivial, (fun j hj => by rw [if_pos hj, show s + 6 + j = s + (6 + j) by omega]; exact q.2 (6 + j) (by omega))⟩ PB, fun _ => ?_⟩
        · simp only [mM_isShutdown, e4, e5, t4, t6, gd_T, lt, if_pos c10, A.1 PA, s6, B.2 PB, bd_s, one_ne_zero, reduceIte]
    · refine ⟨fun q => absurd ⟨trivial, fun j hj => q.2 j (by omega)⟩ PA, fun _ => ?_⟩
      simp only [mM_isShutdown, e4, e5, t4, t6, gd_T, lt, if_pos c10, A.2 PA, bd_s, reduceIte]
  · have c10 : ¬ nI z = 8 := by rw [eq_L (by omega) (by decide)]; exact hz
    refine ⟨fun q => absurd (q.1.trans l13) hz, fun _ => ?_⟩
    simp only [mM_isShutdown, e4, e5, t6, gd_T, lt, c10, reduceIte]
/-! members -/
def bV_mb (n is : Nat) (gV : aG) (aV : aA) : Int32 × Int32 → Option ((Int32 × Int32) ⊕ Int32) := (fun q6 => gd (inb 0 40) (lt (aV 3 (0 : Int32).toNatClampNeg) (fun x11 => if x11 ≤ q6.2 then (some (.inr ((-1)))) else (if (gV 11) ≤ q6.1 then (some (.inr ((-1)))) else (gd (inb q6.1 40) (lt (aV 5 q6.1.toNatClampNeg) (fun x15 => gd (inb q6.1 40) (lt (aV 6 q6.1.toNatClampNeg) (fun x17 => bd (mV_sameLetters n is x15 x17 gV aV) (fun x18 => if x18 = 0 then (gd (inb q6.1 40) (lt (aV 4 q6.1.toNatClampNeg) (fun x23 => some (.inl (x23, (q6.2 + 1)))))) else (some (.inr (q6.1)))))))))))))
def bM_mb (n : Nat) (v1 v2 v3 v4 v5 v6 : Int32) (g : aG) (a : aA) : Int32 → Option (Int32 ⊕ Int32) := (fun x1 => if (g 8) ≤ x1 then (some (.inr ((-1)))) else (gd (inb x1 41) (lt (a 5 x1.toNatClampNeg) (fun x8 => if x8 = 0 then (gd (inb x1 41) (lt (a 6 x1.toNatClampNeg) (fun x11 => gd (inb x1 41) (lt (a 7 x1.toNatClampNeg) (fun x13 => bd (mM_spells n x11 x13 v1 v2 v3 v4 v5 v6 g a) (fun x15 => if x15 = 0 then (some (.inl (x1 + 1))) else (some (.inr (x1))))))))) else (some (.inl (x1 + 1)))))))
def mbM (n i : Nat) (g : aG) (a : aA) : Int32 → Option (Int32 ⊕ Int32) := bM_mb n (sbyt i 0) (sbyt i 1) (sbyt i 2) (sbyt i 3) (sbyt i 4) (sbyt i 5) g a
theorem mb_sk {i : Nat} (hg : g 8 = nI v) (hv : v ≤ 40) : ∀ m s k, s + m ≤ v → (∀ w, s ≤ w → w < s + m → ¬ a 5 w = nI 0) → m < k → lp (mbM n i g a) k (nI s) = lp (mbM n i g a) (k - m) (nI (s + m)) := by
  intro m
  induction m with
  | zero => intro s k _ _ _; rfl
  | succ m ih =>
    intro s k h1 h2 h3
    have h4 : ¬ a 5 s = 0 := h2 s (Nat.le_refl s) (by omega)
    rw [lp_s (y := nI (s + 1)) ?_ (by omega), ih (s + 1) (k - 1) (by omega) (fun w w1 w2 => h2 w (by omega) (by omega)) (by omega)]
    · rw [show s + 1 + m = s + (m + 1) by omega, show k - 1 - m = k - (m + 1) by omega]
    · have e1 : ¬ nI v ≤ nI s := nI_ge (by omega) (by omega)
      simp (disch := omega) only [mbM, bM_mb, hg, e1, h4, inb_T, nI_clamp, ad_L, lt, bd_s, jn_l, jn_r, gd_T, va_ap, upd_ap, reduceIte, Nat.reduceEqDiff, Nat.reduceAdd, Nat.reduceSub, Nat.reduceMul, Nat.reduceLT, Nat.reduceLeDiff, reduceCtorEq, Int32.reduceLT, Int32.reduceLE, one_ne_zero, zero_ne_one, not_true_eq_false, not_false_eq_true, true_and, and_true, if_true, if_false, ite_self, Nat.add_zero, Nat.zero_add]
theorem mb_2 (h : Vw gV aV g a v u) {i K m0 : Nat} (hi : okS i = true) (hn : 300 < n) (h3 : aV 3 0 = nI K) (hK : K < 100) (h4 : a 1 0 = 4) (hm0 : m0 ≤ v) (hout : ∀ w, m0 ≤ w → w < v → ¬ a 5 w = nI 0) : ∀ f s k c j1 j2, Tr aV a f (nI 0) s m0 k → 1 ≤ s → c + k = K → k < j1 → v - s < j2 → ∃ y, lp (bV_mb n i gV aV) j1 (nI s, nI c) = some y ∧ lp (mbM n i g a) j2 (nI s) = some y ∧ (y = -1 ∨ ∃ w, s ≤ w ∧ w < v ∧ y = nI w) := by
  have hv := h.1
  have hgV := h.2.2.2.1
  have hg := h.2.2.2.2.2.1
  have hu := h.2.2.1
  have si := (okS_u hi).1
  intro f
  have fin : ∀ s k c j1 j2, s = m0 → k = 0 → c + k = K → k < j1 → v - s < j2 → ∃ y, lp (bV_mb n i gV aV) j1 (nI s, nI c) = some y ∧ lp (mbM n i g a) j2 (nI s) = some y ∧ (y = -1 ∨ ∃ w, s ≤ w ∧ w < v ∧ y = nI w) := by
    intro s k c j1 j2 q1 q2 q3 q4 q5
    subst q1 q2
    have e1 : nI K ≤ nI c := nI_le (by omega) (by omega)
    have e2 : inb 0 40 = true := by decide
    have e3 : (0 : Int32).toNatClampNeg = 0 := by decide
    refine ⟨-1, lp_e ?_ (by omega), ?_, .inl rfl⟩
    · simp only [bV_mb, e2, e3, h3, e1, gd_T, lt, reduceIte]
    · rw [mb_sk hg hv (v - s) s j2 (by omega) (fun w w1 w2 => hout w w1 (by omega)) (by omega), show s + (v - s) = v by omega]
      refine lp_e ?_ (by omega)
      simp only [mbM, bM_mb, hg, show nI v ≤ nI v from Int32.le_refl _, if_true]
  induction f with
  | zero =>
    intro s k c j1 j2 hT h1 h2 h5 h6
    obtain ⟨q1, q2⟩ := hT
    exact fin s k c j1 j2 q1 q2 h2 h5 h6
  | succ f ih =>
    intro s k c j1 j2 hT h1 h2 h5 h6
    rcases hT with ⟨q1, q2⟩ | ⟨m, k', q1, q2, q3, q4, q5, q6⟩
    · exact fin s k c j1 j2 q1 q2 h2 h5 h6
    · have hme := Tr_le _ _ _ _ _ q6
      have e1 : ¬ nI v ≤ nI s := nI_ge (by omega) (by omega)
      have e0 : ¬ nI K ≤ nI c := nI_ge (by omega) (by omega)
      have e2 : inb 0 40 = true := by decide
      have e3 : (0 : Int32).toNatClampNeg = 0 := by decide
      have e4 : inb (nI s) 40 = true := inb_T (by omega) (by omega)
      have e5 : inb (nI s) 41 = true := inb_T (by omega) (by omega)
      have e6 : (nI s).toNatClampNeg = s := nI_clamp (by omega)
      have q3' : a 5 s = 0 := q3
      obtain ⟨t, z, r1, r2, r3, r4, r5⟩ := h.2.2.2.2.2.2.1.2.1 s (by omega) q3 h4
      obtain ⟨m1, m2⟩ := smV (n := n) (i := i) h r5 hn (by omega)
      obtain ⟨p1, p2⟩ := spl_M (n := n) (g := g) (a := a) (s := t) (z := z) hi (by omega) hn
      by_cases hE : eqs (a 8) t z i
      · refine ⟨nI s, lp_e ?_ (by omega), lp_e ?_ (by omega), .inr ⟨s, Nat.le_refl s, by omega, rfl⟩⟩
        · simp only [bV_mb, e2, e3, h3, e0, hgV, e1, e4, e6, r1, r3, m1 hE, gd_T, lt, bd_s, one_ne_zero, reduceIte]
        · simp only [mbM, bM_mb, hg, e1, e5, e6, q3', r2, r4, p1 hE, gd_T, lt, bd_s, one_ne_zero, reduceIte]
      · obtain ⟨y, y1, y2, y3⟩ := ih m k' (c + 1) (j1 - 1) (j2 - (m - s)) q6 (by omega) (by omega) (by omega) (by omega)
        refine ⟨y, ?_, ?_, y3.imp id (fun ⟨w, w1, w2, w3⟩ => ⟨w, by omega, w2, w3⟩)⟩
        · refine (lp_s (y := (nI m, nI (c + 1))) ?_ (by omega)).trans y1
          simp only [bV_mb, e2, e3, h3, e0, hgV, e1, e4, e6, r1, r3, m2 hE, q4, gd_T, lt, bd_s, reduceIte, ad_L]
        · rw [lp_s (y := nI (s + 1)) ?_ (by omega), mb_sk hg hv (m - (s + 1)) (s + 1) (j2 - 1) (by omega) (fun w w1 w2 => Tr_gap (by omega) (by omega) q5 w w1 (by omega)) (by omega), show s + 1 + (m - (s + 1)) = m by omega, show j2 - 1 - (m - (s + 1)) = j2 - (m - s) by omega]
          · exact y2
          · simp only [mbM, bM_mb, hg, e1, e5, e6, q3', r2, r4, p2 hE, gd_T, lt, bd_s, reduceIte, ad_L]
theorem mem_2 (h : Vw gV aV g a v u) {i : Nat} (hi : okS i = true) (hn : 300 < n) (h0 : aV 0 0 = 4) : ∃ y, mV_member n i gV aV = some y ∧ mM_member n (sbyt i 0) (sbyt i 1) (sbyt i 2) (sbyt i 3) (sbyt i 4) (sbyt i 5) g a = some y ∧ (y = -1 ∨ ∃ w, w < v ∧ y = nI w) := by
  obtain ⟨p1, p2, p3, p4, p5, p6, p7, F, p8⟩ := id h
  obtain ⟨m, K, k1, k2, k3, ⟨f, k4⟩, k5⟩ := Kid_of p1 p8 0 (by omega) (.inr h0)
  have hle := Tr_le _ _ _ _ _ k4
  have h1 : a 1 0 = 4 := by
    obtain ⟨kd, q1, q2, q3, -⟩ := h.kd (w := 0) (by omega)
    rw [q3, ← q2]; exact h0
  obtain ⟨y, y1, y2, y3⟩ := mb_2 (n := n) h hi hn k3 (by omega) h1 k2 k5 f 1 K 0 n n k4 (by omega) (by omega) (by omega) (by omega)
  refine ⟨y, ?_, y2, y3.imp id (fun ⟨w, _, w2, w3⟩ => ⟨w, w2, w3⟩)⟩
  have e2 : inb 0 40 = true := by decide
  have e3 : (0 : Int32).toNatClampNeg = 0 := by decide
  rw [mV_member, e2, gd_T, e3, lt, h0, if_pos rfl]
  exact y1
theorem mem_n {i : Nat} (h0 : ¬ aV 0 0 = 4) : mV_member n i gV aV = some (-1) := by
  have e2 : inb 0 40 = true := by decide
  have e3 : (0 : Int32).toNatClampNeg = 0 := by decide
  rw [mV_member, e2, gd_T, e3, lt, if_neg h0]
end VX
