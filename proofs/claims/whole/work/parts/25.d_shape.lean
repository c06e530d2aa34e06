/-! arrays, shapes, documents by name -/
def Arr (n : Nat) (gV : aG) (aV : aA) (g : aG) (a : aA) (v L K : Nat) (w : Nat → Nat) : Prop := K ≤ 39 ∧ aV 3 L = nI K ∧ mM_items n (nI L) g a = some (nI K) ∧ (∀ i, i < K → L < w i ∧ w i < v ∧ mV_item n (nI L) (nI i) gV aV = some (nI (w i)) ∧ mM_item n (nI L) (nI i) g a = some (nI (w i))) ∧ ∀ i, K ≤ i → i < 1000 → mV_item n (nI L) (nI i) gV aV = some (-1) ∧ mM_item n (nI L) (nI i) g a = some (-1)
section VY
variable {gV : aG} {aV : aA} {g : aG} {a : aA} {v u n : Nat}
theorem arr_of (h : Vw gV aV g a v u) {L : Nat} (hL : L < v) (h3 : aV 0 L = 3) (hn : 100 < n) : ∃ K w, Arr n gV aV g a v L K w := by
  obtain ⟨K, k1, k2, k3, k4, k5⟩ := itm (n := n) h hL h3 hn
  have k6 : ∀ i, ∃ w, i < K → L < w ∧ w < v ∧ mV_item n (nI L) (nI i) gV aV = some (nI w) ∧ mM_item n (nI L) (nI i) g a = some (nI w) := by
    intro i
    by_cases hi : i < K
    · obtain ⟨w, hw⟩ := k4 i hi
      exact ⟨w, fun _ => hw⟩
    · exact ⟨0, fun h => absurd h hi⟩
  obtain ⟨w, hw⟩ := Classical.axiomOfChoice k6
  exact ⟨K, w, k1, k2, k3, hw, k5⟩
/-- item j is of the kind that the shape's letter tells -/
def KM (aV : aA) (w : Nat → Nat) (i j : Nat) : Prop := aV 0 (w j) = (if sbyt i j = 115 then 2 else 1)
def bV_hs (n is : Nat) (v1 : Int32) (gV : aG) (aV : aA) : Int32 → Option (Int32 ⊕ (Unit ⊕ Int32)) := (fun x8 => if (Int32.ofNat (slen is)) ≤ x8 then (some (.inr (.inl ()))) else (gd (inb x8 (slen is)) (lt (sbyt is x8.toNatClampNeg) (fun x15 => if x15 = 42 then (some (.inr (.inr (1)))) else (bd (mV_item n v1 x8 gV aV) (fun x17 => if x15 = 115 then (bd (mV_isString n x17 gV aV) (fun x25 => if x25 = 0 then (some (.inr (.inr (0)))) else (some (.inl (x8 + 1))))) else (bd (mV_isNumber n x17 gV aV) (fun x21 => if x21 = 0 then (some (.inr (.inr (0)))) else (some (.inl (x8 + 1)))))))))))
theorem hs_e (n is : Nat) (v1 : Int32) (gV : aG) (aV : aA) : mV_hasShape n is v1 gV aV = jn (lp (bV_hs n is v1 gV aV) n 0) (fun _ => bd (mV_sizeOf n v1 gV aV) (fun x4 => if x4 = (Int32.ofNat (slen is)) then (some (1)) else (some (0)))) := rfl
/-- one letter of the shape -/
theorem hs_s (h : Vw gV aV g a v u) {i L K y : Nat} {w : Nat → Nat} (hA : Arr n gV aV g a v L K w) (hi : slen i ≤ 5) (hy : y < slen i) (h42 : ¬ sbyt i y = 42) : ((y < K ∧ KM aV w i y) → bV_hs n i (nI L) gV aV (nI y) = some (.inl (nI (y + 1)))) ∧ (¬ (y < K ∧ KM aV w i y) → bV_hs n i (nI L) gV aV (nI y) = some (.inr (.inr 0))) := by
  obtain ⟨a1, a2, a3, a4, a5⟩ := hA
  have e0 : ¬ Int32.ofNat (slen i) ≤ nI y := nI_ge (b := slen i) hy (by omega)
  have e1 : inb (nI y) (slen i) = true := inb_T hy (by omega)
  have e2 : (nI y).toNatClampNeg = y := nI_clamp (by omega)
  by_cases hyK : y < K
  · obtain ⟨b1, b2, b3, b4⟩ := a4 y hyK
    obtain ⟨kd, k1, k2, k3, -⟩ := h.kd b2
    obtain ⟨s1, s2, -⟩ := isS_w (n := n) h b2 k1 k2 k3
    by_cases hs : sbyt i y = 115
    · have hKM : KM aV w i y ↔ kd = 2 := by
        unfold KM
        rw [if_pos hs, k2]; exact eq_L (b := 2) (by omega) (by decide)
      refine ⟨fun q => ?_, fun q => ?_⟩
      · have hk := hKM.mp q.2
        have s1' : mV_isString n (nI (w y)) gV aV = some 1 := by rw [s1, b01, if_pos hk]
        have h42' : ¬ ((115 : Int32) = 42) := by decide
        simp only [bV_hs, e0, e1, e2, hs, h42', b3, s1', gd_T, lt, bd_s, one_ne_zero, reduceIte, ad_L]
      · have hk : ¬ kd = 2 := fun z => q ⟨hyK, hKM.mpr z⟩
        have s1' : mV_isString n (nI (w y)) gV aV = some 0 := by rw [s1, b01, if_neg hk]
        have h42' : ¬ ((115 : Int32) = 42) := by decide
        simp only [bV_hs, e0, e1, e2, hs, h42', b3, s1', gd_T, lt, bd_s, reduceIte]
    · have hKM : KM aV w i y ↔ kd = 1 := by
        unfold KM
        rw [if_neg hs, k2]; exact eq_L (b := 1) (by omega) (by decide)
      refine ⟨fun q => ?_, fun q => ?_⟩
      · have hk := hKM.mp q.2
        have s2' : mV_isNumber n (nI (w y)) gV aV = some 1 := by rw [s2, b01, if_pos hk]
        simp only [bV_hs, e0, e1, e2, hs, h42, b3, s2', gd_T, lt, bd_s, one_ne_zero, reduceIte, ad_L]
      · have hk : ¬ kd = 1 := fun z => q ⟨hyK, hKM.mpr z⟩
        have s2' : mV_isNumber n (nI (w y)) gV aV = some 0 := by rw [s2, b01, if_neg hk]
        simp only [bV_hs, e0, e1, e2, hs, h42, b3, s2', gd_T, lt, bd_s, reduceIte]
  · refine ⟨fun q => absurd q.1 hyK, fun _ => ?_⟩
    obtain ⟨b1, b2⟩ := a5 y (by omega) (by omega)
    obtain ⟨n1, n2, -⟩ := isS_n (n := n) (gV := gV) (aV := aV) (g := g) (a := a)
    by_cases hs : sbyt i y = 115
    · have h42' : ¬ ((115 : Int32) = 42) := by decide
      simp only [bV_hs, e0, e1, e2, hs, h42', b1, n1, gd_T, lt, bd_s, reduceIte]
    · simp only [bV_hs, e0, e1, e2, hs, h42, b1, n2, gd_T, lt, bd_s, reduceIte]
theorem hs_l (h : Vw gV aV g a v u) {i L K : Nat} {w : Nat → Nat} (hA : Arr n gV aV g a v L K w) (hi : slen i ≤ 5) (h42 : ∀ j, j < slen i → ¬ sbyt i j = 42) : ∀ m y k, y + m = slen i → m < k → ((∀ j, y ≤ j → j < slen i → j < K ∧ KM aV w i j) → lp (bV_hs n i (nI L) gV aV) k (nI y) = some (.inl ())) ∧ ((¬ ∀ j, y ≤ j → j < slen i → j < K ∧ KM aV w i j) → lp (bV_hs n i (nI L) gV aV) k (nI y) = some (.inr 0)) := by
  intro m
  induction m with
  | zero =>
    intro y k h1 h2
    refine ⟨fun _ => lp_e ?_ h2, fun q => absurd (fun j h3 h4 => by omega) q⟩
    have e : Int32.ofNat (slen i) ≤ nI y := nI_le (a := slen i) (by omega) (by omega)
    simp only [bV_hs, e, reduceIte]
  | succ m ih =>
    intro y k h1 h2
    obtain ⟨s1, s2⟩ := hs_s h hA hi (show y < slen i by omega) (h42 y (by omega))
    obtain ⟨i1, i2⟩ := ih (y + 1) (k - 1) (by omega) (by omega)
    by_cases hq : y < K ∧ KM aV w i y
    · rw [lp_s (s1 hq) (by omega)]
      refine ⟨fun q => i1 (fun j h3 h4 => q j (by omega) h4), fun q => i2 (fun h3 => q (fun j h4 h5 => ?_))⟩
      by_cases h6 : j = y
      · rw [h6]; exact hq
      · exact h3 j (by omega) h5
    · rw [lp_e (s2 hq) (by omega)]
      exact ⟨fun q => absurd (q y (Nat.le_refl _) (by omega)) hq, fun _ => rfl⟩
/-- a shape without a star, on an array -/
theorem hsp (h : Vw gV aV g a v u) {i L K : Nat} {w : Nat → Nat} (hL : L < v) (hA : Arr n gV aV g a v L K w) (hi : slen i ≤ 5) (h42 : ∀ j, j < slen i → ¬ sbyt i j = 42) (hn : 300 < n) : ((K = slen i ∧ ∀ j, j < slen i → KM aV w i j) → mV_hasShape n i (nI L) gV aV = some 1) ∧ (¬ (K = slen i ∧ ∀ j, j < slen i → KM aV w i j) → mV_hasShape n i (nI L) gV aV = some 0) := by
  obtain ⟨i1, i2⟩ := hs_l h hA hi h42 (slen i) 0 n (by omega) (by omega)
  have i1 : (∀ j, 0 ≤ j → j < slen i → j < K ∧ KM aV w i j) → lp (bV_hs n i (nI L) gV aV) n 0 = some (.inl ()) := i1
  have i2 : (¬ ∀ j, 0 ≤ j → j < slen i → j < K ∧ KM aV w i j) → lp (bV_hs n i (nI L) gV aV) n 0 = some (.inr 0) := i2
  have hz := (num_w (n := n) h hL).2
  have hK := hA.1
  rw [hs_e]
  by_cases hq : ∀ j, 0 ≤ j → j < slen i → j < K ∧ KM aV w i j
  · rw [i1 hq, jn_l, hz, hA.2.1, bd_s]
    have hKs : slen i ≤ K := by
      by_cases h0 : slen i = 0
      · omega
      · have := (hq (slen i - 1) (by omega) (by omega)).1; omega
    have e : (nI K = Int32.ofNat (slen i)) ↔ K = slen i := nI_eq (b := slen i) (by omega) (by omega)
    refine ⟨fun q => by rw [if_pos (e.mpr q.1)], fun q => ?_⟩
    rw [if_neg (fun z => q ⟨e.mp z, fun j hj => (hq j (by omega) hj).2⟩)]
  · rw [i2 hq, jn_r]
    exact ⟨fun q => absurd (fun j _ hj => ⟨by omega, q.2 j hj⟩) hq, fun _ => rfl⟩
/-- the shape sn* -/
theorem hsp21 (h : Vw gV aV g a v u) {L K : Nat} {w : Nat → Nat} (hL : L < v) (hA : Arr n gV aV g a v L K w) (hn : 300 < n) : ((2 ≤ K ∧ KM aV w 21 0 ∧ KM aV w 21 1) → mV_hasShape n 21 (nI L) gV aV = some 1) ∧ (¬ (2 ≤ K ∧ KM aV w 21 0 ∧ KM aV w 21 1) → mV_hasShape n 21 (nI L) gV aV = some 0) := by
  have l : slen 21 = 3 := by decide +kernel
  have b0 : ¬ sbyt 21 0 = 42 := by decide +kernel
  have b1 : ¬ sbyt 21 1 = 42 := by decide +kernel
  have b2 : sbyt 21 2 = 42 := by decide +kernel
  obtain ⟨s1, s2⟩ := hs_s (y := 0) h hA (by omega) (by omega) b0
  obtain ⟨t1, t2⟩ := hs_s (y := 1) h hA (by omega) (by omega) b1
  have s2 : _ → bV_hs n 21 (nI L) gV aV 0 = some (.inr (.inr 0)) := s2
  have s1 : _ → bV_hs n 21 (nI L) gV aV 0 = some (.inl (nI 1)) := s1
  have e3 : ¬ Int32.ofNat (slen 21) ≤ nI 2 := nI_ge (b := slen 21) (by omega) (by omega)
  have st : bV_hs n 21 (nI L) gV aV (nI 2) = some (.inr (.inr 1)) := by
    have e1 : inb (nI 2) (slen 21) = true := inb_T (by omega) (by omega)
    have e2 : (nI 2).toNatClampNeg = 2 := nI_clamp (by omega)
    simp only [bV_hs, e3, e1, e2, b2, gd_T, lt, reduceIte]
  rw [hs_e]
  by_cases q0 : 0 < K ∧ KM aV w 21 0
  · rw [lp_s (s1 q0) (by omega)]
    by_cases q1 : 1 < K ∧ KM aV w 21 1
    · rw [lp_s (t1 q1) (by omega), lp_e st (by omega), jn_r]
      exact ⟨fun _ => rfl, fun q => absurd ⟨by omega, q0.2, q1.2⟩ q⟩
    · rw [lp_e (t2 q1) (by omega), jn_r]
      exact ⟨fun q => absurd ⟨by omega, q.2.2⟩ q1, fun _ => rfl⟩
  · rw [lp_e (s2 q0) (by omega), jn_r]
    exact ⟨fun q => absurd ⟨by omega, q.2.1⟩ q0, fun _ => rfl⟩
/-- no array: no shape -/
theorem hsp_n {i : Nat} {y : Int32} (hy : ∀ k, mV_item n y k gV aV = some (-1)) (hi : 1 ≤ slen i) (hi2 : slen i < 100) (h42 : ¬ sbyt i 0 = 42) (hn : 300 < n) : mV_hasShape n i y gV aV = some 0 := by
  have e0 : ¬ Int32.ofNat (slen i) ≤ 0 := nI_ge (a := 0) (b := slen i) (by omega) (by omega)
  have e1 : inb 0 (slen i) = true := inb_T (k := 0) hi (by omega)
  have e2 : (0 : Int32).toNatClampNeg = 0 := by decide
  obtain ⟨n1, n2, -⟩ := isS_n (n := n) (gV := gV) (aV := aV) (g := fun _ => 0) (a := fun _ _ => 0)
  have st : bV_hs n i y gV aV 0 = some (.inr (.inr 0)) := by
    by_cases hs : sbyt i 0 = 115
    · have h42' : ¬ ((115 : Int32) = 42) := by decide
      simp only [bV_hs, e0, e1, e2, hs, h42', hy, n1, gd_T, lt, bd_s, reduceIte]
    · simp only [bV_hs, e0, e1, e2, hs, h42, hy, n2, gd_T, lt, bd_s, reduceIte]
  rw [hs_e, lp_e st (by omega), jn_r]
/-! a document by its name -/
def NM (r : aDS) (a : aA) (s z : Nat) : Prop := r.2.1 2 = nI z ∧ ∀ j, j < z → r.2.2.1 0 j = a 8 (s + j)
def bV_nd (n : Nat) (v2 : Int32) (gD : aG) (aD : aA) (gV : aG) (aV : aA) : Int32 → Option (Int32 ⊕ Int32) := (fun x5 => if (gD 2) ≤ x5 then (some (.inr (1))) else (bd (mV_letterOf n v2 x5 gV aV) (fun x11 => gd (inb x5 4) (lt (aD 0 x5.toNatClampNeg) (fun x15 => if x11 = x15 then (some (.inl (x5 + 1))) else (some (.inr (0))))))))
theorem ndV_l (h : Vw gV aV g a v u) {w s z : Nat} {gD : aG} {aD : aA} (hw : w < v) (hT : isT aV a u w s z) (hz : z ≤ 4) (hD : gD 2 = nI z) : ∀ m y k, y + m = z → m < k → ((∀ j, y ≤ j → j < z → aD 0 j = a 8 (s + j)) → lp (bV_nd n (nI w) gD aD gV aV) k (nI y) = some 1) ∧ ((¬ ∀ j, y ≤ j → j < z → aD 0 j = a 8 (s + j)) → lp (bV_nd n (nI w) gD aD gV aV) k (nI y) = some 0) := by
  intro m
  induction m with
  | zero =>
    intro y k h1 h2
    refine ⟨fun _ => lp_e ?_ h2, fun q => absurd (fun j h3 h4 => by omega) q⟩
    have e : nI z ≤ nI y := nI_le (by omega) (by omega)
    simp only [bV_nd, hD, e, reduceIte]
  | succ m ih =>
    intro y k h1 h2
    have e : ¬ nI z ≤ nI y := nI_ge (by omega) (by omega)
    have e1 : inb (nI y) 4 = true := inb_T (by omega) (by omega)
    have e2 : (nI y).toNatClampNeg = y := nI_clamp (by omega)
    obtain ⟨l1, -⟩ := let_w (n := n) h hw hT.2.2.1 hT.2.2.2.2.2.2 (show y < z by omega)
    have hst : bV_nd n (nI w) gD aD gV aV (nI y) = if a 8 (s + y) = aD 0 y then some (.inl (nI (y + 1))) else some (.inr 0) := by
      simp only [bV_nd, hD, e, e1, e2, l1, bd_s, gd_T, lt, reduceIte, ad_L]
    obtain ⟨i1, i2⟩ := ih (y + 1) (k - 1) (by omega) (by omega)
    by_cases hq : a 8 (s + y) = aD 0 y
    · rw [if_pos hq] at hst
      rw [lp_s hst (by omega)]
      refine ⟨fun q => i1 (fun j h3 h4 => q j (by omega) h4), fun q => i2 (fun h3 => q (fun j h4 h5 => ?_))⟩
      by_cases h6 : j = y
      · rw [h6]; exact hq.symm
      · exact h3 j (by omega) h5
    · rw [if_neg hq] at hst
      rw [lp_e hst (by omega)]
      exact ⟨fun q => absurd (q y (Nat.le_refl _) (by omega)).symm hq, fun _ => rfl⟩
theorem ndV (h : Vw gV aV g a v u) {w s z T : Nat} {gD : aG} {aD : aA} (hw : w < v) (hT : isT aV a u w s z) (hD : gD 2 = nI T) (hT4 : T ≤ 4) (hn : 300 < n) : ((T = z ∧ ∀ j, j < z → aD 0 j = a 8 (s + j)) → mD_isNamed n (nI w) gD aD gV aV = some 1) ∧ (¬ (T = z ∧ ∀ j, j < z → aD 0 j = a 8 (s + j)) → mD_isNamed n (nI w) gD aD gV aV = some 0) := by
  have hz := (num_w (n := n) h hw).2
  have hu := h.2.2.1
  have t7 := hT.2.2.2.2.2.2
  have hd : mD_isNamed n (nI w) gD aD gV aV = if nI z = nI T then lp (bV_nd n (nI w) gD aD gV aV) n (nI 0) else some 0 := by
    rw [mD_isNamed, hz, hT.2.2.2.2.1, bd_s, hD]
    have e : bV_nd n (nI w) gD aD gV aV = fun x5 => if (gD 2) ≤ x5 then (some (.inr (1))) else (bd (mV_letterOf n (nI w) x5 gV aV) (fun x11 => gd (inb x5 4) (lt (aD 0 x5.toNatClampNeg) (fun x15 => if x11 = x15 then (some (.inl (x5 + 1))) else (some (.inr (0))))))) := rfl
    rw [e, hD]; rfl
  rw [hd]
  by_cases hq : T = z
  · subst hq
    obtain ⟨i1, i2⟩ := ndV_l (n := n) (aD := aD) h hw hT hT4 hD T 0 n (by omega) (by omega)
    rw [if_pos rfl]
    exact ⟨fun q => i1 (fun j _ hj => q.2 j hj), fun q => i2 (fun q2 => q ⟨rfl, fun j hj => q2 j (by omega) hj⟩)⟩
  · rw [if_neg (fun q => hq (by rw [nI_eq (by omega) (by omega)] at q; exact q.symm))]
    exact ⟨fun q => absurd q.1 hq, fun _ => rfl⟩
end VY
