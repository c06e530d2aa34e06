def Vw (gV : aG) (aV : aA) (g : aG) (a : aA) (v u : Nat) : Prop := v ≤ 40 ∧ 1 ≤ v ∧ u ≤ 200 ∧ gV 11 = nI v ∧ gV 12 = nI u ∧ g 8 = nI v ∧ Sim aV a v u ∧ ∃ F, Tr aV a F (-1) 0 v 1
section VW
variable {gV : aG} {aV : aA} {g : aG} {a : aA} {v u n : Nat}
theorem Vw.kd (h : Vw gV aV g a v u) {w : Nat} (hw : w < v) : ∃ kd, kd ≤ 4 ∧ aV 0 w = nI kd ∧ a 1 w = nI kd ∧ (kd = 1 → aV 1 w = a 2 w ∧ rg (a 2 w)) ∧ (kd = 2 → ∃ s z : Nat, aV 2 w = nI s ∧ a 3 w = nI s ∧ aV 3 w = nI z ∧ a 4 w = nI z ∧ s + z ≤ u) := h.2.2.2.2.2.2.1.1 w hw
theorem Vw.nv (h : Vw gV aV g a v u) {w : Nat} (hw : w < v) : ¬ nI w < 0 ∧ ¬ nI v ≤ nI w ∧ inb (nI w) 40 = true ∧ inb (nI w) 41 = true ∧ (nI w).toNatClampNeg = w := by
  have := h.1
  exact ⟨nI_pos (by omega), nI_ge hw (by omega), inb_T (by omega) (by omega), inb_T (by omega) (by omega), nI_clamp (by omega)⟩
theorem neg1 : (-1 : Int32) < 0 := by decide
theorem isS_n : mV_isString n (-1) gV aV = some 0 ∧ mV_isNumber n (-1) gV aV = some 0 ∧ (∀ s, mM_isSort n (-1) s g a = some 0) ∧ (∀ i, mV_item n (-1) i gV aV = some (-1)) ∧ mV_sizeOf n (-1) gV aV = some 0 := by
  refine ⟨?_, ?_, fun s => ?_, fun i => ?_, ?_⟩
  · rw [mV_isString, if_pos neg1]
  · rw [mV_isNumber, if_pos neg1]
  · rw [mM_isSort, if_pos neg1]
  · rw [mV_item, if_pos neg1]
  · rw [mV_sizeOf, if_pos neg1]
def b01 (p : Prop) [Decidable p] : Int32 := if p then 1 else 0
theorem isS_w (h : Vw gV aV g a v u) {w kd : Nat} (hw : w < v) (hk : kd ≤ 4) (h0 : aV 0 w = nI kd) (h1 : a 1 w = nI kd) : mV_isString n (nI w) gV aV = some (b01 (kd = 2)) ∧ mV_isNumber n (nI w) gV aV = some (b01 (kd = 1)) ∧ mM_isSort n (nI w) 2 g a = some (b01 (kd = 2)) ∧ mM_isSort n (nI w) 1 g a = some (b01 (kd = 1)) ∧ mM_isSort n (nI w) 3 g a = some (b01 (kd = 3)) := by
  obtain ⟨e1, e2, e3, e4, e5⟩ := h.nv hw
  have hv := h.2.2.2.1
  have q1 : (nI kd = 1) ↔ kd = 1 := eq_L (b := 1) (by omega) (by decide)
  have q2 : (nI kd = 2) ↔ kd = 2 := eq_L (b := 2) (by omega) (by decide)
  have q3 : (nI kd = 3) ↔ kd = 3 := eq_L (b := 3) (by omega) (by decide)
  refine ⟨?_, ?_, ?_, ?_, ?_⟩
  · rw [mV_isString, if_neg e1, hv, if_neg e2, e3, gd_T, e5, lt, h0, b01]
    by_cases z : kd = 2
    · rw [if_pos (q2.mpr z), if_pos z]
    · rw [if_neg (fun h => z (q2.mp h)), if_neg z]
  · rw [mV_isNumber, if_neg e1, hv, if_neg e2, e3, gd_T, e5, lt, h0, b01]
    by_cases z : kd = 1
    · rw [if_pos (q1.mpr z), if_pos z]
    · rw [if_neg (fun h => z (q1.mp h)), if_neg z]
  · rw [mM_isSort, if_neg e1, e4, gd_T, e5, lt, h1, b01]
    by_cases z : kd = 2
    · rw [if_pos (q2.mpr z), if_pos z]
    · rw [if_neg (fun h => z (q2.mp h)), if_neg z]
  · rw [mM_isSort, if_neg e1, e4, gd_T, e5, lt, h1, b01]
    by_cases z : kd = 1
    · rw [if_pos (q1.mpr z), if_pos z]
    · rw [if_neg (fun h => z (q1.mp h)), if_neg z]
  · rw [mM_isSort, if_neg e1, e4, gd_T, e5, lt, h1, b01]
    by_cases z : kd = 3
    · rw [if_pos (q3.mpr z), if_pos z]
    · rw [if_neg (fun h => z (q3.mp h)), if_neg z]
theorem num_w (h : Vw gV aV g a v u) {w : Nat} (hw : w < v) : mV_numberOf n (nI w) gV aV = some (aV 1 w) ∧ mV_sizeOf n (nI w) gV aV = some (aV 3 w) := by
  obtain ⟨e1, e2, e3, e4, e5⟩ := h.nv hw
  have hv := h.2.2.2.1
  exact ⟨by rw [mV_numberOf, if_neg e1, hv, if_neg e2, e3, gd_T, e5]; rfl, by rw [mV_sizeOf, if_neg e1, hv, if_neg e2, e3, gd_T, e5]; rfl⟩
theorem let_w (h : Vw gV aV g a v u) {w s z i : Nat} (hw : w < v) (hs : aV 2 w = nI s) (hsz : s + z ≤ u) (hi : i < z) : mV_letterOf n (nI w) (nI i) gV aV = some (a 8 (s + i)) ∧ chr (a 8 (s + i)) := by
  obtain ⟨e1, e2, e3, e4, e5⟩ := h.nv hw
  have hv := h.2.2.2.1
  have hu := h.2.2.1
  obtain ⟨l1, l2⟩ := h.2.2.2.2.2.2.1.2.2 (s + i) (by omega)
  have e6 : nI s + nI i = nI (s + i) := nI_add s i
  have e7 : ¬ nI (s + i) < 0 := nI_pos (by omega)
  have e8 : ¬ nI u ≤ nI (s + i) := nI_ge (by omega) (by omega)
  have e9 : inb (nI (s + i)) 200 = true := inb_T (by omega) (by omega)
  have e10 : (nI (s + i)).toNatClampNeg = s + i := nI_clamp (by omega)
  refine ⟨?_, l2⟩
  simp only [mV_letterOf, e1, hv, e2, e3, e5, hs, e6, e7, h.2.2.2.2.1, e8, e9, e10, l1, (chr_k l2).2, gd_T, lt, reduceIte, jn_r]
/-- an array's items -/
theorem itm (h : Vw gV aV g a v u) {L : Nat} (hL : L < v) (h3 : aV 0 L = 3) (hn : 100 < n) : ∃ K, K ≤ 39 ∧ aV 3 L = nI K ∧ mM_items n (nI L) g a = some (nI K) ∧ (∀ i, i < K → ∃ w, L < w ∧ w < v ∧ mV_item n (nI L) (nI i) gV aV = some (nI w) ∧ mM_item n (nI L) (nI i) g a = some (nI w)) ∧ ∀ i, K ≤ i → i < 1000 → mV_item n (nI L) (nI i) gV aV = some (-1) ∧ mM_item n (nI L) (nI i) g a = some (-1) := by
  obtain ⟨p1, p2, p3, p4, p5, p6, p7, F, p8⟩ := id h
  obtain ⟨m, K, hK⟩ := Kid_of p1 p8 L hL (.inl h3)
  obtain ⟨k1, k2, k3, ⟨f, k4⟩, k5⟩ := id hK
  have hle := Tr_le _ _ _ _ _ k4
  obtain ⟨e1, e2, e3, e4, e5⟩ := h.nv hL
  refine ⟨K, by omega, k3, items_M p6 p1 hK hn, fun i hi => ?_, fun i hi hi2 => ?_⟩
  · obtain ⟨w, w1, w2, w3, w4⟩ := it_2 p4 p6 p1 f (L + 1) m K i 0 n k4 (by omega) k2 hi (by omega) (by omega)
    refine ⟨w, by omega, by omega, ?_, ?_⟩
    · have e6 : ¬ nI i < 0 := nI_pos (by omega)
      have e7 : nI i < nI K := nI_lt hi (by omega)
      rw [Nat.zero_add] at w3
      rw [mV_item, if_neg e1, p4, if_neg e2, e3, gd_T, e5, lt, h3, if_pos rfl, if_neg e6, gd_T, lt, k3, if_pos e7, lt, nI_1]
      have w3 : lp (bV_it (nI i) gV aV) n (nI (L + 1), 0) = some (nI w) := w3
      unfold bV_it at w3
      simp only [p4] at w3
      exact w3
    · show lp (bM_it (nI L) g a) n (nI i, nI L + 1) = _
      rw [nI_1]; exact w4
  · refine ⟨?_, ?_⟩
    · have e6 : ¬ nI i < 0 := nI_pos (by omega)
      have e7 : ¬ nI i < nI K := nI_nlt hi (by omega)
      rw [mV_item, if_neg e1, p4, if_neg e2, e3, gd_T, e5, lt, h3, if_pos rfl, if_neg e6, gd_T, lt, k3, if_neg e7]
    · show lp (bM_it (nI L) g a) n (nI i, nI L + 1) = _
      rw [nI_1, it_no p6 p1 f (L + 1) m K i n k4 (by omega) k2 hi (by omega) (by omega), it_sk p6 p1 (v - m) m _ (by omega) (fun w w1 w2 => k5 w w1 (by omega)) (by omega), show m + (v - m) = v by omega]
      refine lp_e ?_ (by omega)
      simp only [bM_it, p6, show nI v ≤ nI v from Int32.le_refl _, if_true]
theorem itm_no (h : Vw gV aV g a v u) {L : Nat} (hL : L < v) (h3 : ¬ aV 0 L = 3) (i : Int32) : mV_item n (nI L) i gV aV = some (-1) := by
  obtain ⟨e1, e2, e3, e4, e5⟩ := h.nv hL
  rw [mV_item, if_neg e1, h.2.2.2.1, if_neg e2, e3, gd_T, e5, lt, if_neg h3]
/-! strings held against constants -/
def eqs (f : Nat → Int32) (s z i : Nat) : Prop := z = slen i ∧ ∀ j, j < slen i → f (s + j) = sbyt i j
def bV_sm (is : Nat) (v1 v2 : Int32) (aV : aA) : Int32 → Option (Int32 ⊕ Int32) := (fun x3 => if v2 ≤ x3 then (some (.inr (1))) else (gd (inb (v1 + x3) 200) (lt (aV 7 (v1 + x3).toNatClampNeg) (fun x10 => gd (inb x3 (slen is)) (lt (sbyt is x3.toNatClampNeg) (fun x12 => if x10 = x12 then (some (.inl (x3 + 1))) else (some (.inr (0)))))))))
theorem smV_l {s i : Nat} (hs : s + slen i ≤ 200) : ∀ m y k, y + m = slen i → m < k → ((∀ j, y ≤ j → j < slen i → aV 7 (s + j) = sbyt i j) → lp (bV_sm i (nI s) (nI (slen i)) aV) k (nI y) = some 1) ∧ ((¬ ∀ j, y ≤ j → j < slen i → aV 7 (s + j) = sbyt i j) → lp (bV_sm i (nI s) (nI (slen i)) aV) k (nI y) = some 0) := by
  intro m
  induction m with
  | zero =>
    intro y k h1 h2
    refine ⟨fun _ => lp_e ?_ h2, fun h => absurd (fun j h3 h4 => by omega) h⟩
    have e : nI (slen i) ≤ nI y := nI_le (by omega) (by omega)
    simp only [bV_sm, e, if_true]
  | succ m ih =>
    intro y k h1 h2
    have e : ¬ nI (slen i) ≤ nI y := nI_ge (by omega) (by omega)
    have hst : bV_sm i (nI s) (nI (slen i)) aV (nI y) = if aV 7 (s + y) = sbyt i y then some (.inl (nI (y + 1))) else some (.inr 0) := by
      simp (disch := omega) only [bV_sm, e, nI_add, inb_T, nI_clamp, ad_L, lt, bd_s, jn_l, jn_r, gd_T, va_ap, upd_ap, reduceIte, Nat.reduceEqDiff, Nat.reduceAdd, Nat.reduceSub, Nat.reduceMul, Nat.reduceLT, Nat.reduceLeDiff, reduceCtorEq, Int32.reduceLT, Int32.reduceLE, one_ne_zero, zero_ne_one, not_true_eq_false, not_false_eq_true, true_and, and_true, if_true, if_false, ite_self, Nat.add_zero, Nat.zero_add]
    obtain ⟨i1, i2⟩ := ih (y + 1) (k - 1) (by omega) (by omega)
    by_cases hq : aV 7 (s + y) = sbyt i y
    · rw [if_pos hq] at hst
      rw [lp_s hst (by omega)]
      refine ⟨fun h => i1 (fun j h3 h4 => h j (by omega) h4), fun h => i2 (fun h3 => h (fun j h4 h5 => ?_))⟩
      by_cases h6 : j = y
      · rw [h6]; exact hq
      · exact h3 j (by omega) h5
    · rw [if_neg hq] at hst
      rw [lp_e hst (by omega)]
      exact ⟨fun h => absurd (h y (Nat.le_refl _) (by omega)) hq, fun _ => rfl⟩
theorem smV (h : Vw gV aV g a v u) {s z i : Nat} (hsz : s + z ≤ u) (hn : 300 < n) (hi : slen i < 300) : (eqs (a 8) s z i → mV_sameLetters n i (nI s) (nI z) gV aV = some 1) ∧ (¬ eqs (a 8) s z i → mV_sameLetters n i (nI s) (nI z) gV aV = some 0) := by
  have hu := h.2.2.1
  have hl := h.2.2.2.2.2.2.1.2.2
  have e0 : Int32.ofNat (slen i) = nI (slen i) := rfl
  by_cases hz : z = slen i
  · subst hz
    have e1 : nI s + nI (slen i) ≤ gV 12 := by rw [h.2.2.2.2.1, nI_add]; exact nI_le hsz (by omega)
    obtain ⟨i1, i2⟩ := smV_l (aV := aV) (s := s) (i := i) (by omega) (slen i) 0 n (by omega) (by omega)
    have hd : mV_sameLetters n i (nI s) (nI (slen i)) gV aV = lp (bV_sm i (nI s) (nI (slen i)) aV) n (nI 0) := by
      rw [mV_sameLetters, e0, if_pos rfl, if_pos e1]; rfl
    rw [hd]
    refine ⟨fun q => i1 (fun j _ hj => by rw [(hl (s + j) (by omega)).1]; exact q.2 j hj), fun q => i2 (fun q2 => q ⟨rfl, fun j hj => by rw [← (hl (s + j) (by omega)).1]; exact q2 j (by omega) hj⟩)⟩
  · refine ⟨fun q => absurd q.1 hz, fun _ => ?_⟩
    rw [mV_sameLetters, e0, if_neg (fun q => hz (by rwa [nI_eq (by omega) (by omega)] at q))]
def c6 (c : Nat → Int32) (k : Nat) : Int32 := if k = 0 then c 0 else if k = 1 then c 1 else if k = 2 then c 2 else if k = 3 then c 3 else if k = 4 then c 4 else c 5
def bM_sp (v1 v2 v3 v4 v5 v6 v7 v8 : Int32) (a : aA) : Int32 × Int32 → Option ((Int32 × Int32) ⊕ Int32) := (fun q29 => if v2 ≤ q29.2 then (gd (okz q29.1) (some (.inr (q29.1)))) else (if q29.1 = 0 then (some (.inl (0, (q29.2 + 1)))) else (gd (inb (v1 + q29.2) 201) (lt (a 8 (v1 + q29.2).toNatClampNeg) (fun x37 => jn (α := Int32) (if q29.2 = 0 then (some (.inl v3)) else (if q29.2 = 1 then (some (.inl v4)) else (if q29.2 = 2 then (some (.inl v5)) else (if q29.2 = 3 then (some (.inl v6)) else (if q29.2 = 4 then (some (.inl v7)) else (some (.inl v8))))))) (fun x40 => if x37 = x40 then (some (.inl (1, (q29.2 + 1)))) else (some (.inl (0, (q29.2 + 1))))))))))
theorem sp_0 {s L : Nat} {c : Nat → Int32} (hs : s + L ≤ 200) : ∀ m y k, y + m = L → m < k → lp (bM_sp (nI s) (nI L) (c 0) (c 1) (c 2) (c 3) (c 4) (c 5) a) k (0, nI y) = some 0 := by
  intro m
  induction m with
  | zero =>
    intro y k h1 h2
    refine lp_e ?_ h2
    have e : nI L ≤ nI y := nI_le (by omega) (by omega)
    simp only [bM_sp, e, if_true, okz_0, gd_T]
  | succ m ih =>
    intro y k h1 h2
    have e : ¬ nI L ≤ nI y := nI_ge (by omega) (by omega)
    refine (lp_s (y := (0, nI (y + 1))) ?_ (by omega)).trans (ih (y + 1) (k - 1) (by omega) (by omega))
    simp (disch := omega) only [bM_sp, e, ad_L, lt, bd_s, jn_l, jn_r, gd_T, va_ap, upd_ap, reduceIte, Nat.reduceEqDiff, Nat.reduceAdd, Nat.reduceSub, Nat.reduceMul, Nat.reduceLT, Nat.reduceLeDiff, reduceCtorEq, Int32.reduceLT, Int32.reduceLE, one_ne_zero, zero_ne_one, not_true_eq_false, not_false_eq_true, true_and, and_true, if_true, if_false, ite_self, Nat.add_zero, Nat.zero_add]
theorem sp_1 {s L : Nat} {c : Nat → Int32} (hL : L ≤ 6) (hs : s + L ≤ 200) : ∀ m y k, y + m = L → m < k → ((∀ j, y ≤ j → j < L → a 8 (s + j) = c j) → lp (bM_sp (nI s) (nI L) (c 0) (c 1) (c 2) (c 3) (c 4) (c 5) a) k (1, nI y) = some 1) ∧ ((¬ ∀ j, y ≤ j → j < L → a 8 (s + j) = c j) → lp (bM_sp (nI s) (nI L) (c 0) (c 1) (c 2) (c 3) (c 4) (c 5) a) k (1, nI y) = some 0) := by
  intro m
  induction m with
  | zero =>
    intro y k h1 h2
    refine ⟨fun _ => lp_e ?_ h2, fun h => absurd (fun j h3 h4 => by omega) h⟩
    have e : nI L ≤ nI y := nI_le (by omega) (by omega)
    simp only [bM_sp, e, if_true, okz_1, gd_T]
  | succ m ih =>
    intro y k h1 h2
    have e : ¬ nI L ≤ nI y := nI_ge (by omega) (by omega)
    have hy : y = 0 ∨ y = 1 ∨ y = 2 ∨ y = 3 ∨ y = 4 ∨ y = 5 := by omega
    have hst : bM_sp (nI s) (nI L) (c 0) (c 1) (c 2) (c 3) (c 4) (c 5) a (1, nI y) = if a 8 (s + y) = c y then some (.inl (1, nI (y + 1))) else some (.inl (0, nI (y + 1))) := by
      rcases hy with rfl | rfl | rfl | rfl | rfl | rfl <;> simp (disch := omega) only [bM_sp, e, nI_add, inb_T, nI_clamp, ad_L, eq_L, lt, bd_s, jn_l, jn_r, gd_T, va_ap, upd_ap, reduceIte, Nat.reduceEqDiff, Nat.reduceAdd, Nat.reduceSub, Nat.reduceMul, Nat.reduceLT, Nat.reduceLeDiff, reduceCtorEq, Int32.reduceLT, Int32.reduceLE, one_ne_zero, zero_ne_one, not_true_eq_false, not_false_eq_true, true_and, and_true, if_true, if_false, ite_self, Nat.add_zero, Nat.zero_add]
    obtain ⟨i1, i2⟩ := ih (y + 1) (k - 1) (by omega) (by omega)
    by_cases hq : a 8 (s + y) = c y
    · rw [if_pos hq] at hst
      rw [lp_s hst (by omega)]
      refine ⟨fun h => i1 (fun j h3 h4 => h j (by omega) h4), fun h => i2 (fun h3 => h (fun j h4 h5 => ?_))⟩
      by_cases h6 : j = y
      · rw [h6]; exact hq
      · exact h3 j (by omega) h5
    · rw [if_neg hq] at hst
      rw [lp_s hst (by omega), sp_0 hs m (y + 1) (k - 1) (by omega) (by omega)]
      exact ⟨fun h => absurd (h y (Nat.le_refl _) (by omega)) hq, fun _ => rfl⟩
theorem spelM {s z L : Nat} {c : Nat → Int32} (hL : L ≤ 6) (h1 : ∀ k, k < L → ¬ c k ≤ 0) (h0 : ∀ k, L ≤ k → k < 6 → c k ≤ 0) (hs : s + z ≤ 200) (hn : 300 < n) : ((z = L ∧ ∀ j, j < L → a 8 (s + j) = c j) → mM_spells n (nI s) (nI z) (c 0) (c 1) (c 2) (c 3) (c 4) (c 5) g a = some 1) ∧ (¬ (z = L ∧ ∀ j, j < L → a 8 (s + j) = c j) → mM_spells n (nI s) (nI z) (c 0) (c 1) (c 2) (c 3) (c 4) (c 5) g a = some 0) := by
  have hd : mM_spells n (nI s) (nI z) (c 0) (c 1) (c 2) (c 3) (c 4) (c 5) g a = if nI z = nI L then lp (bM_sp (nI s) (nI z) (c 0) (c 1) (c 2) (c 3) (c 4) (c 5) a) n (1, 0) else some 0 := by
    have hy : L = 0 ∨ L = 1 ∨ L = 2 ∨ L = 3 ∨ L = 4 ∨ L = 5 ∨ L = 6 := by omega
    have f : ∀ k, k < 6 → (if c k ≤ 0 then (some (.inl 0) : Option (Int32 ⊕ Int32)) else some (.inl 1)) = some (.inl (if k < L then 1 else 0)) := fun k hk => by
      by_cases hkL : k < L
      · rw [if_neg (h1 k hkL), if_pos hkL]
      · rw [if_pos (h0 k (by omega) hk), if_neg hkL]
    rw [mM_spells, f 0 (by omega), jn_l, f 1 (by omega), jn_l, f 2 (by omega), jn_l, f 3 (by omega), jn_l, f 4 (by omega), jn_l, f 5 (by omega), jn_l]
    rcases hy with rfl | rfl | rfl | rfl | rfl | rfl | rfl <;> rfl
  rw [hd]
  by_cases hz : z = L
  · subst hz
    rw [if_pos rfl]
    obtain ⟨i1, i2⟩ := sp_1 (a := a) (c := c) hL hs z 0 n (by omega) (by omega)
    exact ⟨fun q => i1 (fun j _ hj => q.2 j hj), fun q => i2 (fun q2 => q ⟨rfl, fun j hj => q2 j (by omega) hj⟩)⟩
  · rw [if_neg (fun q => hz (by rwa [nI_eq (by omega) (by omega)] at q))]
    exact ⟨fun q => absurd q.1 hz, fun _ => rfl⟩
end VW
