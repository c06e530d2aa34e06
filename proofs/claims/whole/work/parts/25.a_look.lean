/-! looking values up -/
theorem Tr_0 {aV a : aA} : ∀ f p s e, Tr aV a f p s e 0 → s = e := by
  intro f p s e h
  cases f with
  | zero => exact h.1
  | succ f =>
    rcases h with h | ⟨m, k', h1, -⟩
    · exact h.1
    · omega
theorem Tr_in {aV a : aA} : ∀ f p s e k, Tr aV a f p s e k → ∀ w, s ≤ w → w < e → a 5 w = p ∨ ∃ y, s ≤ y ∧ y < w ∧ a 5 w = nI y := by
  intro f
  induction f with
  | zero => intro p s e k h w h1 h2; obtain ⟨h3, -⟩ := h; omega
  | succ f ih =>
    intro p s e k h w h1 h2
    rcases h with ⟨h3, -⟩ | ⟨m, k', q1, q2, q3, q4, q5, q6⟩
    · omega
    · by_cases hw : w = s
      · subst hw; exact .inl q3
      by_cases hm : w < m
      · rcases q5 with ⟨r1, kk, r2, r3⟩ | ⟨r1, r2, r3⟩
        · rcases ih _ _ _ _ r3 w (by omega) hm with r4 | ⟨y, r4, r5, r6⟩
          · exact .inr ⟨s, by omega, by omega, r4⟩
          · exact .inr ⟨y, by omega, r5, r6⟩
        · omega
      · rcases ih _ _ _ _ q6 w (by omega) h2 with r4 | ⟨y, r4, r5, r6⟩
        · exact .inl r4
        · exact .inr ⟨y, by omega, r5, r6⟩
/-- the parts of a container L: from L + 1 to m, and none behind -/
def Kid (aV a : aA) (v L m K : Nat) : Prop := L < m ∧ m ≤ v ∧ aV 3 L = nI K ∧ (∃ f, Tr aV a f (nI L) (L + 1) m K) ∧ ∀ w, m ≤ w → w < v → ¬ a 5 w = nI L
theorem Tr_out {aV a : aA} {v : Nat} (hv : v ≤ 40) : ∀ f p s e k, Tr aV a f p s e k → e ≤ v → (∀ y, s ≤ y → y < 100 → ¬ p = nI y) → (∀ w, e ≤ w → w < v → ∀ y, s ≤ y → y < e → ¬ a 5 w = nI y) → ∀ L, s ≤ L → L < e → (aV 0 L = 3 ∨ aV 0 L = 4) → ∃ m K, Kid aV a v L m K := by
  intro f
  induction f with
  | zero => intro p s e k h _ _ _ L h1 h2; obtain ⟨h3, -⟩ := h; omega
  | succ f ih =>
    intro p s e k h he hp hout L h1 h2 hL
    rcases h with ⟨h3, -⟩ | ⟨m, k', q1, q2, q3, q4, q5, q6⟩
    · omega
    · have hme := Tr_le _ _ _ _ _ q6
      have behind : ∀ w, m ≤ w → w < v → ∀ y, s ≤ y → y < m → ¬ a 5 w = nI y := by
        intro w w1 w2 y y1 y2 hz
        by_cases hwe : w < e
        · rcases Tr_in _ _ _ _ _ q6 w w1 hwe with r4 | ⟨x, r4, r5, r6⟩
          · exact hp y y1 (by omega) (r4.symm.trans hz)
          · have := r6.symm.trans hz
            rw [nI_eq (by omega) (by omega)] at this
            omega
        · exact hout w (by omega) w2 y y1 (by omega) hz
      by_cases hLs : L = s
      · subst hLs
        rcases q5 with ⟨r1, kk, r2, r3⟩ | ⟨r1, r2, r3⟩
        · exact ⟨m, kk, q2, by omega, r2, ⟨f, r3⟩, fun w w1 w2 => behind w w1 w2 L (Nat.le_refl L) q2⟩
        · rcases hL with hL | hL
          · exact absurd hL r1
          · exact absurd hL r2
      by_cases hLm : L < m
      · rcases q5 with ⟨r1, kk, r2, r3⟩ | ⟨r1, r2, r3⟩
        · refine ih _ _ _ _ r3 (by omega) (fun y y1 y2 h => ?_) (fun w w1 w2 y y1 y2 => behind w w1 w2 y (by omega) y2) L (by omega) hLm hL
          rw [nI_eq (by omega) (by omega)] at h
          omega
        · omega
      · exact ih _ _ _ _ q6 he (fun y y1 y2 => hp y (by omega) y2) (fun w w1 w2 y y1 y2 => hout w w1 w2 y (by omega) y2) L (by omega) h2 hL
theorem Kid_of {aV a : aA} {F v : Nat} (hv : v ≤ 40) (h : Tr aV a F (-1) 0 v 1) : ∀ L, L < v → (aV 0 L = 3 ∨ aV 0 L = 4) → ∃ m K, Kid aV a v L m K := by
  intro L h1 h2
  refine Tr_out hv F _ 0 v 1 h (Nat.le_refl v) (fun y _ y2 hz => ?_) (fun w w1 w2 => by omega) L (by omega) h1 h2
  have := congrArg Int32.toInt hz
  rw [nI_toInt (by omega)] at this
  have h4 : (-1 : Int32).toInt = -1 := by decide
  omega
def bM_it (v1 : Int32) (g : aG) (a : aA) : Int32 × Int32 → Option ((Int32 × Int32) ⊕ Int32) := (fun q4 => if (g 8) ≤ q4.2 then (some (.inr ((-1)))) else (gd (inb q4.2 41) (lt (a 5 q4.2.toNatClampNeg) (fun x10 => if x10 = v1 then (if q4.1 = 0 then (some (.inr (q4.2))) else (some (.inl ((q4.1 + (-1)), (q4.2 + 1))))) else (some (.inl (q4.1, (q4.2 + 1))))))))
def bM_its (v1 : Int32) (g : aG) (a : aA) : Int32 × Int32 → Option ((Int32 × Int32) ⊕ Int32) := (fun q4 => if (g 8) ≤ q4.2 then (some (.inr (q4.1))) else (gd (inb q4.2 41) (lt (a 5 q4.2.toNatClampNeg) (fun x10 => if x10 = v1 then (lt ((q4.1 + 1)) (fun x13 => some (.inl (x13, (q4.2 + 1))))) else (lt ((q4.1 + 0)) (fun x12 => some (.inl (x12, (q4.2 + 1)))))))))
def bV_it (v2 : Int32) (gV : aG) (aV : aA) : Int32 × Int32 → Option ((Int32 × Int32) ⊕ Int32) := (fun q13 => if v2 ≤ q13.2 then (some (.inr (q13.1))) else (if (gV 11) ≤ q13.1 then (some (.inr (q13.1))) else (gd (inb q13.1 40) (lt (aV 4 q13.1.toNatClampNeg) (fun x20 => some (.inl (x20, (q13.2 + 1))))))))
theorem lp_mono {ε β : Type} {body : ε → Option (ε ⊕ β)} {q : β} : ∀ {n : Nat} {y : ε} {m : Nat}, lp body n y = some q → n ≤ m → lp body m y = some q := by
  intro n
  induction n with
  | zero => intro y m h; cases h
  | succ n ih =>
    intro y m h hm
    cases m with
    | zero => omega
    | succ m =>
      cases hb : body y with
      | none => simp [lp, hb] at h
      | some r =>
        cases r with
        | inl z =>
          simp only [lp, hb] at h ⊢
          exact ih h (by omega)
        | inr z => simpa [lp, hb] using h
theorem it_sk {g : aG} {a : aA} {v L : Nat} {c : Int32} (hg : g 8 = nI v) (hv : v ≤ 40) : ∀ m s n, s + m ≤ v → (∀ w, s ≤ w → w < s + m → ¬ a 5 w = nI L) → m < n → lp (bM_it (nI L) g a) n (c, nI s) = lp (bM_it (nI L) g a) (n - m) (c, nI (s + m)) := by
  intro m
  induction m with
  | zero => intro s n _ _ _; rfl
  | succ m ih =>
    intro s n h1 h2 h3
    have h4 := h2 s (Nat.le_refl s) (by omega)
    rw [lp_s (y := (c, nI (s + 1))) ?_ (by omega), ih (s + 1) (n - 1) (by omega) (fun w w1 w2 => h2 w (by omega) (by omega)) (by omega)]
    · rw [show s + 1 + m = s + (m + 1) by omega, show n - 1 - m = n - (m + 1) by omega]
    · have e1 : ¬ nI v ≤ nI s := nI_ge (by omega) (by omega)
      simp (disch := omega) only [bM_it, hg, e1, h4, inb_T, nI_clamp, ad_L, lt, bd_s, jn_l, jn_r, gd_T, va_ap, upd_ap, reduceIte, Nat.reduceEqDiff, Nat.reduceAdd, Nat.reduceSub, Nat.reduceMul, Nat.reduceLT, Nat.reduceLeDiff, reduceCtorEq, Int32.reduceLT, Int32.reduceLE, one_ne_zero, zero_ne_one, not_true_eq_false, not_false_eq_true, true_and, and_true, if_true, if_false, ite_self, Nat.add_zero, Nat.zero_add]
theorem its_sk {g : aG} {a : aA} {v L : Nat} {c : Nat} (hg : g 8 = nI v) (hv : v ≤ 40) : ∀ m s n, s + m ≤ v → (∀ w, s ≤ w → w < s + m → ¬ a 5 w = nI L) → m < n → lp (bM_its (nI L) g a) n (nI c, nI s) = lp (bM_its (nI L) g a) (n - m) (nI c, nI (s + m)) := by
  intro m
  induction m with
  | zero => intro s n _ _ _; rfl
  | succ m ih =>
    intro s n h1 h2 h3
    have h4 := h2 s (Nat.le_refl s) (by omega)
    rw [lp_s (y := (nI c, nI (s + 1))) ?_ (by omega), ih (s + 1) (n - 1) (by omega) (fun w w1 w2 => h2 w (by omega) (by omega)) (by omega)]
    · rw [show s + 1 + m = s + (m + 1) by omega, show n - 1 - m = n - (m + 1) by omega]
    · have e1 : ¬ nI v ≤ nI s := nI_ge (by omega) (by omega)
      simp (disch := omega) only [bM_its, hg, e1, h4, inb_T, nI_clamp, ad_L, lt, bd_s, jn_l, jn_r, gd_T, va_ap, upd_ap, reduceIte, Nat.reduceEqDiff, Nat.reduceAdd, Nat.reduceSub, Nat.reduceMul, Nat.reduceLT, Nat.reduceLeDiff, reduceCtorEq, Int32.reduceLT, Int32.reduceLE, one_ne_zero, zero_ne_one, not_true_eq_false, not_false_eq_true, true_and, and_true, if_true, if_false, ite_self, Nat.add_zero, Nat.zero_add]
/-- inside a child there is no other child -/
theorem Tr_gap {aV a : aA} {f s m L : Nat} (hL : L < s) (hm : m ≤ 40) (h : (((aV 0 s = 3 ∨ aV 0 s = 4) ∧ ∃ kk, aV 3 s = nI kk ∧ Tr aV a f (nI s) (s + 1) m kk) ∨ ((¬ aV 0 s = 3) ∧ (¬ aV 0 s = 4) ∧ m = s + 1))) : ∀ w, s + 1 ≤ w → w < m → ¬ a 5 w = nI L := by
  intro w w1 w2 hz
  rcases h with ⟨-, kk, -, h3⟩ | ⟨-, -, h3⟩
  · rcases Tr_in _ _ _ _ _ h3 w w1 w2 with r4 | ⟨y, r4, r5, r6⟩
    · have := r4.symm.trans hz
      rw [nI_eq (by omega) (by omega)] at this
      omega
    · have := r6.symm.trans hz
      rw [nI_eq (by omega) (by omega)] at this
      omega
  · omega
theorem its_2 {aV a : aA} {g : aG} {v L : Nat} (hg : g 8 = nI v) (hv : v ≤ 40) : ∀ f s e k c n, Tr aV a f (nI L) s e k → L < s → e ≤ v → e - s < n → lp (bM_its (nI L) g a) n (nI c, nI s) = lp (bM_its (nI L) g a) (n - (e - s)) (nI (c + k), nI e) := by
  intro f
  induction f with
  | zero =>
    intro s e k c n h h1 h2 h3
    obtain ⟨q1, q2⟩ := h
    subst q1 q2
    rw [Nat.sub_self]; rfl
  | succ f ih =>
    intro s e k c n h h1 h2 h3
    rcases h with ⟨q1, q2⟩ | ⟨m, k', q1, q2, q3, q4, q5, q6⟩
    · subst q1 q2
      rw [Nat.sub_self]; rfl
    · have hme := Tr_le _ _ _ _ _ q6
      have e1 : ¬ nI v ≤ nI s := nI_ge (by omega) (by omega)
      rw [lp_s (y := (nI (c + 1), nI (s + 1))) ?_ (by omega), its_sk hg hv (m - (s + 1)) (s + 1) (n - 1) (by omega) (fun w w1 w2 => Tr_gap h1 (by omega) q5 w w1 (by omega)) (by omega), show s + 1 + (m - (s + 1)) = m by omega, ih m e k' (c + 1) _ q6 (by omega) h2 (by omega), q1, show c + 1 + k' = c + (k' + 1) by omega, show n - 1 - (m - (s + 1)) - (e - m) = n - (e - s) by omega]
      simp (disch := omega) only [bM_its, hg, e1, q3, inb_T, nI_clamp, ad_L, lt, bd_s, jn_l, jn_r, gd_T, va_ap, upd_ap, reduceIte, Nat.reduceEqDiff, Nat.reduceAdd, Nat.reduceSub, Nat.reduceMul, Nat.reduceLT, Nat.reduceLeDiff, reduceCtorEq, Int32.reduceLT, Int32.reduceLE, one_ne_zero, zero_ne_one, not_true_eq_false, not_false_eq_true, true_and, and_true, if_true, if_false, ite_self, Nat.add_zero, Nat.zero_add]
theorem items_M {aV a : aA} {g : aG} {v L m K n : Nat} (hg : g 8 = nI v) (hv : v ≤ 40) (h : Kid aV a v L m K) (hn : 100 < n) : mM_items n (nI L) g a = some (nI K) := by
  obtain ⟨h1, h2, h3, ⟨f, h4⟩, h5⟩ := h
  show lp (bM_its (nI L) g a) n (nI 0, nI L + 1) = _
  rw [show nI L + 1 = nI (L + 1) from nI_1 L, its_2 hg hv f (L + 1) m K 0 n h4 (by omega) h2 (by omega), its_sk hg hv (v - m) m _ (by omega) (fun w w1 w2 => h5 w w1 (by omega)) (by omega), show m + (v - m) = v by omega, Nat.zero_add]
  refine lp_e ?_ (by omega)
  simp only [bM_its, hg, show nI v ≤ nI v from Int32.le_refl _, if_true]
theorem it_2 {aV a : aA} {gV g : aG} {v L : Nat} (hgV : gV 11 = nI v) (hg : g 8 = nI v) (hv : v ≤ 40) : ∀ f s e k i j n, Tr aV a f (nI L) s e k → L < s → e ≤ v → i < k → e - s < n → j + i < 1000 → ∃ w, s ≤ w ∧ w < e ∧ lp (bV_it (nI (j + i)) gV aV) n (nI s, nI j) = some (nI w) ∧ lp (bM_it (nI L) g a) n (nI i, nI s) = some (nI w) := by
  intro f
  induction f with
  | zero =>
    intro s e k i j n h h1 h2 h3
    obtain ⟨q1, q2⟩ := h
    omega
  | succ f ih =>
    intro s e k i j n h h1 h2 h3 h4 h5
    rcases h with ⟨q1, q2⟩ | ⟨m, k', q1, q2, q3, q4, q5, q6⟩
    · omega
    · have hme := Tr_le _ _ _ _ _ q6
      have e1 : ¬ nI v ≤ nI s := nI_ge (by omega) (by omega)
      by_cases hi : i = 0
      · subst hi
        have e2 : nI j ≤ nI j := Int32.le_refl _
        refine ⟨s, Nat.le_refl s, by omega, lp_e ?_ (by omega), lp_e ?_ (by omega)⟩
        · simp only [bV_it, Nat.add_zero, e2, if_true]
        · have e3 : nI 0 = 0 := rfl
          simp (disch := omega) only [bM_it, hg, e1, q3, inb_T, nI_clamp, if_pos e3, lt, bd_s, jn_l, jn_r, gd_T, va_ap, upd_ap, reduceIte, Nat.reduceEqDiff, Nat.reduceAdd, Nat.reduceSub, Nat.reduceMul, Nat.reduceLT, Nat.reduceLeDiff, reduceCtorEq, Int32.reduceLT, Int32.reduceLE, one_ne_zero, zero_ne_one, not_true_eq_false, not_false_eq_true, true_and, and_true, if_true, if_false, ite_self, Nat.add_zero, Nat.zero_add]
      · obtain ⟨w, w1, w2, w3, w4⟩ := ih m e k' (i - 1) (j + 1) (n - (m - s)) q6 (by omega) h2 (by omega) (by omega) (by omega)
        have e4 : ¬ nI (j + i) ≤ nI j := nI_ge (by omega) (by omega)
        have e5 : ¬ nI i = 0 := nI_ne0 (by omega) (by omega)
        refine ⟨w, by omega, w2, ?_, ?_⟩
        · have hst : lp (bV_it (nI (j + i)) gV aV) n (nI s, nI j) = lp (bV_it (nI (j + i)) gV aV) (n - 1) (nI m, nI (j + 1)) := by
            refine lp_s ?_ (by omega)
            simp (disch := omega) only [bV_it, hgV, e4, e1, q4, inb_T, nI_clamp, ad_L, lt, bd_s, jn_l, jn_r, gd_T, va_ap, upd_ap, reduceIte, Nat.reduceEqDiff, Nat.reduceAdd, Nat.reduceSub, Nat.reduceMul, Nat.reduceLT, Nat.reduceLeDiff, reduceCtorEq, Int32.reduceLT, Int32.reduceLE, one_ne_zero, zero_ne_one, not_true_eq_false, not_false_eq_true, true_and, and_true, if_true, if_false, ite_self, Nat.add_zero, Nat.zero_add]
          rw [hst]
          rw [show j + 1 + (i - 1) = j + i by omega] at w3
          exact lp_mono w3 (by omega)
        · rw [lp_s (y := (nI (i - 1), nI (s + 1))) ?_ (by omega), it_sk hg hv (m - (s + 1)) (s + 1) (n - 1) (by omega) (fun w w1 w2 => Tr_gap h1 (by omega) q5 w w1 (by omega)) (by omega), show s + 1 + (m - (s + 1)) = m by omega, show n - 1 - (m - (s + 1)) = n - (m - s) by omega]
          · exact w4
          · simp (disch := omega) only [bM_it, hg, e1, q3, e5, inb_T, nI_clamp, ad_L, nI_m1 (show 1 ≤ i by omega), lt, bd_s, jn_l, jn_r, gd_T, va_ap, upd_ap, reduceIte, Nat.reduceEqDiff, Nat.reduceAdd, Nat.reduceSub, Nat.reduceMul, Nat.reduceLT, Nat.reduceLeDiff, reduceCtorEq, Int32.reduceLT, Int32.reduceLE, one_ne_zero, zero_ne_one, not_true_eq_false, not_false_eq_true, true_and, and_true, if_true, if_false, ite_self, Nat.add_zero, Nat.zero_add]
theorem it_no {aV a : aA} {g : aG} {v L : Nat} (hg : g 8 = nI v) (hv : v ≤ 40) : ∀ f s e k i n, Tr aV a f (nI L) s e k → L < s → e ≤ v → k ≤ i → i < 2 ^ 31 → e - s < n → lp (bM_it (nI L) g a) n (nI i, nI s) = lp (bM_it (nI L) g a) (n - (e - s)) (nI (i - k), nI e) := by
  intro f
  induction f with
  | zero =>
    intro s e k i n h h1 h2 h3 h4 h5
    obtain ⟨q1, q2⟩ := h
    subst q1 q2
    rw [Nat.sub_self]; rfl
  | succ f ih =>
    intro s e k i n h h1 h2 h3 h4 h5
    rcases h with ⟨q1, q2⟩ | ⟨m, k', q1, q2, q3, q4, q5, q6⟩
    · subst q1 q2
      rw [Nat.sub_self]; rfl
    · have hme := Tr_le _ _ _ _ _ q6
      have e1 : ¬ nI v ≤ nI s := nI_ge (by omega) (by omega)
      have e5 : ¬ nI i = 0 := nI_ne0 (by omega) (by omega)
      rw [lp_s (y := (nI (i - 1), nI (s + 1))) ?_ (by omega), it_sk hg hv (m - (s + 1)) (s + 1) (n - 1) (by omega) (fun w w1 w2 => Tr_gap h1 (by omega) q5 w w1 (by omega)) (by omega), show s + 1 + (m - (s + 1)) = m by omega, ih m e k' (i - 1) _ q6 (by omega) h2 (by omega) (by omega) (by omega), show i - 1 - k' = i - k by omega, show n - 1 - (m - (s + 1)) - (e - m) = n - (e - s) by omega]
      simp (disch := omega) only [bM_it, hg, e1, q3, e5, inb_T, nI_clamp, ad_L, nI_m1 (show 1 ≤ i by omega), lt, bd_s, jn_l, jn_r, gd_T, va_ap, upd_ap, reduceIte, Nat.reduceEqDiff, Nat.reduceAdd, Nat.reduceSub, Nat.reduceMul, Nat.reduceLT, Nat.reduceLeDiff, reduceCtorEq, Int32.reduceLT, Int32.reduceLE, one_ne_zero, zero_ne_one, not_true_eq_false, not_false_eq_true, true_and, and_true, if_true, if_false, ite_self, Nat.add_zero, Nat.zero_add]
