/-! the loop's ways -/
def tl : aG × aA → Option (Int32 × aG × aA) := fun q10 => if (q10.1 21) = 1 then (if (q10.1 19) = 0 then (some ((1, q10.1, q10.2))) else (some ((0, q10.1, q10.2)))) else (some ((0, q10.1, q10.2)))
def Runs (n k : Nat) (g : aG) (a : aA) (k' : Nat) (g' : aG) (a' : aA) : Prop := k ≤ k' ∧ ∀ m, lp (rb n) (m + (k' - k)) (1, nI k, g, a) = lp (rb n) m (1, nI k', g', a')
def Fls (n k : Nat) (g0 g : aG) (a : aA) : Prop := ∃ j, k + j ≤ 402 ∧ ∃ p v u d e a', aF a a' ∧ ∀ m, jn (lp (rb n) (m + j) (1, nI k, g, a)) tl = some (0, rG g0 p v u d e, a')
theorem Runs.rf {n k : Nat} {g : aG} {a : aA} : Runs n k g a k g a := ⟨Nat.le_refl k, fun m => by rw [Nat.sub_self]; rfl⟩
theorem Runs.tr {n k1 k2 k3 : Nat} {g1 g2 g3 : aG} {a1 a2 a3 : aA} (h : Runs n k1 g1 a1 k2 g2 a2) (h2 : Runs n k2 g2 a2 k3 g3 a3) : Runs n k1 g1 a1 k3 g3 a3 := ⟨Nat.le_trans h.1 h2.1, fun m => by
  have e1 := h2.1
  have e2 := h.1
  rw [show m + (k3 - k1) = (m + (k3 - k2)) + (k2 - k1) by omega, h.2, h2.2]⟩
theorem Runs.fl {n k1 k2 : Nat} {g0 g1 g2 : aG} {a1 a2 : aA} (h : Runs n k1 g1 a1 k2 g2 a2) (ha : aF a1 a2) (h2 : Fls n k2 g0 g2 a2) : Fls n k1 g0 g1 a1 := by
  obtain ⟨j, hj, p, v, u, d, e, a', h3, h4⟩ := h2
  have e2 := h.1
  exact ⟨j + (k2 - k1), by omega, p, v, u, d, e, a', ha.tr h3, fun m => by rw [← Nat.add_assoc, h.2, h4]⟩
theorem Runs.st {n k : Nat} {g g' : aG} {a a' : aA} (h : rb n (1, nI k, g, a) = some (.inl (1, nI (k + 1), g', a'))) : Runs n k g a (k + 1) g' a' := ⟨by omega, fun m => by
  rw [show m + (k + 1 - k) = m + 1 by omega, lp_s h (by omega), Nat.add_sub_cancel]⟩
theorem Fls.st {n k : Nat} {g0 g : aG} {a a' : aA} {p v u d e : Nat} (hk : k ≤ 400) (ha : aF a a') (h : rb n (1, nI k, g, a) = some (.inl (0, nI (k + 1), rG g0 p v u d e, a'))) : Fls n k g0 g a := ⟨2, by omega, p, v, u, d, e, a', ha, fun m => by
  rw [lp_s h (by omega), lp_e rb_b (by omega), jn_r]⟩
theorem Fls.en {n k : Nat} {g0 g : aG} {a : aA} {p v u d e : Nat} (hk : k ≤ 400) (he : ¬ (e = 1 ∧ d = 0)) (hl : e < 10 ∧ d < 10) (h : rb n (1, nI k, g, a) = some (.inr (.inl (rG g0 p v u d e, a)))) : Fls n k g0 g a := ⟨1, by omega, p, v, u, d, e, a, aF.rf, fun m => by
  rw [lp_e h (by omega), jn_l]
  simp (disch := omega) only [tl, rG_21, rG_19, eq_L]
  by_cases h1 : e = 1
  · rw [if_pos h1, if_neg (fun h2 => he ⟨h1, h2⟩)]
  · rw [if_neg h1]⟩
/-! values as trees: children of p from s to e, k of them -/
def Tr (aV a : aA) : Nat → Int32 → Nat → Nat → Nat → Prop
  | 0, _, s, e, k => s = e ∧ k = 0
  | f + 1, p, s, e, k => (s = e ∧ k = 0) ∨ ∃ m k', k = k' + 1 ∧ s < m ∧ a 5 s = p ∧ aV 4 s = nI m ∧ (((aV 0 s = 3 ∨ aV 0 s = 4) ∧ ∃ kk, aV 3 s = nI kk ∧ Tr aV a f (nI s) (s + 1) m kk) ∨ ((¬ aV 0 s = 3) ∧ (¬ aV 0 s = 4) ∧ m = s + 1)) ∧ Tr aV a f p m e k'
theorem Tr_le {aV a : aA} : ∀ f p s e k, Tr aV a f p s e k → s + k ≤ e := by
  intro f
  induction f with
  | zero => intro p s e k h; obtain ⟨h1, h2⟩ := h; omega
  | succ f ih =>
    intro p s e k h
    rcases h with ⟨h1, h2⟩ | ⟨m, k', h1, h2, -, -, -, h3⟩
    · omega
    · have := ih _ _ _ _ h3; omega
theorem Tr_up {aV a : aA} : ∀ f p s e k, Tr aV a f p s e k → Tr aV a (f + 1) p s e k := by
  intro f
  induction f with
  | zero => intro p s e k h; exact .inl h
  | succ f ih =>
    intro p s e k h
    rcases h with h | ⟨m, k', h1, h2, h3, h4, h5, h6⟩
    · exact .inl h
    · refine .inr ⟨m, k', h1, h2, h3, h4, ?_, ih _ _ _ _ h6⟩
      rcases h5 with ⟨q1, kk, q2, q3⟩ | q
      · exact .inl ⟨q1, kk, q2, ih _ _ _ _ q3⟩
      · exact .inr q
theorem Tr_upn {aV a : aA} {f : Nat} {p : Int32} {s e k : Nat} (h : Tr aV a f p s e k) : ∀ j, Tr aV a (f + j) p s e k := by
  intro j
  induction j with
  | zero => exact h
  | succ j ih => exact Tr_up _ _ _ _ _ ih
theorem Tr_ap {aV a : aA} {f' : Nat} {e k' : Nat} : ∀ f p s m k, Tr aV a f p s m k → Tr aV a f' p m e k' → Tr aV a (f + f') p s e (k + k') := by
  intro f
  induction f with
  | zero =>
    intro p s m k h h2
    obtain ⟨h1, h3⟩ := h
    subst h1 h3
    rw [Nat.zero_add, Nat.zero_add]
    exact h2
  | succ f ih =>
    intro p s m k h h2
    rw [show f + 1 + f' = f + f' + 1 by omega]
    rcases h with ⟨h1, h3⟩ | ⟨m', k1, h1, h3, h4, h5, h6, h7⟩
    · subst h1 h3
      rw [Nat.zero_add]
      have := Tr_upn h2 (f + 1)
      rw [show f' + (f + 1) = f + f' + 1 by omega] at this
      exact this
    · refine .inr ⟨m', k1 + k', by omega, h3, h4, h5, ?_, ih _ _ _ _ h7 h2⟩
      rcases h6 with ⟨q1, kk, q2, q3⟩ | q
      · exact .inl ⟨q1, kk, q2, Tr_upn q3 f'⟩
      · exact .inr q
theorem Tr_c {aV a aV' a' : aA} : ∀ f p s e k, (∀ i, s ≤ i → i < e → aV' 0 i = aV 0 i ∧ aV' 3 i = aV 3 i ∧ aV' 4 i = aV 4 i ∧ a' 5 i = a 5 i) → Tr aV a f p s e k → Tr aV' a' f p s e k := by
  intro f
  induction f with
  | zero => intro p s e k _ h; exact h
  | succ f ih =>
    intro p s e k hc h
    rcases h with h | ⟨m, k', h1, h2, h3, h4, h5, h6⟩
    · exact .inl h
    · have hme := Tr_le _ _ _ _ _ h6
      obtain ⟨c0, c3, c4, c5⟩ := hc s (Nat.le_refl s) (by omega)
      refine .inr ⟨m, k', h1, h2, c5.trans h3, c4.trans h4, ?_, ih _ _ _ _ (fun i h8 h9 => hc i (by omega) h9) h6⟩
      rcases h5 with ⟨q1, kk, q2, q3⟩ | ⟨q1, q2, q3⟩
      · exact .inl ⟨by rw [c0]; exact q1, kk, c3.trans q2, ih _ _ _ _ (fun i h8 h9 => hc i (by omega) (by omega)) q3⟩
      · exact .inr ⟨by rw [c0]; exact q1, by rw [c0]; exact q2, q3⟩
/-! the same values on both sides -/
def vR (aV a : aA) (u i : Nat) : Prop := ∃ kd : Nat, kd ≤ 4 ∧ aV 0 i = nI kd ∧ a 1 i = nI kd ∧ (kd = 1 → aV 1 i = a 2 i ∧ rg (a 2 i)) ∧ (kd = 2 → ∃ s z : Nat, aV 2 i = nI s ∧ a 3 i = nI s ∧ aV 3 i = nI z ∧ a 4 i = nI z ∧ s + z ≤ u)
def nmR (aV a : aA) (u i : Nat) : Prop := ∃ s z : Nat, aV 5 i = nI s ∧ a 6 i = nI s ∧ aV 6 i = nI z ∧ a 7 i = nI z ∧ s + z ≤ u
def Sim (aV a : aA) (v u : Nat) : Prop := (∀ i, i < v → vR aV a u i) ∧ (∀ i, i < v → a 5 i = 0 → a 1 0 = 4 → nmR aV a u i) ∧ ∀ i, i < u → aV 7 i = a 8 i ∧ chr (a 8 i)
def kpV (aV aV' : aA) (v u : Nat) : Prop := (∀ j, j < 7 → ∀ i, i < v → aV' j i = aV j i) ∧ (∀ i, i < u → aV' 7 i = aV 7 i) ∧ aV' 8 = aV 8
def kpM (a a' : aA) (v u d : Nat) : Prop := (∀ j, 1 ≤ j → j ≤ 7 → ∀ i, i < v → a' j i = a j i) ∧ (∀ i, i < u → a' 8 i = a 8 i) ∧ (∀ i, i < d → a' 9 i = a 9 i) ∧ aF a a'
theorem kpV.rf {aV : aA} {v u : Nat} : kpV aV aV v u := ⟨fun _ _ _ _ => rfl, fun _ _ => rfl, rfl⟩
theorem kpM.rf {a : aA} {v u d : Nat} : kpM a a v u d := ⟨fun _ _ _ _ _ => rfl, fun _ _ => rfl, fun _ _ => rfl, aF.rf⟩
theorem kpV.tr {a1 a2 a3 : aA} {v u v' u' : Nat} (h : kpV a1 a2 v u) (h2 : kpV a2 a3 v' u') (hv : v ≤ v') (hu : u ≤ u') : kpV a1 a3 v u := ⟨fun j hj i hi => (h2.1 j hj i (by omega)).trans (h.1 j hj i hi), fun i hi => (h2.2.1 i (by omega)).trans (h.2.1 i hi), h2.2.2.trans h.2.2⟩
theorem kpM.tr {a1 a2 a3 : aA} {v u d v' u' d' : Nat} (h : kpM a1 a2 v u d) (h2 : kpM a2 a3 v' u' d') (hv : v ≤ v') (hu : u ≤ u') (hd : d ≤ d') : kpM a1 a3 v u d := ⟨fun j h1 hj i hi => (h2.1 j h1 hj i (by omega)).trans (h.1 j h1 hj i hi), fun i hi => (h2.2.1 i (by omega)).trans (h.2.1 i hi), fun i hi => (h2.2.2.1 i (by omega)).trans (h.2.2.1 i hi), h.2.2.2.tr h2.2.2.2⟩
theorem vR.mv {aV a aV' a' : aA} {u u' i : Nat} (h : vR aV a u i) (hu : u ≤ u') (h1 : aV' 0 i = aV 0 i ∧ aV' 1 i = aV 1 i ∧ aV' 2 i = aV 2 i ∧ ((aV 0 i = 2) → aV' 3 i = aV 3 i)) (h2 : a' 1 i = a 1 i ∧ a' 2 i = a 2 i ∧ a' 3 i = a 3 i ∧ a' 4 i = a 4 i) : vR aV' a' u' i := by
  obtain ⟨kd, q0, q1, q2, q3, q4⟩ := h
  refine ⟨kd, q0, h1.1.trans q1, h2.1.trans q2, fun z => by rw [h1.2.1, h2.2.1]; exact q3 z, fun z => ?_⟩
  obtain ⟨s, zz, r1, r2, r3, r4, r5⟩ := q4 z
  exact ⟨s, zz, h1.2.2.1.trans r1, h2.2.2.1.trans r2, (h1.2.2.2 (by rw [q1, z]; rfl)).trans r3, h2.2.2.2.trans r4, by omega⟩
theorem nmR.mv {aV a aV' a' : aA} {u u' i : Nat} (h : nmR aV a u i) (hu : u ≤ u') (h1 : aV' 5 i = aV 5 i ∧ aV' 6 i = aV 6 i) (h2 : a' 6 i = a 6 i ∧ a' 7 i = a 7 i) : nmR aV' a' u' i := by
  obtain ⟨s, zz, r1, r2, r3, r4, r5⟩ := h
  exact ⟨s, zz, h1.1.trans r1, h2.1.trans r2, h1.2.trans r3, h2.2.trans r4, by omega⟩
