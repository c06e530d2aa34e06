/-! parts of an array or object -/
def bP (n : Nat) (rv : Int32 → aG → aA → Option (Int32 × aG × aA)) (v1 v2 v3 : Int32) : Int32 × aG × aA → Option ((Int32 × aG × aA) ⊕ (Int32 × aG × aA)) := (fun q14 => if 40 ≤ q14.1 then (some (.inr ((0, q14.2.1, q14.2.2)))) else (jn (α := aG × aA) (if v2 = 125 then (bd (mV_readMemberName n (q14.2.1 11) q14.2.1 q14.2.2) (fun q49 => if q49.1 = 0 then (some (.inr (.inr ((0, q49.2.1, q49.2.2))))) else (some (.inl (q49.2.1, q49.2.2))))) else (some (.inl (q14.2.1, q14.2.2)))) (fun q23 => bd (rv v3 q23.1 q23.2) (fun q28 => if q28.1 = 0 then (some (.inr ((0, q28.2.1, q28.2.2)))) else (gd (inb v1 40) (lt (q28.2.2 3 v1.toNatClampNeg) (fun x31 => gd (inb v1 40) (lt (va_up q28.2.2 3 (upd (q28.2.2 3) v1.toNatClampNeg (x31 + 1))) (fun a33 => bd (mV_skip n v2 q28.2.1 a33) (fun q37 => if q37.1 = 0 then (bd (mV_skip n 44 q37.2 a33) (fun q42 => if q42.1 = 0 then (some (.inr ((0, q42.2, a33)))) else (some (.inl ((q14.1 + 1), q42.2, a33))))) else (some (.inr ((1, q37.2, a33))))))))))))))
theorem pts_e (n : Nat) (rv : Int32 → aG → aA → Option (Int32 × aG × aA)) (v1 v2 v3 : Int32) (gV : aG) (aV : aA) : mV_readParts n rv v1 v2 v3 gV aV = if v3 ≤ 6 then (lt (va_up gV 10 ((gV 10) + 1)) (fun g2 => bd (mV_skipBlanks n g2 aV) (fun g3 => bd (mV_skip n v2 g3 aV) (fun q9 => if q9.1 = 0 then (lp (ε := Int32 × aG × aA) (bP n rv v1 v2 v3) n (0, q9.2, aV)) else (some ((1, q9.2, aV))))))) else (some ((0, gV, aV))) := rfl
def pK (n : Nat) (v1 v2 j : Int32) : Int32 × aG × aA → Option ((Int32 × aG × aA) ⊕ (Int32 × aG × aA)) := fun q28 => if q28.1 = 0 then (some (.inr ((0, q28.2.1, q28.2.2)))) else (gd (inb v1 40) (lt (q28.2.2 3 v1.toNatClampNeg) (fun x31 => gd (inb v1 40) (lt (va_up q28.2.2 3 (upd (q28.2.2 3) v1.toNatClampNeg (x31 + 1))) (fun a33 => bd (mV_skip n v2 q28.2.1 a33) (fun q37 => if q37.1 = 0 then (bd (mV_skip n 44 q37.2 a33) (fun q42 => if q42.1 = 0 then (some (.inr ((0, q42.2, a33)))) else (some (.inl ((j + 1), q42.2, a33))))) else (some (.inr ((1, q37.2, a33))))))))))
theorem bP_3 {n : Nat} {rv : Int32 → aG → aA → Option (Int32 × aG × aA)} {v1 v3 j : Int32} {G : aG} {A : aA} (hj : ¬ (40 : Int32) ≤ j) : bP n rv v1 93 v3 (j, G, A) = bd (rv v3 G A) (pK n v1 93 j) := by
  have o : ¬ ((93 : Int32) = 125) := by decide
  simp only [bP, hj, o, reduceIte, jn_l]
  rfl
theorem bP_4 {n : Nat} {rv : Int32 → aG → aA → Option (Int32 × aG × aA)} {v1 v3 j r : Int32} {G G' : aG} {A A' : aA} (hj : ¬ (40 : Int32) ≤ j) (h : mV_readMemberName n (G 11) G A = some (r, G', A')) : bP n rv v1 125 v3 (j, G, A) = if r = 0 then some (.inr (0, G', A')) else bd (rv v3 G' A') (pK n v1 125 j) := by
  by_cases hr : r = 0
  · simp only [bP, hj, h, hr, bd_s, reduceIte, jn_r]
  · simp only [bP, hj, h, hr, bd_s, reduceIte, jn_l]
    rfl
theorem pK_0 {n : Nat} {v1 v2 j : Int32} {G : aG} {A : aA} : pK n v1 v2 j (0, G, A) = some (.inr (0, G, A)) := by
  simp only [pK, reduceIte]
def szA (A : aA) (v : Nat) : aA := va_up A 3 (upd (A 3) v (A 3 v + 1))
theorem pK_c {gV : aG} {A : aA} {b : Nat → Int32} {N p w u n v j : Nat} {c : Int32} (hN : N ≤ 200) (hb : ∀ i, i < N → A 8 i = b i) (hp : p < N) (hv : v < 40) (h : b p = c) : pK n (nI v) c (nI j) (1, cG gV N p w u, A) = some (.inr (1, cG gV N (p + 1) w u, szA A v)) := by
  have e1 : inb (nI v) 40 = true := inb_T hv (by omega)
  have e2 : (nI v).toNatClampNeg = v := nI_clamp (by omega)
  have k1 := skV (gV := gV) (aV := szA A v) (b := b) (v := w) (u := u) (n := n) hN (fun i hi => hb i hi) hp h
  simp only [szA] at k1
  simp only [pK, one_ne_zero, e1, e2, gd_T, lt, k1, bd_s, reduceIte, szA]
theorem pK_m {gV : aG} {A : aA} {b : Nat → Int32} {N p w u n v j : Nat} {c : Int32} (hN : N ≤ 200) (hb : ∀ i, i < N → A 8 i = b i) (hp : p < N) (hv : v < 40) (h : ¬ b p = c) (h44 : b p = 44) : pK n (nI v) c (nI j) (1, cG gV N p w u, A) = some (.inl (nI (j + 1), cG gV N (p + 1) w u, szA A v)) := by
  have e1 : inb (nI v) 40 = true := inb_T hv (by omega)
  have e2 : (nI v).toNatClampNeg = v := nI_clamp (by omega)
  have k1 := skV0 (gV := gV) (aV := szA A v) (b := b) (v := w) (u := u) (n := n) (c := c) hN (fun i hi => hb i hi) (by omega) (fun _ => h)
  have k2 := skV (gV := gV) (aV := szA A v) (b := b) (v := w) (u := u) (n := n) hN (fun i hi => hb i hi) hp h44
  simp only [szA] at k1 k2
  simp only [pK, one_ne_zero, e1, e2, gd_T, lt, k1, k2, bd_s, reduceIte, szA, ad_L]
theorem pK_n {gV : aG} {A : aA} {b : Nat → Int32} {N p w u n v j : Nat} {c : Int32} (hN : N ≤ 200) (hb : ∀ i, i < N → A 8 i = b i) (hp : p ≤ N) (hv : v < 40) (h : p < N → ¬ b p = c ∧ ¬ b p = 44) : pK n (nI v) c (nI j) (1, cG gV N p w u, A) = some (.inr (0, cG gV N p w u, szA A v)) := by
  have e1 : inb (nI v) 40 = true := inb_T hv (by omega)
  have e2 : (nI v).toNatClampNeg = v := nI_clamp (by omega)
  have k1 := skV0 (gV := gV) (aV := szA A v) (b := b) (v := w) (u := u) (n := n) (c := c) hN (fun i hi => hb i hi) hp (fun h9 => (h h9).1)
  have k2 := skV0 (gV := gV) (aV := szA A v) (b := b) (v := w) (u := u) (n := n) (c := 44) hN (fun i hi => hb i hi) hp (fun h9 => (h h9).2)
  simp only [szA] at k1 k2
  simp only [pK, one_ne_zero, e1, e2, gd_T, lt, k1, k2, bd_s, reduceIte, szA]
theorem topd_s {d : Nat} {a : aA} : topd (d + 1) a = a 9 d := by
  unfold topd
  rw [if_neg (by omega), Nat.add_sub_cancel]
def fst4 (kd : Nat) : Nat := if kd = 3 then 2 else 4
/-- what stays while the parts of v are read: j of them are there, w values in all -/
def PI (b : Nat → Int32) (N d v kd : Nat) (t : Int32) (aV0 a0 : aA) (u0 j w u : Nat) (aV a : aA) : Prop := w ≤ 40 ∧ v + 1 + j ≤ w ∧ u0 ≤ u ∧ (∀ i, i < N → aV 8 i = b i) ∧ (∀ i, i < N → a 0 i = b i) ∧ Sim aV a w u ∧ a 9 d = nI v ∧ aV 0 v = nI kd ∧ a 1 v = nI kd ∧ aV 3 v = nI j ∧ a 5 v = t ∧ (∃ F, Tr aV a F (nI v) (v + 1) w j) ∧ kpV aV0 aV v u0 ∧ kpM a0 a v u0 d ∧ (aV 5 v = aV0 5 v ∧ aV 6 v = aV0 6 v) ∧ (a 6 v = a0 6 v ∧ a 7 v = a0 7 v)
/-- one part more -/
theorem PI.nx {b : Nat → Int32} {N d v kd : Nat} {t : Int32} {aV0 a0 : aA} {u0 j w u w1 u1 : Nat} {aV a aV1 a1 : aA} {F : Nat} (hkd : kd = 3 ∨ kd = 4) (h : PI b N d v kd t aV0 a0 u0 j w u aV a) (hw : w < w1) (hw1 : w1 ≤ 40) (hu : u ≤ u1) (hS : Sim aV1 a1 w1 u1) (k1 : kpV aV aV1 w u) (k2 : kpM a a1 w u (d + 1)) (hT : Tr aV1 a1 F (nI v) w w1 1) : PI b N d v kd t aV0 a0 u0 (j + 1) w1 u1 (szA aV1 v) a1 := by
  obtain ⟨h1, h2, h3, h4, h5, h6, h7, h8, h9, h10, h11, ⟨F0, h12⟩, h13, h14, h15, h16⟩ := h
  have z3 : aV1 3 v = nI j := (k1.1 3 (by omega) v (by omega)).trans h10
  have zz : ∀ i, i ≠ v → szA aV1 v 3 i = aV1 3 i := fun i hi => upd_ne hi
  refine ⟨hw1, by omega, by omega, ?_, ?_, ?_, ?_, ?_, ?_, ?_, ?_, ?_, ?_, ?_, ?_, ?_⟩
  · intro i hi
    show aV1 8 i = b i
    rw [k1.2.2]; exact h4 i hi
  · intro i hi
    rw [k2.2.2.2 0 (.inl rfl)]; exact h5 i hi
  · obtain ⟨s1, s2, s3⟩ := hS
    refine ⟨fun i hi => ?_, s2, s3⟩
    by_cases e : i = v
    · subst e
      have q1 : szA aV1 i 0 i = nI kd := (k1.1 0 (by omega) i (by omega)).trans h8
      obtain ⟨kd', r1, r2, r3, r4, r5⟩ := s1 i hi
      refine ⟨kd', r1, r2, r3, r4, fun e2 => ?_⟩
      have r6 : nI kd' = nI kd := r2.symm.trans q1
      rw [nI_eq (by omega) (by omega)] at r6
      omega
    · exact (s1 i hi).mv (Nat.le_refl _) ⟨rfl, rfl, rfl, fun _ => zz i e⟩ ⟨rfl, rfl, rfl, rfl⟩
  · rw [k2.2.2.1 d (by omega)]; exact h7
  · exact (k1.1 0 (by omega) v (by omega)).trans h8
  · exact (k2.1 1 (by omega) (by omega) v (by omega)).trans h9
  · show upd (aV1 3) v (aV1 3 v + 1) v = _
    rw [upd_eq, z3]; exact nI_1 j
  · exact (k2.1 5 (by omega) (by omega) v (by omega)).trans h11
  · refine ⟨F0 + F, Tr_ap F0 _ _ _ _ (Tr_c _ _ _ _ _ (fun i q1 q2 => ⟨k1.1 0 (by omega) i q2, (zz i (by omega)).trans (k1.1 3 (by omega) i q2), k1.1 4 (by omega) i q2, k2.1 5 (by omega) (by omega) i q2⟩) h12) (Tr_c (aV := aV1) (a := a1) _ _ _ _ _ (fun i q1 q2 => ⟨rfl, zz i (by omega), rfl, rfl⟩) hT)⟩
  · exact (h13.tr k1 (by omega) h3).u (j := 3) (by omega) (Nat.le_refl v)
  · exact h14.tr k2 (by omega) h3 (by omega)
  · exact ⟨(k1.1 5 (by omega) v (by omega)).trans h15.1, (k1.1 6 (by omega) v (by omega)).trans h15.2⟩
  · exact ⟨(k2.1 6 (by omega) (by omega) v (by omega)).trans h16.1, (k2.1 7 (by omega) (by omega) v (by omega)).trans h16.2⟩
