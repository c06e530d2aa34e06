def tlV (n : Nat) (gE : aG) (aE : aA) (gV : aG) (aV : aA) (gN : aG) (aN : aA) (gS : aG) (aS : aA) (gZ : aG) (aZ : aA) (dP : aP) (gQ : aG) (aQ : aA) (dO : aP) : Option (aG × aG × aA × aG × aA × aG × aG × aA × aP × aG × aP) := (bd (mV_member n 3 gV aV) (fun x7 => bd (mV_member n 4 gV aV) (fun x10 => bd (mV_isNumber n x7 gV aV) (fun x13 => bd (mV_isString n x10 gV aV) (fun x16 => jn (α := aG × aG × aA × aG × aP) (if x16 = 0 then (some (.inl (gE, gN, aN, gQ, dO))) else (if x13 = 0 then (some (.inl (gE, gN, aN, gQ, dO))) else (bd (mV_numberOf n x7 gV aV) (fun x69 => bd (mE_answerRequest n x69 x10 gE aE gV aV gN aN gS aS gZ aZ dP gQ aQ dO) (fun q78 => some (.inr ((q78.1, gV, aV, q78.2.1, q78.2.2.1, gS, gZ, aZ, dP, q78.2.2.2.1, q78.2.2.2.2)))))))) (fun q26 => bd (mV_isString n x10 gV aV) (fun x27 => jn (α := aG × aG × aA × aG × aG × aA × aP × aG × aP) (if x27 = 0 then (some (.inl (q26.1, q26.2.1, q26.2.2.1, gS, gZ, aZ, dP, q26.2.2.2.1, q26.2.2.2.2))) else (if x7 = (-1) then (bd (mE_takeNotification n x10 q26.1 aE gV aV q26.2.1 q26.2.2.1 gS aS gZ aZ dP q26.2.2.2.1 aQ q26.2.2.2.2) (fun q66 => some (.inr ((q66.1, gV, aV, q66.2.1, q66.2.2.1, q66.2.2.2.1, q66.2.2.2.2.1, q66.2.2.2.2.2.1, q66.2.2.2.2.2.2.1, q66.2.2.2.2.2.2.2.1, q66.2.2.2.2.2.2.2.2))))) else (some (.inl (q26.1, q26.2.1, q26.2.2.1, gS, gZ, aZ, dP, q26.2.2.2.1, q26.2.2.2.2))))) (fun q41 => if x13 = 0 then (bd (mN_addErrorWithoutId n (-32600) q41.2.1 q41.2.2.1) (fun q46 => some ((q41.1, gV, aV, q46.1, q46.2, q41.2.2.2.1, q41.2.2.2.2.1, q41.2.2.2.2.2.1, q41.2.2.2.2.2.2.1, q41.2.2.2.2.2.2.2.1, q41.2.2.2.2.2.2.2.2)))) else (bd (mV_numberOf n x7 gV aV) (fun x47 => bd (mN_addError n x47 (-32600) q41.2.1 q41.2.2.1) (fun q53 => some ((q41.1, gV, aV, q53.1, q53.2, q41.2.2.2.1, q41.2.2.2.2.1, q41.2.2.2.2.2.1, q41.2.2.2.2.2.2.1, q41.2.2.2.2.2.2.2.1, q41.2.2.2.2.2.2.2.2)))))))))))))
theorem tlV_e (n : Nat) (gE : aG) (aE : aA) (gJ : aG) (aJ : aA) (gV : aG) (aV : aA) (gN : aG) (aN : aA) (gS : aG) (aS : aA) (gZ : aG) (aZ : aA) (dP : aP) (gQ : aG) (aQ : aA) (dO : aP) : mE_answerBody n gE aE gJ aJ gV aV gN aN gS aS gZ aZ dP gQ aQ dO = bd (mV_read n (gJ 4) gV aV) (fun q5 => if q5.1 = 0 then (bd (mN_addErrorWithoutId n (-32700) gN aN) (fun q82 => some ((gE, q5.2.1, q5.2.2, q82.1, q82.2, gS, gZ, aZ, dP, gQ, dO)))) else (tlV n gE aE q5.2.1 q5.2.2 gN aN gS aS gZ aZ dP gQ aQ dO)) := rfl
def tlM (n : Nat) (g : aG) (a : aA) : Option (aG × aA) := (gd (inb 0 41) (lt (a 1 (0 : Int32).toNatClampNeg) (fun x8 => jn (α := Int32) (if x8 = 4 then (bd (mM_member n 109 101 116 104 111 100 g a) (fun x67 => some (.inl x67))) else (some (.inl (-1)))) (fun x11 => gd (inb 0 41) (lt (a 1 (0 : Int32).toNatClampNeg) (fun x14 => jn (α := Int32) (if x14 = 4 then (bd (mM_member n 105 100 0 0 0 0 g a) (fun x63 => some (.inl x63))) else (some (.inl (-1)))) (fun x17 => bd (mM_isSort n x17 1 g a) (fun x20 => bd (mM_isSort n x11 2 g a) (fun x23 => jn (α := aG × aA) (if x23 = 0 then (some (.inl (g, a))) else (jn (α := Unit) (if x17 < 0 then (some (.inl ())) else (if x20 = 0 then (some (.inr (.inl (g, a)))) else (some (.inl ())))) (fun _ => bd (mM_member n 112 97 114 97 109 115 g a) (fun x46 => if x20 = 0 then (bd (mM_notice n x11 x46 g a) (fun q49 => some (.inr ((q49.1, q49.2))))) else (gd (inb x17 41) (lt (a 2 x17.toNatClampNeg) (fun x54 => bd (mM_ask n x54 x11 x46 g a) (fun q55 => some (.inr ((q55.1, q55.2))))))))))) (fun q29 => jn (α := Int32) (if x20 = 0 then (some (.inl 0)) else (gd (inb x17 41) (lt (q29.2 2 x17.toNatClampNeg) (fun x40 => some (.inl x40))))) (fun x32 => bd (mM_respond n x20 x32 0 (-32600) q29.1 q29.2) (fun q34 => some ((q34.1, q34.2))))))))))))))
theorem tlM_e (n : Nat) (g : aG) (a : aA) : mM_handle n g a = bd (mM_read n g a) (fun q1 => if q1.1 = 0 then (bd (mM_respond n 0 0 0 (-32700) q1.2.1 q1.2.2) (fun q69 => some ((q69.1, q69.2)))) else (tlM n q1.2.1 q1.2.2)) := rfl
def TlG (n : Nat) (gE : aG) (aE : aA) (gV : aG) (aV : aA) (gN : aG) (aN : aA) (gS : aG) (aS : aA) (gZ : aG) (aZ : aA) (dP : aP) (gQ : aG) (aQ : aA) (dO : aP) (g : aG) (a : aA) : Prop := ∃ gE' gN' aN' gS' gZ' aZ' dP' gQ' dO' g' a', tlV n gE aE gV aV gN aN gS aS gZ aZ dP gQ aQ dO = some (gE', gV, aV, gN', aN', gS', gZ', aZ', dP', gQ', dO') ∧ tlM n g a = some (g', a') ∧ StE gE' g' ∧ IvA gN' aN' g' a' ∧ IvD gS' dP' g' a' ∧ IvQ gQ' dO' g' a' ∧ g' 3 = g 3 ∧ g' 4 = g 4 ∧ g' 5 = g 5
section HD
variable {gV : aG} {aV : aA} {g : aG} {a : aA} {v u n : Nat}
theorem strY (h : Vw gV aV g a v u) {y : Int32} (hy : y = -1 ∨ ∃ w, w < v ∧ y = nI w) : ∃ b, mV_isString n y gV aV = some b ∧ mM_isSort n y 2 g a = some b ∧ (b = 0 ∨ b = 1 ∧ ∃ w, w < v ∧ aV 0 w = 2 ∧ y = nI w) := by
  rcases hy with rfl | ⟨w, hw, rfl⟩
  · obtain ⟨n1, -, n3, -, -⟩ := isS_n (n := n) (gV := gV) (aV := aV) (g := g) (a := a)
    exact ⟨0, n1, n3 2, .inl rfl⟩
  · obtain ⟨kk, k1, k2, k3, -⟩ := h.kd hw
    obtain ⟨s1, -, s3, -, -⟩ := isS_w (n := n) h hw k1 k2 k3
    refine ⟨_, s1, s3, ?_⟩
    by_cases hk : kk = 2
    · refine .inr ⟨by rw [b01, if_pos hk], w, hw, ?_, rfl⟩
      rw [k2, hk]; rfl
    · exact .inl (by rw [b01, if_neg hk])
theorem numY (h : Vw gV aV g a v u) {y : Int32} (hy : y = -1 ∨ ∃ w, w < v ∧ y = nI w) : ∃ b, mV_isNumber n y gV aV = some b ∧ mM_isSort n y 1 g a = some b ∧ ((y = -1 ∧ b = 0) ∨ (∃ w, w < v ∧ y = nI w ∧ (b = 0 ∨ b = 1 ∧ mV_numberOf n y gV aV = some (a 2 w) ∧ rg (a 2 w)))) := by
  rcases hy with rfl | ⟨w, hw, rfl⟩
  · obtain ⟨-, n2, n3, -, -⟩ := isS_n (n := n) (gV := gV) (aV := aV) (g := g) (a := a)
    exact ⟨0, n2, n3 1, .inl ⟨rfl, rfl⟩⟩
  · obtain ⟨kk, k1, k2, k3, k4, -⟩ := h.kd hw
    obtain ⟨-, s2, -, s4, -⟩ := isS_w (n := n) h hw k1 k2 k3
    refine ⟨_, s2, s4, .inr ⟨w, hw, rfl, ?_⟩⟩
    by_cases hk : kk = 1
    · refine .inr ⟨by rw [b01, if_pos hk], ?_, (k4 hk).2⟩
      rw [(num_w (n := n) h hw).1, (k4 hk).1]
    · exact .inl (by rw [b01, if_neg hk])
theorem tl_2 (h : Vw gV aV g a v u) {st : Nat} {gE gN gS gZ gQ : aG} {aE aN aS aZ aQ : aA} {dP dO : aP} (hst : st < 3) (hE : gE 5 = nI st) (hg : g 0 = nI st) (h6 : gE 6 = -1) (h7 : gE 7 = g 2) (h8 : gE 8 = g 30) (hN : IvA gN aN g a) (hD : IvD gS dP g a) (hQ : IvQ gQ dO g a) (hn : 300 < n) : TlG n gE aE gV aV gN aN gS aS gZ aZ dP gQ aQ dO g a := by
  have hv := h.1
  have i0 : inb 0 41 = true := by decide
  have z0 : (0 : Int32).toNatClampNeg = 0 := by decide
  have r2600 : rg (-32600) := rg_m (w := 32600) (by omega) (by omega)
  have stk : ∀ g1 : aG, (∀ j, j ≠ 38 → g1 j = g j) → StE gE g1 := fun g1 n4 => ⟨st, by omega, hE, (n4 0 (by omega)).trans hg, by rw [if_neg (by omega)]; exact h6, h7.trans (n4 2 (by omega)).symm, h8.trans (n4 30 (by omega)).symm⟩
  -- an answer without id
  have noid : (∀ gN1 aN1, mN_addErrorWithoutId n (-32600) gN aN = some (gN1, aN1) → tlV n gE aE gV aV gN aN gS aS gZ aZ dP gQ aQ dO = some (gE, gV, aV, gN1, aN1, gS, gZ, aZ, dP, gQ, dO)) → (∀ g1 a1, mM_respond n 0 0 0 (-32600) g a = some (g1, a1) → tlM n g a = some (g1, a1)) → TlG n gE aE gV aV gN aN gS aS gZ aZ dP gQ aQ dO g a := by
    intro h1 h3
    obtain ⟨gN1, aN1, g1, a1, n1, n2, n3, n4, n5⟩ := noi_2 (n := n) (c := -32600) hN r2600
    exact ⟨gE, gN1, aN1, gS, gZ, aZ, dP, gQ, dO, g1, a1, h1 _ _ n1, h3 _ _ n2, stk g1 n4, n3, hD.mv (n4 22 (by omega)) (fun j _ _ => n5 j (by omega)), hQ.mv (n4 31 (by omega)) (fun j _ _ => n5 j (by omega)), n4 3 (by omega), n4 4 (by omega), n4 5 (by omega)⟩
  obtain ⟨k0, k01, k02, k03, -⟩ := h.kd (show 0 < v from h.2.1)
  have q4 : (nI k0 = 4) ↔ k0 = 4 := eq_L (b := 4) (by omega) (by decide)
  by_cases hr : k0 = 4
  · have a10 : a 1 0 = 4 := by rw [k03]; exact q4.mpr hr
    have v00 : aV 0 0 = 4 := by rw [k02]; exact q4.mpr hr
    obtain ⟨y3, i1, i2, i3⟩ := mem3 (n := n) h hn v00
    obtain ⟨y4, m1, m2, m3⟩ := mem4 (n := n) h hn v00
    obtain ⟨y9, p1, p2, p3⟩ := mem9 (n := n) h hn v00
    obtain ⟨bs, s1, s2, s3⟩ := strY (n := n) h m3
    obtain ⟨bn, b1, b2, b3⟩ := numY (n := n) h i3
    rcases s3 with rfl | ⟨rfl, w4, hw4, hk4, rfl⟩
    · -- the method is no string
      have hno : bn = 0 → TlG n gE aE gV aV gN aN gS aS gZ aZ dP gQ aQ dO g a := by
        intro hb
        subst hb
        refine noid (fun gN1 aN1 n1 => ?_) (fun g1 a1 n2 => ?_)
        · simp only [tlV, i1, m1, b1, s1, bd_s, reduceIte, jn_l, n1]
        · simp only [tlM, i0, z0, gd_T, lt, a10, if_true, m2, i2, bd_s, jn_l, b2, s2, reduceIte, n2]
      rcases b3 with ⟨-, hb⟩ | ⟨w3, hw3, rfl, hb | ⟨rfl, b4, b5⟩⟩
      · exact hno hb
      · exact hno hb
      · obtain ⟨gN1, aN1, g1, a1, n1, n2, n3, n4, n5⟩ := err_2 (n := n) (i := a 2 w3) (c := -32600) hN b5 r2600
        obtain ⟨-, -, -, e4, e5⟩ := h.nv hw3
        refine ⟨gE, gN1, aN1, gS, gZ, aZ, dP, gQ, dO, g1, a1, ?_, ?_, stk g1 n4, n3, hD.mv (n4 22 (by omega)) (fun j _ _ => n5 j (by omega)), hQ.mv (n4 31 (by omega)) (fun j _ _ => n5 j (by omega)), n4 3 (by omega), n4 4 (by omega), n4 5 (by omega)⟩
        · simp only [tlV, i1, m1, b1, s1, bd_s, reduceIte, jn_l, one_ne_zero, b4, n1]
        · simp only [tlM, i0, z0, gd_T, lt, a10, if_true, m2, i2, bd_s, jn_l, b2, s2, reduceIte, one_ne_zero, e4, e5, n2]
    · rcases b3 with ⟨rfl, rfl⟩ | ⟨w3, hw3, rfl, rfl | ⟨rfl, b4, b5⟩⟩
      · -- a notification
        obtain ⟨gE', gN', aN', gS', gZ', aZ', dP', gQ', dO', g', a', t1, t2, t3⟩ := not_2 (n := n) (aE := aE) (gZ := gZ) (aZ := aZ) (aS := aS) (aQ := aQ) h hw4 hk4 hst hE hg h6 h7 h8 p1 p3 hN hD hQ hn
        refine ⟨gE', gN', aN', gS', gZ', aZ', dP', gQ', dO', g', a', ?_, ?_, t3⟩
        · simp only [tlV, i1, m1, b1, s1, bd_s, reduceIte, jn_l, one_ne_zero, t1, jn_r]
        · simp only [tlM, i0, z0, gd_T, lt, a10, if_true, m2, i2, bd_s, jn_l, b2, s2, reduceIte, one_ne_zero, neg1, p2, t2, jn_r]
      · -- an id that is no number
        obtain ⟨nn1, nn2⟩ := nI_lt0 (show w3 < 100 by omega)
        refine noid (fun gN1 aN1 n1 => ?_) (fun g1 a1 n2 => ?_)
        · simp only [tlV, i1, m1, b1, s1, bd_s, reduceIte, jn_l, one_ne_zero, nn2, n1]
        · simp only [tlM, i0, z0, gd_T, lt, a10, if_true, m2, i2, bd_s, jn_l, b2, s2, reduceIte, one_ne_zero, nn1, jn_r, n2]
      · -- a request
        obtain ⟨nn1, nn2⟩ := nI_lt0 (show w3 < 100 by omega)
        obtain ⟨-, -, -, e4, e5⟩ := h.nv hw3
        obtain ⟨st', gE', gN', aN', gQ', dO', g', a', t0, t1, t2, t3, t4, t5, t6, t7, t8, t9⟩ := req_2 (n := n) (i := a 2 w3) (aE := aE) (gZ := gZ) (aZ := aZ) (aS := aS) (aQ := aQ) h hw4 hk4 hst hE hg p1 p3 b5 hN hD hQ hn
        refine ⟨gE', gN', aN', gS, gZ, aZ, dP, gQ', dO', g', a', ?_, ?_, ⟨st', by omega, t3, t4, ?_, ?_, ?_⟩, t6, hD.mv (t8 22 (by omega) (by omega) (by omega)) (fun j _ _ => t9 j (by omega)), t7, t8 3 (by omega) (by omega) (by omega), t8 4 (by omega) (by omega) (by omega), t8 5 (by omega) (by omega) (by omega)⟩
        · simp only [tlV, i1, m1, b1, s1, bd_s, reduceIte, one_ne_zero, b4, t1, jn_r]
        · simp only [tlM, i0, z0, gd_T, lt, a10, if_true, m2, i2, bd_s, jn_l, b2, s2, reduceIte, one_ne_zero, nn1, p2, e4, e5, t2, jn_r]
        · rw [if_neg (by omega), t5 6 (by omega)]; exact h6
        · rw [t5 7 (by omega), t8 2 (by omega) (by omega) (by omega)]; exact h7
        · rw [t5 8 (by omega), t8 30 (by omega) (by omega) (by omega)]; exact h8
  · have a10 : ¬ a 1 0 = 4 := by rw [k03]; exact fun z => hr (q4.mp z)
    have v00 : ¬ aV 0 0 = 4 := by rw [k02]; exact fun z => hr (q4.mp z)
    obtain ⟨n1', n2', n3', -, -⟩ := isS_n (n := n) (gV := gV) (aV := aV) (g := g) (a := a)
    refine noid (fun gN1 aN1 n1 => ?_) (fun g1 a1 n2 => ?_)
    · simp only [tlV, mem_n (n := n) (gV := gV) v00, n1', n2', bd_s, reduceIte, jn_l, n1]
    · simp only [tlM, i0, z0, gd_T, lt, a10, if_false, n3', bd_s, jn_l, reduceIte, n2]
/-- a whole body on both sides -/
theorem bdy_2 {N st : Nat} {gE gJ gN gS gZ gQ : aG} {aE aJ aN aS aZ aQ : aA} {dP dO : aP} (hN2 : N ≤ 200) (hJ : gJ 4 = nI N) (hM : g 6 = nI N) (hb : ∀ i, i < N → aV 8 i = a 0 i ∧ chr (a 0 i)) (hst : st < 3) (hE : gE 5 = nI st) (hg : g 0 = nI st) (h6 : gE 6 = -1) (h7 : gE 7 = g 2) (h8 : gE 8 = g 30) (hN : IvA gN aN g a) (hD : IvD gS dP g a) (hQ : IvQ gQ dO g a) (hn : 500 < n) : ∃ gE' gV' aV' gN' aN' gS' gZ' aZ' dP' gQ' dO' g' a', mE_answerBody n gE aE gJ aJ gV aV gN aN gS aS gZ aZ dP gQ aQ dO = some (gE', gV', aV', gN', aN', gS', gZ', aZ', dP', gQ', dO') ∧ mM_handle n g a = some (g', a') ∧ StE gE' g' ∧ IvA gN' aN' g' a' ∧ IvD gS' dP' g' a' ∧ IvQ gQ' dO' g' a' ∧ g' 3 = g 3 ∧ g' 4 = g 4 ∧ g' 5 = g 5 := by
  obtain ⟨r, gV1, aV1, g1, a1, r1, r2, ⟨p, v, u, d, e, rfl⟩, r4, r5⟩ := read_2 (gV := gV) (b := a 0) hN2 hM (fun i hi => (hb i hi).2) hn (fun i hi => (hb i hi).1) (fun _ _ => rfl)
  have ro : ∀ j, (j ≠ 8 ∧ j ≠ 17 ∧ j ≠ 19 ∧ j ≠ 20 ∧ j ≠ 21) → rG g p v u d e j = g j := fun j hj => rG_o hj
  have hN1 : IvA gN aN (rG g p v u d e) a1 := hN.mv (ro 38 (by omega)) (fun j _ _ => r4 j (by omega))
  have hD1 : IvD gS dP (rG g p v u d e) a1 := hD.mv (ro 22 (by omega)) (fun j _ _ => r4 j (by omega))
  have hQ1 : IvQ gQ dO (rG g p v u d e) a1 := hQ.mv (ro 31 (by omega)) (fun j _ _ => r4 j (by omega))
  rcases r5 with rfl | ⟨rfl, v', u', v1, v2, v3, v4, v5, v6, v7, v8⟩
  · obtain ⟨gN1, aN1, g2, a2, n1, n2, n3, n4, n5⟩ := noi_2 (n := n) (c := -32700) hN1 (rg_m (w := 32700) (by omega) (by omega))
    refine ⟨gE, gV1, aV1, gN1, aN1, gS, gZ, aZ, dP, gQ, dO, g2, a2, ?_, ?_, ⟨st, by omega, hE, ?_, ?_, ?_, ?_⟩, n3, hD1.mv (n4 22 (by omega)) (fun j _ _ => n5 j (by omega)), hQ1.mv (n4 31 (by omega)) (fun j _ _ => n5 j (by omega)), (n4 3 (by omega)).trans (ro 3 (by omega)), (n4 4 (by omega)).trans (ro 4 (by omega)), (n4 5 (by omega)).trans (ro 5 (by omega))⟩
    · rw [tlV_e, hJ, r1, bd_s, if_pos rfl, n1, bd_s]
    · rw [tlM_e, r2, bd_s, if_pos rfl, n2, bd_s]
    · rw [n4 0 (by omega), ro 0 (by omega)]; exact hg
    · rw [if_neg (by omega)]; exact h6
    · rw [n4 2 (by omega), ro 2 (by omega)]; exact h7
    · rw [n4 30 (by omega), ro 30 (by omega)]; exact h8
  · have hV : Vw gV1 aV1 (rG g p v u d e) a1 v' u' := ⟨v5, v4, v6, v1, v2, v3, v7, v8⟩
    obtain ⟨gE', gN', aN', gS', gZ', aZ', dP', gQ', dO', g', a', t1, t2, t3, t4, t5, t6, t7, t8, t9⟩ := tl_2 (n := n) (aE := aE) (gZ := gZ) (aZ := aZ) (aS := aS) (aQ := aQ) hV hst hE ((ro 0 (by omega)).trans hg) h6 (h7.trans (ro 2 (by omega)).symm) (h8.trans (ro 30 (by omega)).symm) hN1 hD1 hQ1 (by omega)
    refine ⟨gE', gV1, aV1, gN', aN', gS', gZ', aZ', dP', gQ', dO', g', a', ?_, ?_, t3, t4, t5, t6, t7.trans (ro 3 (by omega)), t8.trans (ro 4 (by omega)), t9.trans (ro 5 (by omega))⟩
    · rw [tlV_e, hJ, r1, bd_s, if_neg one_ne_zero]; exact t1
    · rw [tlM_e, r2, bd_s, if_neg one_ne_zero]; exact t2
end HD
