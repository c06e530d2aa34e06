section ED
variable {gV : aG} {aV : aA} {g : aG} {a : aA} {v u n : Nat}
theorem Sim.mv {aV a a' : aA} {v u : Nat} (h : Sim aV a v u) (e : ∀ j, 1 ≤ j → j ≤ 8 → a' j = a j) : Sim aV a' v u := by
  unfold Sim vR nmR at h ⊢
  rw [e 1 (by omega) (by omega), e 2 (by omega) (by omega), e 3 (by omega) (by omega), e 4 (by omega) (by omega), e 5 (by omega) (by omega), e 6 (by omega) (by omega), e 7 (by omega) (by omega), e 8 (by omega) (by omega)]
  exact h
theorem Vw.mv {g' : aG} {a' : aA} (h : Vw gV aV g a v u) (hg : g' 8 = g 8) (e : ∀ j, 1 ≤ j → j ≤ 8 → a' j = a j) : Vw gV aV g' a' v u := by
  obtain ⟨p1, p2, p3, p4, p5, p6, p7, F, p8⟩ := h
  exact ⟨p1, p2, p3, p4, p5, hg.trans p6, p7.mv e, F, Tr_c (aV := aV) (a := a) _ _ _ _ _ (fun i _ _ => ⟨rfl, rfl, rfl, by rw [e 5 (by omega) (by omega)]⟩) p8⟩
theorem item_c {g' : aG} {a' : aA} (hg : g' 8 = g 8) (e : a' 5 = a 5) (y z : Int32) : mM_item n y z g' a' = mM_item n y z g a := by
  simp only [mM_item, hg, e]
theorem items_c {g' : aG} {a' : aA} (hg : g' 8 = g 8) (e : a' 5 = a 5) (y : Int32) : mM_items n y g' a' = mM_items n y g a := by
  simp only [mM_items, hg, e]
theorem Arr.mv {g' : aG} {a' : aA} {L K : Nat} {w : Nat → Nat} (h : Arr n gV aV g a v L K w) (hg : g' 8 = g 8) (e : a' 5 = a 5) : Arr n gV aV g' a' v L K w := by
  obtain ⟨h1, h2, h3, h4, h5⟩ := h
  refine ⟨h1, h2, by rw [items_c hg e]; exact h3, fun i hi => ?_, fun i hi hi2 => ?_⟩
  · rw [item_c hg e]; exact h4 i hi
  · rw [item_c hg e]; exact h5 i hi hi2
theorem isT.mv {a' : aA} {w s z : Nat} (h : isT aV a u w s z) (e : ∀ j, 1 ≤ j → j ≤ 8 → a' j = a j) : isT aV a' u w s z := by
  unfold isT at h ⊢
  rw [e 1 (by omega) (by omega), e 3 (by omega) (by omega), e 4 (by omega) (by omega)]
  exact h
theorem upI {g : aG} {k : Nat} : va_up g k (g k) = g := by
  funext j
  simp only [va_ap]
  split
  · rename_i e; rw [e]
  · rfl
/-- the kinds of an array's items as both tell them -/
theorem knd (h : Vw gV aV g a v u) {w : Nat} (hw : w < v) : (aV 0 w = 1 → mM_isSort n (nI w) 1 g a = some 1 ∧ mV_numberOf n (nI w) gV aV = some (a 2 w) ∧ rg (a 2 w)) ∧ (¬ aV 0 w = 1 → mM_isSort n (nI w) 1 g a = some 0) ∧ (aV 0 w = 2 → mM_isSort n (nI w) 2 g a = some 1) ∧ (¬ aV 0 w = 2 → mM_isSort n (nI w) 2 g a = some 0) := by
  obtain ⟨kd, k1, k2, k3, k4, k5⟩ := h.kd hw
  obtain ⟨s1, s2, s3, s4, s5⟩ := isS_w (n := n) h hw k1 k2 k3
  have q1 : (aV 0 w = 1) ↔ kd = 1 := by rw [k2]; exact eq_L (b := 1) (by omega) (by decide)
  have q2 : (aV 0 w = 2) ↔ kd = 2 := by rw [k2]; exact eq_L (b := 2) (by omega) (by decide)
  refine ⟨fun z => ?_, fun z => ?_, fun z => ?_, fun z => ?_⟩
  · have z1 := q1.mp z
    obtain ⟨y1, y2⟩ := k4 z1
    refine ⟨by rw [s4, b01, if_pos z1], ?_, y2⟩
    rw [(num_w (n := n) h hw).1, y1]
  · rw [s4, b01, if_neg (fun y => z (q1.mpr y))]
  · rw [s3, b01, if_pos (q2.mp z)]
  · rw [s3, b01, if_neg (fun y => z (q2.mpr y))]
def bM_ed (n : Nat) (v1 : Int32) (g : aG) (a : aA) : Int32 × Int32 → Option ((Int32 × Int32) ⊕ (Int32 ⊕ (Int32 × aG × aA))) := (fun q69 => if 4 ≤ q69.2 then (some (.inr (.inl q69.1))) else (if q69.1 = 0 then (some (.inl (0, (q69.2 + 1)))) else (bd (mM_item n v1 q69.2 g a) (fun x76 => bd (mM_isSort n x76 1 g a) (fun x79 => if x79 = 0 then (some (.inl (0, (q69.2 + 1)))) else (some (.inl (1, (q69.2 + 1)))))))))
theorem ed_e (n : Nat) (v1 : Int32) (g : aG) (a : aA) : mM_edit n v1 g a = gd (inb v1 41) (lt (a 1 v1.toNatClampNeg) (fun x2 => if x2 = 2 then (bd (mM_replace n 0 (g 29) v1 g a) (fun q82 => gd (okz q82.1) (some ((q82.1, q82.2.1, q82.2.2))))) else (gd (inb v1 41) (lt (a 1 v1.toNatClampNeg) (fun x5 => if x5 = 3 then (bd (mM_items n v1 g a) (fun x8 => if x8 = 5 then (bd (mM_item n v1 4 g a) (fun x12 => bd (mM_isSort n x12 2 g a) (fun x15 => jn (α := Int32) (lp (ε := Int32 × Int32) (bM_ed n v1 g a) n (x15, 0)) (fun x19 => if x19 = 0 then (some ((0, g, a))) else (bd (mM_item n v1 0 g a) (fun x23 => gd (inb x23 41) (lt (a 2 x23.toNatClampNeg) (fun x26 => bd (mM_item n v1 1 g a) (fun x28 => gd (inb x28 41) (lt (a 2 x28.toNatClampNeg) (fun x31 => bd (mM_placeIn n (a 15) 60 0 (g 29) x26 x31) (fun x33 => bd (mM_item n v1 2 g a) (fun x36 => gd (inb x36 41) (lt (a 2 x36.toNatClampNeg) (fun x39 => bd (mM_item n v1 3 g a) (fun x41 => gd (inb x41 41) (lt (a 2 x41.toNatClampNeg) (fun x44 => bd (mM_placeIn n (a 15) 60 0 (g 29) x39 x44) (fun x46 => jn (α := Int32) (if x46 ≤ x33 then (some (.inl x46)) else (some (.inl x33))) (fun x50 => jn (α := Int32) (if x46 ≤ x33 then (some (.inl x33)) else (some (.inl x46))) (fun x54 => bd (mM_item n v1 4 g a) (fun x57 => bd (mM_replace n x50 x54 x57 g a) (fun q59 => gd (okz q59.1) (some ((q59.1, q59.2.1, q59.2.2)))))))))))))))))))))))))) else (some ((0, g, a))))) else (some ((0, g, a)))))))) := rfl
theorem ed0_l {y : Int32} : ∀ m k j, k + m = 4 → m < j → lp (bM_ed n y g a) j (0, nI k) = some (.inl 0) := by
  intro m
  induction m with
  | zero =>
    intro k j h1 h2
    have e : k = 4 := by omega
    subst e
    have e1 : (4 : Int32) ≤ nI 4 := Int32.le_refl _
    exact lp_e (by simp only [bM_ed, e1, reduceIte]) h2
  | succ m ih =>
    intro k j h1 h2
    have e1 : ¬ (4 : Int32) ≤ nI k := nI_ge (b := 4) (by omega) (by omega)
    refine (lp_s ?_ (by omega)).trans (ih (k + 1) (j - 1) (by omega) (by omega))
    simp only [bM_ed, e1, reduceIte, ad_L]
theorem ed1_l (h : Vw gV aV g a v u) {L : Nat} {w : Nat → Nat} (hA : Arr n gV aV g a v L 5 w) : ∀ m k j, k + m = 4 → m < j → ((∀ i, k ≤ i → i < 4 → aV 0 (w i) = 1) → lp (bM_ed n (nI L) g a) j (1, nI k) = some (.inl 1)) ∧ ((¬ ∀ i, k ≤ i → i < 4 → aV 0 (w i) = 1) → lp (bM_ed n (nI L) g a) j (1, nI k) = some (.inl 0)) := by
  intro m
  induction m with
  | zero =>
    intro k j h1 h2
    have e : k = 4 := by omega
    subst e
    have e1 : (4 : Int32) ≤ nI 4 := Int32.le_refl _
    refine ⟨fun _ => lp_e (by simp only [bM_ed, e1, reduceIte]) h2, fun q => absurd (fun i h3 h4 => by omega) q⟩
  | succ m ih =>
    intro k j h1 h2
    have e1 : ¬ (4 : Int32) ≤ nI k := nI_ge (b := 4) (by omega) (by omega)
    obtain ⟨b1, b2, b3, b4⟩ := hA.2.2.2.1 k (by omega)
    obtain ⟨k1, k2, -⟩ := knd (n := n) h b2
    obtain ⟨i1, i2⟩ := ih (k + 1) (j - 1) (by omega) (by omega)
    by_cases hq : aV 0 (w k) = 1
    · have st : bM_ed n (nI L) g a (1, nI k) = some (.inl (1, nI (k + 1))) := by
        simp only [bM_ed, e1, one_ne_zero, b4, bd_s, (k1 hq).1, reduceIte, ad_L]
      rw [lp_s st (by omega)]
      refine ⟨fun q => i1 (fun i h3 h4 => q i (by omega) h4), fun q => i2 (fun h3 => q (fun i h4 h5 => ?_))⟩
      by_cases h6 : i = k
      · rw [h6]; exact hq
      · exact h3 i (by omega) h5
    · have st : bM_ed n (nI L) g a (1, nI k) = some (.inl (0, nI (k + 1))) := by
        simp only [bM_ed, e1, one_ne_zero, b4, bd_s, k2 hq, reduceIte, ad_L]
      rw [lp_s st (by omega), ed0_l m (k + 1) (j - 1) (by omega) (by omega)]
      exact ⟨fun q => absurd (q k (Nat.le_refl k) (by omega)) hq, fun _ => rfl⟩
theorem okz_r {r : Int32} (h : r = 0 ∨ r = 1) : okz r = true := by
  rcases h with rfl | rfl <;> decide
/-- one edit on both sides -/
theorem edit_2 (h : Vw gV aV g a v u) {w : Nat} {gS gZ : aG} {aS aZ : aA} (hw : w < v) (hk : wkR gZ aZ g a) (hn : 300 < n) : ∃ r gZ' aZ' f y, mS_edit n (nI w) gS aS gZ aZ gV aV = some (r, gZ', aZ') ∧ mM_edit n (nI w) g a = some (r, va_up g 29 y, va_up a 15 f) ∧ (r = 0 ∨ r = 1) ∧ wkR gZ' aZ' (va_up g 29 y) (va_up a 15 f) := by
  obtain ⟨N, n1, n2, n3, n4⟩ := id hk
  have hv := h.1
  obtain ⟨e1, e2, e3, e4, e5⟩ := h.nv hw
  obtain ⟨kd, k1, k2, k3, k4, k5⟩ := h.kd hw
  obtain ⟨s1, s2, s3, s4, s5⟩ := isS_w (n := n) h hw k1 k2 k3
  have same : ∀ (P : Option (Int32 × aG × aA)), mS_edit n (nI w) gS aS gZ aZ gV aV = some (0, gZ, aZ) → mM_edit n (nI w) g a = some (0, g, a) → ∃ r gZ' aZ' f y, mS_edit n (nI w) gS aS gZ aZ gV aV = some (r, gZ', aZ') ∧ mM_edit n (nI w) g a = some (r, va_up g 29 y, va_up a 15 f) ∧ (r = 0 ∨ r = 1) ∧ wkR gZ' aZ' (va_up g 29 y) (va_up a 15 f) := fun _ q1 q2 => ⟨0, gZ, aZ, a 15, g 29, q1, by rw [upI, va_upE]; exact q2, .inl rfl, by rw [upI, va_upE]; exact hk⟩
  by_cases h2 : kd = 2
  · subst h2
    obtain ⟨s, z, hT⟩ := h.str hw (by rw [k2]; rfl)
    obtain ⟨r, gZ', aZ', f, y, q1, q2, q3, q4⟩ := rep_2 (n := n) (p := 0) (q := N) h hw hT (by omega) (Nat.le_refl N) n1 n2 n3 n4 hn
    have s1 : mV_isString n (nI w) gV aV = some 1 := s1
    have k3' : a 1 w = 2 := k3
    refine ⟨r, gZ', aZ', f, y, ?_, ?_, q3, q4⟩
    · rw [mS_edit, s1, bd_s, if_neg one_ne_zero, n2]
      have q1 : mT_replace n 0 (nI N) (nI w) gZ aZ gV aV = _ := q1
      rw [q1, bd_s, okz_r q3, gd_T]
    · rw [ed_e, e4, gd_T, e5, lt, k3', if_pos rfl, n3]
      have q2 : mM_replace n 0 (nI N) (nI w) g a = _ := q2
      rw [q2, bd_s, okz_r q3, gd_T]
  · rw [b01, if_neg h2] at s1
    have k3' : ¬ a 1 w = 2 := by rw [k3, eq_L (b := 2) (by omega) (by decide)]; exact h2
    by_cases h3 : kd = 3
    · subst h3
      have k3a : a 1 w = 3 := k3
      obtain ⟨K, wi, hA⟩ := arr_of (n := n) h hw (by rw [k2]; rfl) (by omega)
      have l22 : slen 22 = 5 := by decide +kernel
      have b22 : ∀ j, j < 4 → ¬ sbyt 22 j = 115 := by decide +kernel
      have b224 : sbyt 22 4 = 115 := by decide +kernel
      obtain ⟨p1, p2⟩ := hsp (n := n) (i := 22) h hw hA (by omega) (by rw [l22]; decide +kernel) hn
      rw [l22] at p1 p2
      by_cases hK : K = 5
      · subst hK
        obtain ⟨b1, b2, b3, b4⟩ := hA.2.2.2.1 4 (by omega)
        obtain ⟨-, -, z1, z2⟩ := knd (n := n) h b2
        obtain ⟨i1, i2⟩ := ed1_l (n := n) h hA 4 0 n (by omega) (by omega)
        have hit := hA.2.2.1
        by_cases h4 : aV 0 (wi 4) = 2
        · by_cases hall : ∀ i, 0 ≤ i → i < 4 → aV 0 (wi i) = 1
          · have hsh := p1 ⟨rfl, fun j hj => by
              unfold KM
              by_cases hj4 : j = 4
              · rw [hj4, if_pos b224]; exact h4
              · rw [if_neg (b22 j (by omega))]; exact hall j (by omega) (by omega)⟩
            have i1 : lp (bM_ed n (nI w) g a) n (1, 0) = some (.inl 1) := i1 hall
            have it : ∀ i, i < 5 → wi i < v ∧ mV_item n (nI w) (nI i) gV aV = some (nI (wi i)) ∧ mM_item n (nI w) (nI i) g a = some (nI (wi i)) := fun i hi => (hA.2.2.2.1 i hi).2
            have nb : ∀ i, i < 4 → mV_numberAt n (nI w) (nI i) gV aV = some (a 2 (wi i)) := fun i hi => by
              rw [mV_numberAt, (it i (by omega)).2.1, bd_s, ((knd (n := n) h (it i (by omega)).1).1 (hall i (by omega) hi)).2.1, bd_s]
            obtain ⟨P, hP, P1, P2⟩ := place_2 (v := a 2 (wi 0)) (u := a 2 (wi 1)) (f := a 15) (np := 60) (off := 0) (n := n) n1 n2 (by omega) (by omega) (fun i hi => by rw [Nat.zero_add]; exact (n4 i hi).1) (by omega)
            obtain ⟨Q, hQ, Q1, Q2⟩ := place_2 (v := a 2 (wi 2)) (u := a 2 (wi 3)) (f := a 15) (np := 60) (off := 0) (n := n) n1 n2 (by omega) (by omega) (fun i hi => by rw [Nat.zero_add]; exact (n4 i hi).1) (by omega)
            obtain ⟨s, z, hT⟩ := h.str b2 h4
            obtain ⟨r, gZ', aZ', f, y, q1, q2, q3, q4⟩ := rep_2 (n := n) (p := min P Q) (q := max P Q) h b2 hT (by omega) (by omega) n1 n2 n3 n4 hn
            have mn : (if nI Q < nI P then nI Q else nI P) = nI (min P Q) := by
              by_cases c : Q < P
              · rw [if_pos (nI_lt c (by omega))]; congr 1; omega
              · rw [if_neg (nI_nlt (by omega) (by omega))]; congr 1; omega
            have mx : (if nI P < nI Q then nI Q else nI P) = nI (max P Q) := by
              by_cases c : P < Q
              · rw [if_pos (nI_lt c (by omega))]; congr 1; omega
              · rw [if_neg (nI_nlt (by omega) (by omega))]; congr 1; omega
            have mn2 : ∀ (F : Int32 → Option (Int32 × aG × aA)), jn (if nI Q ≤ nI P then some (.inl (nI Q)) else some (.inl (nI P))) F = F (nI (min P Q)) := fun F => by
              by_cases c : Q ≤ P
              · rw [if_pos (nI_le c (by omega)), jn_l]; congr 2; omega
              · rw [if_neg (nI_ge (by omega) (by omega)), jn_l]; congr 2; omega
            have mx2 : ∀ (F : Int32 → Option (Int32 × aG × aA)), jn (if nI Q ≤ nI P then some (.inl (nI P)) else some (.inl (nI Q))) F = F (nI (max P Q)) := fun F => by
              by_cases c : Q ≤ P
              · rw [if_pos (nI_le c (by omega)), jn_l]; congr 2; omega
              · rw [if_neg (nI_ge (by omega) (by omega)), jn_l]; congr 2; omega
            have nb0 : mV_numberAt n (nI w) 0 gV aV = some (a 2 (wi 0)) := nb 0 (by omega)
            have nb1 : mV_numberAt n (nI w) 1 gV aV = some (a 2 (wi 1)) := nb 1 (by omega)
            have nb2 : mV_numberAt n (nI w) 2 gV aV = some (a 2 (wi 2)) := nb 2 (by omega)
            have nb3 : mV_numberAt n (nI w) 3 gV aV = some (a 2 (wi 3)) := nb 3 (by omega)
            have it4 : mV_item n (nI w) 4 gV aV = some (nI (wi 4)) := (it 4 (by omega)).2.1
            have im : ∀ i, i < 5 → inb (nI (wi i)) 41 = true ∧ (nI (wi i)).toNatClampNeg = wi i := fun i hi => by
              have := (it i hi).1
              exact ⟨inb_T (by omega) (by omega), nI_clamp (by omega)⟩
            have im0 : mM_item n (nI w) 0 g a = some (nI (wi 0)) := (it 0 (by omega)).2.2
            have im1 : mM_item n (nI w) 1 g a = some (nI (wi 1)) := (it 1 (by omega)).2.2
            have im2 : mM_item n (nI w) 2 g a = some (nI (wi 2)) := (it 2 (by omega)).2.2
            have im3 : mM_item n (nI w) 3 g a = some (nI (wi 3)) := (it 3 (by omega)).2.2
            have im4 : mM_item n (nI w) 4 g a = some (nI (wi 4)) := (it 4 (by omega)).2.2
            have P2 : mM_placeIn n (a 15) 60 0 (nI N) (a 2 (wi 0)) (a 2 (wi 1)) = some (nI P) := P2
            have Q2 : mM_placeIn n (a 15) 60 0 (nI N) (a 2 (wi 2)) (a 2 (wi 3)) = some (nI Q) := Q2
            refine ⟨r, gZ', aZ', f, y, ?_, ?_, q3, q4⟩
            · simp only [mS_edit, s1, bd_s, reduceIte, hsh, one_ne_zero, nb0, nb1, nb2, nb3, P1, Q1, lt, mn, mx, it4, q1, okz_r q3, gd_T]
            · have c5 : nI 5 = 5 := rfl
              have c3 : ¬ ((3 : Int32) = 2) := by decide
              simp only [ed_e, e4, gd_T, e5, lt, k3a, c3, hit, bd_s, if_pos c5, im4, z1 h4, i1, jn_l, one_ne_zero, reduceIte, im0, im1, im2, im3, (im 0 (by omega)).1, (im 0 (by omega)).2, (im 1 (by omega)).1, (im 1 (by omega)).2, (im 2 (by omega)).1, (im 2 (by omega)).2, (im 3 (by omega)).1, (im 3 (by omega)).2, n3, P2, Q2, mn2, mx2, q2, okz_r q3]
          · have hsh := p2 (fun q => hall (fun i _ hi => by
              have := q.2 i (by omega)
              unfold KM at this
              rwa [if_neg (b22 i hi)] at this))
            have i2 : lp (bM_ed n (nI w) g a) n (1, 0) = some (.inl 0) := i2 hall
            refine same none ?_ ?_
            · simp only [mS_edit, s1, bd_s, reduceIte, hsh]
            · have c5 : nI 5 = 5 := rfl
              have c3 : ¬ ((3 : Int32) = 2) := by decide
              have im4 : mM_item n (nI w) 4 g a = some (nI (wi 4)) := b4
              simp only [ed_e, e4, gd_T, e5, lt, k3a, c3, hit, bd_s, if_pos c5, im4, z1 h4, i2, jn_l, reduceIte]
        · have hsh := p2 (fun q => h4 (by
              have := q.2 4 (by omega)
              unfold KM at this
              rwa [if_pos b224] at this))
          have i2 : lp (bM_ed n (nI w) g a) n (0, 0) = some (.inl 0) := ed0_l (n := n) 4 0 n (by omega) (by omega)
          refine same none ?_ ?_
          · simp only [mS_edit, s1, bd_s, reduceIte, hsh]
          · have c5 : nI 5 = 5 := rfl
            have c3 : ¬ ((3 : Int32) = 2) := by decide
            have im4 : mM_item n (nI w) 4 g a = some (nI (wi 4)) := b4
            simp only [ed_e, e4, gd_T, e5, lt, k3a, c3, hit, bd_s, if_pos c5, im4, z2 h4, i2, jn_l, reduceIte]
      · have hsh := p2 (fun q => hK q.1)
        refine same none ?_ ?_
        · simp only [mS_edit, s1, bd_s, reduceIte, hsh]
        · have hK39 := hA.1
          have c5 : ¬ nI K = 5 := by rw [eq_L (b := 5) (by omega) (by decide)]; exact hK
          have c3 : ¬ ((3 : Int32) = 2) := by decide
          simp only [ed_e, e4, gd_T, e5, lt, k3a, c3, hA.2.2.1, bd_s, c5, reduceIte]
    · have k0 : ¬ aV 0 w = 3 := by rw [k2, eq_L (b := 3) (by omega) (by decide)]; exact h3
      have k3b : ¬ a 1 w = 3 := by rw [k3, eq_L (b := 3) (by omega) (by decide)]; exact h3
      have hsh := hsp_n (n := n) (i := 22) (y := nI w) (gV := gV) (aV := aV) (fun k => itm_no h hw k0 k) (by decide +kernel) (by decide +kernel) (by decide +kernel) hn
      refine same none ?_ ?_
      · simp only [mS_edit, s1, bd_s, reduceIte, hsh]
      · simp only [ed_e, e4, gd_T, e5, lt, k3', k3b, reduceIte]
end ED
