section AQ
variable {gV : aG} {aV : aA} {g : aG} {a : aA} {v u n : Nat}
def bM_ak (x36 : Int32) (g : aG) : Int32 × aA → Option ((Int32 × aA) ⊕ ((aG × aA) ⊕ (aG × aA))) := (fun q60 => gd (inb x36 3) (lt (q60.2 13 x36.toNatClampNeg) (fun x65 => if x65 ≤ q60.1 then (lt (va_up g 31 ((g 31) + 1)) (fun g67 => some (.inr (.inr ((g67, q60.2)))))) else (gd (inb ((60 * x36) + q60.1) 180) (lt (q60.2 14 ((60 * x36) + q60.1).toNatClampNeg) (fun x69 => gd (inb ((60 * (g 31)) + q60.1) 480) (lt (va_up q60.2 21 (upd (q60.2 21) ((60 * (g 31)) + q60.1).toNatClampNeg x69)) (fun a71 => some (.inl ((q60.1 + 1), a71))))))))))
def j44 (n : Nat) (v3 x25 : Int32) (g : aG) (a41 : aA) : Option (Int32 ⊕ ((aG × aA) ⊕ (aG × aA))) := (if x25 = 1 then (bd (mM_item n v3 1 g a41) (fun x86 => gd (inb x86 41) (lt (a41 3 x86.toNatClampNeg) (fun x89 => gd (inb x89 201) (lt (a41 8 x89.toNatClampNeg) (fun x91 => some (.inl x91))))))) else (if x25 = 2 then (bd (mM_item n v3 1 g a41) (fun x81 => gd (inb x81 41) (lt (a41 2 x81.toNatClampNeg) (fun x84 => some (.inl x84))))) else (some (.inl 0))))
def j50 (n : Nat) (v3 x25 : Int32) (g : aG) (a47 : aA) : Option (Int32 ⊕ ((aG × aA) ⊕ (aG × aA))) := (if x25 = 2 then (bd (mM_item n v3 2 g a47) (fun x74 => gd (inb x74 41) (lt (a47 2 x74.toNatClampNeg) (fun x77 => some (.inl x77))))) else (some (.inl 0)))
def aM_f (n : Nat) (v1 v3 x25 x36 : Int32) (g : aG) (a : aA) : Option ((aG × aA) ⊕ (aG × aA)) := gd (inb (g 31) 8) (lt (va_up a 16 (upd (a 16) (g 31).toNatClampNeg v1)) (fun a39 => gd (inb (g 31) 8) (lt (va_up a39 17 (upd (a39 17) (g 31).toNatClampNeg x25)) (fun a41 => jn (α := Int32) (j44 n v3 x25 g a41) (fun x44 => gd (inb (g 31) 8) (lt (va_up a41 18 (upd (a41 18) (g 31).toNatClampNeg x44)) (fun a47 => jn (α := Int32) (j50 n v3 x25 g a47) (fun x50 => gd (inb (g 31) 8) (lt (va_up a47 19 (upd (a47 19) (g 31).toNatClampNeg x50)) (fun a53 => gd (inb x36 3) (lt (a53 13 x36.toNatClampNeg) (fun x55 => gd (inb (g 31) 8) (lt (va_up a53 20 (upd (a53 20) (g 31).toNatClampNeg x55)) (fun a57 => lp (ε := Int32 × aA) (bM_ak x36 g) n (0, a57)))))))))))))))
def aM_k (n : Nat) (v1 v3 x25 : Int32) (g : aG) (a : aA) : Option ((aG × aA) ⊕ (aG × aA)) := jn (α := Int32) (if 0 ≤ x25 then (bd (mM_fits n x25 v3 g a) (fun x98 => if x98 = 0 then (some (.inl (-32602))) else (if (g 31) = 8 then (some (.inl (-32803))) else (some (.inl 0))))) else (some (.inl (-32601)))) (fun x29 => if x29 = 0 then (bd (mM_item n v3 0 g a) (fun x33 => bd (mM_documentOf n x33 g a) (fun x36 => aM_f n v1 v3 x25 x36 g a))) else (bd (mM_respond n 1 v1 0 x29 g a) (fun q92 => some (.inr ((q92.1, q92.2))))))
theorem ask_e (n : Nat) (v1 v2 v3 : Int32) (g : aG) (a : aA) : mM_ask n v1 v2 v3 g a = if (g 0) = 0 then (bd (mM_isInitialize n v2 g a) (fun x121 => jn (α := Int32) (if x121 = 0 then (some (.inl (-32002))) else (some (.inl 0))) (fun x125 => bd (mM_respond n 1 v1 x121 x125 g a) (fun q127 => if x121 = 0 then (lt (va_up q127.1 0 0) (fun g132 => some ((g132, q127.2)))) else (lt (va_up q127.1 0 1) (fun g133 => some ((g133, q127.2)))))))) else (jn (α := aG × aA) (if (g 0) = 2 then (some (.inl (g, a))) else (bd (mM_isInitialize n v2 g a) (fun x13 => if x13 = 0 then (bd (mM_isShutdown n v2 g a) (fun x17 => if x17 = 0 then (bd (mM_says n v2 108 101 110 103 116 104 g a) (fun x21 => jn (α := Int32) (if x21 = 0 then (bd (mM_says n v2 105 110 100 101 120 0 g a) (fun x104 => if x104 = 0 then (bd (mM_says n v2 97 116 0 0 0 0 g a) (fun x108 => if x108 = 0 then (bd (mM_says n v2 108 105 110 101 115 0 g a) (fun x112 => if x112 = 0 then (some (.inl (-1))) else (some (.inl 3)))) else (some (.inl 2)))) else (some (.inl 1)))) else (some (.inl 0))) (fun x25 => aM_k n v1 v3 x25 g a))) else (bd (mM_respond n 1 v1 1 0 g a) (fun q115 => lt (va_up q115.1 0 2) (fun g119 => some (.inr ((g119, q115.2)))))))) else (some (.inl (g, a)))))) (fun q6 => bd (mM_respond n 1 v1 0 (-32600) q6.1 q6.2) (fun q7 => some ((q7.1, q7.2))))) := rfl
def aV_k (n : Nat) (v1 v2 x1 : Int32) (gV : aG) (aV : aA) (gN : aG) (aN : aA) (dP : aP) (gQ : aG) (aQ : aA) (dO : aP) (x9 : Int32) : Option (aG × aA × aG × aP) := if x9 = (-1) then (bd (mN_addError n v1 (-32602) gN aN) (fun q38 => some ((q38.1, q38.2, gQ, dO)))) else (bd (mQ_isFull n gQ aQ) (fun x12 => if x12 = 0 then (bd (mQ_addRow gQ) (fun q19 => lt (va_up (dO q19.1).2.1 1 v1) (fun g20 => lt (va_up g20 2 v2) (fun g21 => gd (inb x9 3) (bd (mT_copyFrom n ((dO q19.1).2.2.2.1) ((dO q19.1).2.2.2.2) ((dP x9.toNatClampNeg).2.2.2.1) ((dP x9.toNatClampNeg).2.2.2.2)) (fun q26 => bd (mK_keepDetails n x1 g21 ((dO q19.1).2.2.1) gV aV) (fun g27 => lt (va_up dO q19.1 ((dO q19.1).1, g27, (dO q19.1).2.2.1, q26.1, q26.2)) (fun d30 => some ((gN, aN, q19.2, d30)))))))))) else (bd (mN_addError n v1 (-32803) gN aN) (fun q34 => some ((q34.1, q34.2, gQ, dO))))))
theorem askV_e (n : Nat) (v1 v2 : Int32) (gE : aG) (aE : aA) (gV : aG) (aV : aA) (gN : aG) (aN : aA) (gS : aG) (aS : aA) (gZ : aG) (aZ : aA) (dP : aP) (gQ : aG) (aQ : aA) (dO : aP) : mE_ask n v1 v2 gE aE gV aV gN aN gS aS gZ aZ dP gQ aQ dO = bd (mV_member n 9 gV aV) (fun x1 => fK n x1 v2 gE aE gV aV gS aS dP (aV_k n v1 v2 x1 gV aV gN aN dP gQ aQ dO)) := rfl
theorem ak_b {d nw k : Nat} {A : aA} (hd : d < 3) (hg : g 31 = nI nw) (h13 : A 13 d = nI k) : bM_ak (nI d) g (nI k, A) = some (.inr (.inr (va_up g 31 (nI (nw + 1)), A))) := by
  have e1 : inb (nI d) 3 = true := inb_T (by omega) (by omega)
  have e2 : (nI d).toNatClampNeg = d := nI_clamp (by omega)
  obtain ⟨X, hX⟩ : ∃ X : Int32 → Option ((Int32 × aA) ⊕ ((aG × aA) ⊕ (aG × aA))), bM_ak (nI d) g (nI k, A) = gd (inb (nI d) 3) (lt (A 13 (nI d).toNatClampNeg) (fun x65 => if x65 ≤ nI k then lt (va_up g 31 ((g 31) + 1)) (fun g67 => some (.inr (.inr (g67, A)))) else X x65)) := ⟨fun _ => _, rfl⟩
  rw [hX, e1, gd_T, e2, lt, h13, if_pos (Int32.le_refl _), lt, hg, nI_1]
theorem ak_s {d nw k N : Nat} {A : aA} (hd : d < 3) (hw : nw < 8) (hg : g 31 = nI nw) (h13 : A 13 d = nI N) (hN : N ≤ 60) (hk : k < N) : bM_ak (nI d) g (nI k, A) = some (.inl (nI (k + 1), va_up A 21 (upd (A 21) (60 * nw + k) (A 14 (60 * d + k))))) := by
  have e1 : inb (nI d) 3 = true := inb_T (by omega) (by omega)
  have e2 : (nI d).toNatClampNeg = d := nI_clamp (by omega)
  have e : ¬ nI N ≤ nI k := nI_ge (by omega) (by omega)
  have e3 : 60 * nI d + nI k = nI (60 * d + k) := by rw [mu_L, nI_add]
  have e4 : 60 * nI nw + nI k = nI (60 * nw + k) := by rw [mu_L, nI_add]
  have e5 : inb (nI (60 * d + k)) 180 = true := inb_T (by omega) (by omega)
  have e6 : (nI (60 * d + k)).toNatClampNeg = 60 * d + k := nI_clamp (by omega)
  have e7 : inb (nI (60 * nw + k)) 480 = true := inb_T (by omega) (by omega)
  have e8 : (nI (60 * nw + k)).toNatClampNeg = 60 * nw + k := nI_clamp (by omega)
  simp only [bM_ak, hg, e1, gd_T, e2, lt, h13, e, e3, e4, e5, e6, e7, e8, nI_1, reduceIte]
theorem ak_l {d nw N : Nat} {f : Nat → Int32} {a : aA} (hd : d < 3) (hw : nw < 8) (hg : g 31 = nI nw) (h13 : a 13 d = nI N) (hN : N ≤ 60) : ∀ m k j, k + m = N → m < j → lp (bM_ak (nI d) g) j (nI k, va_up a 21 (wt f (a 14) (60 * nw) (60 * d) k)) = some (.inr (va_up g 31 (nI (nw + 1)), va_up a 21 (wt f (a 14) (60 * nw) (60 * d) N))) := by
  intro m
  induction m with
  | zero =>
    intro k j h1 h2
    have e : k = N := by omega
    subst e
    exact lp_e (ak_b hd hg (by rw [va_up_ne _ _ (by omega)]; exact h13)) h2
  | succ m ih =>
    intro k j h1 h2
    have hs1 := ak_s (g := g) (A := va_up a 21 (wt f (a 14) (60 * nw) (60 * d) k)) (k := k) hd hw hg (by rw [va_up_ne _ _ (by omega)]; exact h13) hN (by omega)
    rw [up_up, va_up_self, va_up_ne _ _ (by omega), wt_s] at hs1
    exact (lp_s hs1 (by omega)).trans (ih (k + 1) (j - 1) (by omega) (by omega))
/-- what a request keeps of its params -/
theorem kpd (h : Vw gV aV g a v u) {L kd : Nat} {gK : aG} {aK : aA} (hk : kd ≤ 3) (hg2 : gK 2 = nI kd) (hK1 : kd = 1 → ∃ w1 s, w1 < v ∧ isT aV a u w1 s 1 ∧ mV_item n (nI L) 1 gV aV = some (nI w1) ∧ mM_item n (nI L) 1 g a = some (nI w1)) (hK2 : kd = 2 → ∃ w1 w2, w1 < v ∧ w2 < v ∧ mV_numberAt n (nI L) 1 gV aV = some (a 2 w1) ∧ mV_numberAt n (nI L) 2 gV aV = some (a 2 w2) ∧ mM_item n (nI L) 1 g a = some (nI w1) ∧ mM_item n (nI L) 2 g a = some (nI w2)) : ∃ g27 xa xb, mK_keepDetails n (nI L) gK aK gV aV = some g27 ∧ g27 1 = gK 1 ∧ g27 2 = gK 2 ∧ (kd = 1 → g27 3 = xa) ∧ (kd = 2 → g27 4 = xa ∧ g27 5 = xb) ∧ (∀ A : aA, (∀ j, j < 16 → A j = a j) → j44 n (nI L) (nI kd) g A = some (.inl xa)) ∧ (∀ A : aA, (∀ j, j < 16 → A j = a j) → j50 n (nI L) (nI kd) g A = some (.inl xb)) := by
  have hv := h.1
  have hu := h.2.2.1
  have q1 : (nI kd = 1) ↔ kd = 1 := eq_L (b := 1) (by omega) (by decide)
  have q2 : (nI kd = 2) ↔ kd = 2 := eq_L (b := 2) (by omega) (by decide)
  by_cases c1 : kd = 1
  · obtain ⟨w1, s, x1, hT, i1, i2⟩ := hK1 c1
    have e1 := q1.mpr c1
    have e2 : ¬ nI kd = 2 := fun z => by have := q2.mp z; omega
    have t7 := hT.2.2.2.2.2.2
    obtain ⟨l1, l2⟩ := let_w (n := n) (i := 0) h x1 hT.2.2.1 t7 (by omega)
    have l1 : mV_letterOf n (nI w1) 0 gV aV = some (a 8 s) := l1
    have l2 : chr (a 8 s) := l2
    obtain ⟨-, -, -, e4, e5⟩ := h.nv x1
    have e6 : inb (nI s) 201 = true := inb_T (by omega) (by omega)
    have e7 : (nI s).toNatClampNeg = s := nI_clamp (by omega)
    refine ⟨va_up gK 3 (a 8 s), a 8 s, 0, ?_, va_up_ne _ _ (by omega), va_up_ne _ _ (by omega), fun _ => va_up_self _ _ _, fun z => by omega, fun A hA => ?_, fun A hA => ?_⟩
    · rw [mK_keepDetails, hg2, if_pos e1, i1, bd_s, l1, bd_s, (chr_k l2).2, gd_T, lt]
    · have i3 : mM_item n (nI L) 1 g A = some (nI w1) := (item_c rfl (hA 5 (by omega)) _ _).trans i2
      rw [j44, if_pos e1, i3, bd_s, e4, gd_T, e5, lt, hA 3 (by omega), hT.2.2.2.1, e6, gd_T, e7, lt, hA 8 (by omega)]
    · rw [j50, if_neg e2]
  have e1 : ¬ nI kd = 1 := fun z => c1 (q1.mp z)
  by_cases c2 : kd = 2
  · obtain ⟨w1, w2, x1, x2, n1, n2, i1, i2⟩ := hK2 c2
    have e2 := q2.mpr c2
    obtain ⟨-, -, -, e4, e5⟩ := h.nv x1
    obtain ⟨-, -, -, e6, e7⟩ := h.nv x2
    refine ⟨va_up (va_up gK 4 (a 2 w1)) 5 (a 2 w2), a 2 w1, a 2 w2, ?_, ?_, ?_, fun z => by omega, fun _ => ⟨?_, va_up_self _ _ _⟩, fun A hA => ?_, fun A hA => ?_⟩
    · rw [mK_keepDetails, hg2, if_neg e1, if_pos e2, n1, bd_s, lt, n2, bd_s, lt]
    · rw [va_up_ne _ _ (by omega), va_up_ne _ _ (by omega)]
    · rw [va_up_ne _ _ (by omega), va_up_ne _ _ (by omega)]
    · rw [va_up_ne _ _ (by omega), va_up_self]
    · have i3 : mM_item n (nI L) 1 g A = some (nI w1) := (item_c rfl (hA 5 (by omega)) _ _).trans i1
      rw [j44, if_neg e1, if_pos e2, i3, bd_s, e4, gd_T, e5, lt, hA 2 (by omega)]
    · have i3 : mM_item n (nI L) 2 g A = some (nI w2) := (item_c rfl (hA 5 (by omega)) _ _).trans i2
      rw [j50, if_pos e2, i3, bd_s, e6, gd_T, e7, lt, hA 2 (by omega)]
  have e2 : ¬ nI kd = 2 := fun z => c2 (q2.mp z)
  refine ⟨gK, 0, 0, ?_, rfl, rfl, fun z => absurd z c1, fun z => absurd z c2, fun A hA => ?_, fun A hA => ?_⟩
  · rw [mK_keepDetails, hg2, if_neg e1, if_neg e2]
  · rw [j44, if_neg e1, if_neg e2]
  · rw [j50, if_neg e2]
/-- the reference's new row -/
theorem aMf {L kd d nw N : Nat} {i xa xb : Int32} (hd : d < 3) (hw : nw < 8) (hg : g 31 = nI nw) (h13 : a 13 d = nI N) (hN : N ≤ 60) (h44 : ∀ A : aA, (∀ j, j < 16 → A j = a j) → j44 n (nI L) (nI kd) g A = some (.inl xa)) (h50 : ∀ A : aA, (∀ j, j < 16 → A j = a j) → j50 n (nI L) (nI kd) g A = some (.inl xb)) (hn : 300 < n) : ∃ a', aM_f n i (nI L) (nI kd) (nI d) g a = some (.inr (va_up g 31 (nI (nw + 1)), a')) ∧ a' 16 = upd (a 16) nw i ∧ a' 17 = upd (a 17) nw (nI kd) ∧ a' 18 = upd (a 18) nw xa ∧ a' 19 = upd (a 19) nw xb ∧ a' 20 = upd (a 20) nw (nI N) ∧ a' 21 = wt (a 21) (a 14) (60 * nw) (60 * d) N ∧ ∀ j, j < 16 ∨ 21 < j → a' j = a j := by
  have e8 : inb (nI nw) 8 = true := inb_T (by omega) (by omega)
  have e8' : (nI nw).toNatClampNeg = nw := nI_clamp (by omega)
  have e3 : inb (nI d) 3 = true := inb_T (by omega) (by omega)
  have e3' : (nI d).toNatClampNeg = d := nI_clamp (by omega)
  obtain ⟨A1, hA1⟩ : ∃ A1, A1 = va_up a 16 (upd (a 16) nw i) := ⟨_, rfl⟩
  obtain ⟨A2, hA2⟩ : ∃ A2, A2 = va_up A1 17 (upd (A1 17) nw (nI kd)) := ⟨_, rfl⟩
  obtain ⟨A3, hA3⟩ : ∃ A3, A3 = va_up A2 18 (upd (A2 18) nw xa) := ⟨_, rfl⟩
  obtain ⟨A4, hA4⟩ : ∃ A4, A4 = va_up A3 19 (upd (A3 19) nw xb) := ⟨_, rfl⟩
  obtain ⟨A5, hA5⟩ : ∃ A5, A5 = va_up A4 20 (upd (A4 20) nw (nI N)) := ⟨_, rfl⟩
  obtain ⟨A6, hA6⟩ : ∃ A6, A6 = va_up A5 21 (wt (A5 21) (A5 14) (60 * nw) (60 * d) N) := ⟨_, rfl⟩
  have z1 : ∀ j, j ≠ 16 → A1 j = a j := fun j hj => by rw [hA1, va_up_ne _ _ hj]
  have z2 : ∀ j, j ≠ 17 → A2 j = A1 j := fun j hj => by rw [hA2, va_up_ne _ _ hj]
  have z3 : ∀ j, j ≠ 18 → A3 j = A2 j := fun j hj => by rw [hA3, va_up_ne _ _ hj]
  have z4 : ∀ j, j ≠ 19 → A4 j = A3 j := fun j hj => by rw [hA4, va_up_ne _ _ hj]
  have z5 : ∀ j, j ≠ 20 → A5 j = A4 j := fun j hj => by rw [hA5, va_up_ne _ _ hj]
  have z6 : ∀ j, j ≠ 21 → A6 j = A5 j := fun j hj => by rw [hA6, va_up_ne _ _ hj]
  have y4 : A4 13 d = nI N := by rw [z4 _ (by omega), z3 _ (by omega), z2 _ (by omega), z1 _ (by omega)]; exact h13
  have y5 : A5 13 d = nI N := by rw [z5 _ (by omega)]; exact y4
  have l1 := ak_l (g := g) (a := A5) (f := A5 21) hd hw hg y5 hN N 0 n (by omega) (by omega)
  rw [wt_0, va_upE, ← hA6] at l1
  have l1 : lp (bM_ak (nI d) g) n (0, A5) = some (.inr (va_up g 31 (nI (nw + 1)), A6)) := l1
  refine ⟨A6, ?_, ?_, ?_, ?_, ?_, ?_, ?_, fun j hj => ?_⟩
  · simp only [aM_f, hg, e8, e8', e3, e3', gd_T, lt]
    rw [← hA1, ← hA2, h44 A2 (fun j hj => by rw [z2 _ (by omega), z1 _ (by omega)]), jn_l, ← hA3, h50 A3 (fun j hj => by rw [z3 _ (by omega), z2 _ (by omega), z1 _ (by omega)]), jn_l, ← hA4, y4, ← hA5]
    exact l1
  · rw [z6 _ (by omega), z5 _ (by omega), z4 _ (by omega), z3 _ (by omega), z2 _ (by omega), hA1, va_up_self]
  · rw [z6 _ (by omega), z5 _ (by omega), z4 _ (by omega), z3 _ (by omega), hA2, va_up_self, z1 _ (by omega)]
  · rw [z6 _ (by omega), z5 _ (by omega), z4 _ (by omega), hA3, va_up_self, z2 _ (by omega), z1 _ (by omega)]
  · rw [z6 _ (by omega), z5 _ (by omega), hA4, va_up_self, z3 _ (by omega), z2 _ (by omega), z1 _ (by omega)]
  · rw [z6 _ (by omega), hA5, va_up_self, z4 _ (by omega), z3 _ (by omega), z2 _ (by omega), z1 _ (by omega)]
  · rw [hA6, va_up_self, z5 _ (by omega), z4 _ (by omega), z3 _ (by omega), z2 _ (by omega), z1 _ (by omega), z5 _ (by omega), z4 _ (by omega), z3 _ (by omega), z2 _ (by omega), z1 _ (by omega)]
  · rw [z6 _ (by omega), z5 _ (by omega), z4 _ (by omega), z3 _ (by omega), z2 _ (by omega), z1 _ (by omega)]
theorem isA_n (h : Vw gV aV g a v u) {L : Nat} (hL : L < v) (h3 : ¬ aV 0 L = 3) : mM_isSort n (nI L) 3 g a = some 0 := by
  obtain ⟨kk, k1, k2, k3, -⟩ := h.kd hL
  have hkk : ¬ kk = 3 := fun z => h3 (by rw [k2, z]; rfl)
  have := (isS_w (n := n) h hL k1 k2 k3).2.2.2.2
  rw [b01, if_neg hkk] at this
  exact this
theorem isA_y (h : Vw gV aV g a v u) {L : Nat} (hL : L < v) (h3 : aV 0 L = 3) : mM_isSort n (nI L) 3 g a = some 1 := by
  obtain ⟨kk, k1, k2, k3, -⟩ := h.kd hL
  have hkk : kk = 3 := by
    have : nI kk = nI 3 := k2.symm.trans h3
    rwa [nI_eq (by omega) (by omega)] at this
  have := (isS_w (n := n) h hL k1 k2 k3).2.2.2.2
  rw [b01, if_pos hkk] at this
  exact this
/-- a request of one of the four kinds -/
theorem ask_2 (h : Vw gV aV g a v u) {kd : Nat} {y i : Int32} {gE gN gS gZ gQ : aG} {aE aN aS aZ aQ : aA} {dP dO : aP} (hk : kd ≤ 3) (hy : mV_member n 9 gV aV = some y) (hy2 : y = -1 ∨ ∃ L, L < v ∧ y = nI L) (hi : rg i) (hN : IvA gN aN g a) (hD : IvD gS dP g a) (hQ : IvQ gQ dO g a) (hn : 300 < n) : ∃ gN' aN' gQ' dO' g' a', mE_ask n i (nI kd) gE aE gV aV gN aN gS aS gZ aZ dP gQ aQ dO = some (gN', aN', gQ', dO') ∧ aM_k n i y (nI kd) g a = some (.inr (g', a')) ∧ IvA gN' aN' g' a' ∧ IvQ gQ' dO' g' a' ∧ (∀ j, j ≠ 38 → j ≠ 31 → g' j = g j) ∧ (∀ j, j < 16 ∨ 25 < j → a' j = a j) := by
  obtain ⟨nd, d1, d2, d3, d4, d5⟩ := id hD
  obtain ⟨nw, w1, w2, w3, w4⟩ := id hQ
  have z0 : (0 : Int32) ≤ nI kd := nI_pos' (by omega)
  have ne2 : ¬ ((-32602 : Int32) = 0) := by decide
  have ne3 : ¬ ((-32803 : Int32) = 0) := by decide
  have nofit : (∀ f, fK n y (nI kd) gE aE gV aV gS aS dP f = f (-1)) → mM_fits n (nI kd) y g a = some 0 → ∃ gN' aN' gQ' dO' g' a', mE_ask n i (nI kd) gE aE gV aV gN aN gS aS gZ aZ dP gQ aQ dO = some (gN', aN', gQ', dO') ∧ aM_k n i y (nI kd) g a = some (.inr (g', a')) ∧ IvA gN' aN' g' a' ∧ IvQ gQ' dO' g' a' ∧ (∀ j, j ≠ 38 → j ≠ 31 → g' j = g j) ∧ (∀ j, j < 16 ∨ 25 < j → a' j = a j) := by
    intro hC hM
    obtain ⟨gN1, aN1, g1, a1, n1, n2, n3, n4, n5⟩ := err_2 (n := n) (i := i) (c := -32602) hN hi (rg_m (w := 32602) (by omega) (by omega))
    refine ⟨gN1, aN1, gQ, dO, g1, a1, ?_, ?_, n3, hQ.mv (n4 31 (by omega)) (fun j _ _ => n5 j (by omega)), fun j j1 _ => n4 j j1, fun j hj => n5 j (by omega)⟩
    · rw [askV_e, hy, bd_s, hC, aV_k, if_pos rfl, n1, bd_s]
    · rw [aM_k, if_pos z0, hM, bd_s, if_pos rfl, jn_l, if_neg ne2, n2, bd_s]
  rcases hy2 with rfl | ⟨L, hL, rfl⟩
  · obtain ⟨-, -, n3, n4, -⟩ := isS_n (n := n) (gV := gV) (aV := aV) (g := g) (a := a)
    obtain ⟨f1, f2⟩ := fit_n (n := n) (gE := gE) (aE := aE) hk n4 (n3 3) hn
    exact nofit (fun f => fK_0 f1) f2
  by_cases h3 : aV 0 L = 3
  · obtain ⟨K, w, hA⟩ := arr_of (n := n) h hL h3 (by omega)
    rcases fit_2 (n := n) (gE := gE) (aE := aE) (aS := aS) h hk hL h3 hA d1 d2 d3 d5 hn with ⟨f1, f2⟩ | ⟨w0, d, x0, hd, f1, f2, f3, f4, f5, f6, f7, f8⟩
    · exact nofit f1 f2
    · have nd1 : ¬ nI d = -1 := (nI_lt0 (show d < 100 by omega)).2
      have q8 : (nI nw = 8) ↔ nw = 8 := eq_L (b := 8) (by omega) (by decide)
      have q8' : (nI nw < 8) ↔ nw < 8 := lt_L (b := 8) (by omega) (by decide)
      by_cases hnw : nw = 8
      · obtain ⟨gN1, aN1, g1, a1, n1, n2, n3, n4, n5⟩ := err_2 (n := n) (i := i) (c := -32803) hN hi (rg_m (w := 32803) (by omega) (by omega))
        refine ⟨gN1, aN1, gQ, dO, g1, a1, ?_, ?_, n3, hQ.mv (n4 31 (by omega)) (fun j _ _ => n5 j (by omega)), fun j j1 _ => n4 j j1, fun j hj => n5 j (by omega)⟩
        · have isf : mQ_isFull n gQ aQ = some 1 := by rw [mQ_isFull, w2, if_neg (fun z => by have := q8'.mp z; omega)]
          rw [askV_e, hy, bd_s, fK_1 f1 f2 f3, aV_k, if_neg nd1, isf, bd_s, if_neg one_ne_zero, n1, bd_s]
        · rw [aM_k, if_pos z0, f4, bd_s, if_neg one_ne_zero, w3, if_pos (q8.mpr hnw), jn_l, if_neg ne3, n2, bd_s]
      · have hw8 : nw < 8 := by omega
        obtain ⟨N, t1, t2, t3, t4⟩ := (d5 d hd).2.2
        obtain ⟨gT, hgT⟩ : ∃ gT, gT = (dO nw).2.2.2.1 := ⟨_, rfl⟩
        obtain ⟨aT, haT⟩ : ∃ aT, aT = (dO nw).2.2.2.2 := ⟨_, rfl⟩
        have cp := cpyV (n := n) (gT := gT) (aT := aT) t1 t2 (fun i hi => (t4 i hi).2)
        obtain ⟨g21, hg21⟩ : ∃ g21, g21 = va_up (va_up (dO nw).2.1 1 i) 2 (nI kd) := ⟨_, rfl⟩
        have g21a : g21 1 = i := by rw [hg21, va_up_ne _ _ (by omega), va_up_self]
        have g21b : g21 2 = nI kd := by rw [hg21, va_up_self]
        obtain ⟨g27, xa, xb, k1, k2, k3, k4, k5, k6, k7⟩ := kpd (n := n) (L := L) (gK := g21) (aK := (dO nw).2.2.1) h hk g21b f7 f8
        obtain ⟨a', m0, m16, m17, m18, m19, m20, m21, mo⟩ := aMf (n := n) (g := g) (a := a) (i := i) (show d < 3 by omega) hw8 w3 t3 t1 k6 k7 hn
        have e8 : inb (nI nw) 8 = true := inb_T (by omega) (by omega)
        have e8' : (nI nw).toNatClampNeg = nw := nI_clamp (by omega)
        have e3 : inb (nI d) 3 = true := inb_T (by omega) (by omega)
        have e3' : (nI d).toNatClampNeg = d := nI_clamp (by omega)
        have e5 : nI (nw + 1) - 1 = nI nw := by
          have := sb_L (a := nw + 1) (b := 1) (by show 1 ≤ nw + 1; omega)
          exact this
        have qa : mQ_addRow gQ = some (nw, va_up gQ 1 (nI (nw + 1))) := by
          simp only [mQ_addRow, lt, w2, nI_1, va_up_self, e5, e8, e8', gd_T]
        have isf : mQ_isFull n gQ aQ = some 0 := by rw [mQ_isFull, w2, if_pos (q8'.mpr hw8)]
        refine ⟨gN, aN, va_up gQ 1 (nI (nw + 1)), va_up dO nw ((dO nw).1, g27, (dO nw).2.2.1, va_up gT 1 (nI N), va_up aT 0 (va_cpy ((dP d).2.2.2.2 0) (aT 0) 0 0 N)), va_up g 31 (nI (nw + 1)), a', ?_, ?_, hN.mv (va_up_ne _ _ (by omega)) (fun j _ _ => mo j (by omega)), ⟨nw + 1, by omega, va_up_self _ _ _, va_up_self _ _ _, fun w hw => ?_⟩, fun j _ j2 => va_up_ne _ _ j2, fun j hj => mo j (by omega)⟩
        · rw [askV_e, hy, bd_s, fK_1 f1 f2 f3, aV_k, if_neg nd1, isf, bd_s, if_pos rfl, qa, bd_s, lt, lt, e3, gd_T, e3', ← hg21, ← hgT, ← haT, cp, bd_s, k1, bd_s, lt]
        · rw [aM_k, if_pos z0, f4, bd_s, if_neg one_ne_zero, w3, if_neg (fun z => hnw (q8.mp z)), jn_l, if_pos rfl, f5, bd_s, f6, bd_s, m0]
        · by_cases hw' : w = nw
          · subst hw'
            rw [va_up_self]
            refine ⟨?_, ?_, ⟨kd, hk, ?_, ?_, fun z => ?_, fun z => ⟨?_, ?_⟩⟩, N, t1, ?_, ?_, fun j hj => ?_⟩
            · rw [m16, upd_eq]; exact k2.trans g21a
            · rw [m16, upd_eq]; exact hi
            · exact k3.trans g21b
            · rw [m17, upd_eq]
            · rw [m18, upd_eq]; exact k4 z
            · rw [m18, upd_eq]; exact (k5 z).1
            · rw [m19, upd_eq]; exact (k5 z).2
            · show va_up gT 1 (nI N) 1 = nI N
              exact va_up_self _ _ _
            · rw [m20, upd_eq]
            · show va_up aT 0 (va_cpy ((dP d).2.2.2.2 0) (aT 0) 0 0 N) 0 j = a' 21 (60 * w + j) ∧ chr (va_up aT 0 (va_cpy ((dP d).2.2.2.2 0) (aT 0) 0 0 N) 0 j)
              rw [va_up_self, cpy0 hj, m21, wtp hj]
              exact t4 j hj
          · rw [va_up_ne _ _ hw']
            refine (w4 w (by omega)).mv ⟨?_, ?_, ?_, ?_, ?_, fun k hk => ?_⟩
            · rw [m16, upd_ne hw']
            · rw [m17, upd_ne hw']
            · rw [m18, upd_ne hw']
            · rw [m19, upd_ne hw']
            · rw [m20, upd_ne hw']
            · rw [m21]; unfold wt; rw [if_neg (by omega)]
  · obtain ⟨f1, f2⟩ := fit_n (n := n) (gE := gE) (aE := aE) hk (itm_no (n := n) h hL h3) (isA_n h hL h3) hn
    exact nofit (fun f => fK_0 f1) f2
end AQ
