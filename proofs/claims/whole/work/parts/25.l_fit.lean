section AK
variable {gV : aG} {aV : aA} {g : aG} {a : aA} {v u n : Nat}
def fK (n : Nat) (y kd : Int32) (gE : aG) (aE : aA) (gV : aG) (aV : aA) (gS : aG) (aS : aA) (dP : aP) (f : Int32 → Option (aG × aA × aG × aP)) : Option (aG × aA × aG × aP) := bd (mE_fitsKind n y kd gE aE gV aV) (fun x4 => jn (α := Int32) (if x4 = 0 then (some (.inl (-1))) else (bd (mV_item n y 0 gV aV) (fun x40 => bd (mS_find n x40 gS aS gV aV dP) (fun x43 => some (.inl x43))))) f)
theorem fK_0 {y kd : Int32} {gE : aG} {aE : aA} {gS : aG} {aS : aA} {dP : aP} {f : Int32 → Option (aG × aA × aG × aP)} (h : mE_fitsKind n y kd gE aE gV aV = some 0) : fK n y kd gE aE gV aV gS aS dP f = f (-1) := by
  rw [fK, h, bd_s, if_pos rfl, jn_l]
theorem fK_1 {y kd z d : Int32} {gE : aG} {aE : aA} {gS : aG} {aS : aA} {dP : aP} {f : Int32 → Option (aG × aA × aG × aP)} (h : mE_fitsKind n y kd gE aE gV aV = some 1) (h2 : mV_item n y 0 gV aV = some z) (h3 : mS_find n z gS aS gV aV dP = some d) : fK n y kd gE aE gV aV gS aS dP f = f d := by
  rw [fK, h, bd_s, if_neg one_ne_zero, h2, bd_s, h3, bd_s, jn_l]
/-- no array: no fit -/
theorem fit_n {y : Int32} {kd : Nat} {gE : aG} {aE : aA} (hk : kd ≤ 3) (hy : ∀ k, mV_item n y k gV aV = some (-1)) (hS : mM_isSort n y 3 g a = some 0) (hn : 300 < n) : mE_fitsKind n y (nI kd) gE aE gV aV = some 0 ∧ mM_fits n (nI kd) y g a = some 0 := by
  have s10 := hsp_n (n := n) (i := 10) hy (by decide +kernel) (by decide +kernel) (by decide +kernel) hn
  have s11 := hsp_n (n := n) (i := 11) hy (by decide +kernel) (by decide +kernel) (by decide +kernel) hn
  have s12 := hsp_n (n := n) (i := 12) hy (by decide +kernel) (by decide +kernel) (by decide +kernel) hn
  have q1 : (nI kd = 1) ↔ kd = 1 := eq_L (b := 1) (by omega) (by decide)
  have q2 : (nI kd = 2) ↔ kd = 2 := eq_L (b := 2) (by omega) (by decide)
  refine ⟨?_, by rw [mM_fits, hS, bd_s, if_pos rfl]⟩
  by_cases c1 : kd = 1
  · rw [mE_fitsKind, if_pos (q1.mpr c1), s10, bd_s, if_pos rfl]
  · rw [mE_fitsKind, if_neg (fun z => c1 (q1.mp z))]
    by_cases c2 : kd = 2
    · rw [if_pos (q2.mpr c2), s11, bd_s, okz_0, gd_T]
    · rw [if_neg (fun z => c2 (q2.mp z)), s12, bd_s, okz_0, gd_T]
/-- what fits on both sides -/
def FitY (n : Nat) (gE : aG) (aE : aA) (gV : aG) (aV : aA) (gS : aG) (aS : aA) (dP : aP) (g : aG) (a : aA) (v u nd kd L : Nat) : Prop := ∃ w0 d, w0 < v ∧ d < nd ∧ mE_fitsKind n (nI L) (nI kd) gE aE gV aV = some 1 ∧ mV_item n (nI L) 0 gV aV = some (nI w0) ∧ mS_find n (nI w0) gS aS gV aV dP = some (nI d) ∧ mM_fits n (nI kd) (nI L) g a = some 1 ∧ mM_item n (nI L) 0 g a = some (nI w0) ∧ mM_documentOf n (nI w0) g a = some (nI d) ∧ (kd = 1 → ∃ w1 s, w1 < v ∧ isT aV a u w1 s 1 ∧ mV_item n (nI L) 1 gV aV = some (nI w1) ∧ mM_item n (nI L) 1 g a = some (nI w1)) ∧ (kd = 2 → ∃ w1 w2, w1 < v ∧ w2 < v ∧ mV_numberAt n (nI L) 1 gV aV = some (a 2 w1) ∧ mV_numberAt n (nI L) 2 gV aV = some (a 2 w2) ∧ mM_item n (nI L) 1 g a = some (nI w1) ∧ mM_item n (nI L) 2 g a = some (nI w2))
def FitN (n : Nat) (gE : aG) (aE : aA) (gV : aG) (aV : aA) (gS : aG) (aS : aA) (dP : aP) (g : aG) (a : aA) (kd L : Nat) : Prop := (∀ f, fK n (nI L) (nI kd) gE aE gV aV gS aS dP f = f (-1)) ∧ mM_fits n (nI kd) (nI L) g a = some 0
theorem fit_2 (h : Vw gV aV g a v u) {L K nd kd : Nat} {w : Nat → Nat} {gE gS : aG} {aE aS : aA} {dP : aP} (hk : kd ≤ 3) (hL : L < v) (h3 : aV 0 L = 3) (hA : Arr n gV aV g a v L K w) (d1 : nd ≤ 3) (d2 : gS 2 = nI nd) (d3 : g 22 = nI nd) (d5 : ∀ d, d < nd → docR (dP d) a d) (hn : 300 < n) : FitN n gE aE gV aV gS aS dP g a kd L ∨ FitY n gE aE gV aV gS aS dP g a v u nd kd L := by
  have hv := h.1
  have hK39 := hA.1
  have q1 : (nI kd = 1) ↔ kd = 1 := eq_L (b := 1) (by omega) (by decide)
  have q2 : (nI kd = 2) ↔ kd = 2 := eq_L (b := 2) (by omega) (by decide)
  have l10 : slen 10 = 2 := by decide +kernel
  have l11 : slen 11 = 3 := by decide +kernel
  have l12 : slen 12 = 1 := by decide +kernel
  obtain ⟨p10, p10n⟩ := hsp (n := n) (i := 10) h hL hA (by omega) (by rw [l10]; decide +kernel) hn
  obtain ⟨p11, p11n⟩ := hsp (n := n) (i := 11) h hL hA (by omega) (by rw [l11]; decide +kernel) hn
  obtain ⟨p12, p12n⟩ := hsp (n := n) (i := 12) h hL hA (by omega) (by rw [l12]; decide +kernel) hn
  rw [l10] at p10 p10n
  rw [l11] at p11 p11n
  rw [l12] at p12 p12n
  have b100 : sbyt 10 0 = 115 := by decide +kernel
  have b101 : sbyt 10 1 = 115 := by decide +kernel
  have b110 : sbyt 11 0 = 115 := by decide +kernel
  have b111 : ¬ sbyt 11 1 = 115 := by decide +kernel
  have b112 : ¬ sbyt 11 2 = 115 := by decide +kernel
  have b120 : sbyt 12 0 = 115 := by decide +kernel
  have hS3 : mM_isSort n (nI L) 3 g a = some 1 := by
    obtain ⟨kk, k1, k2, k3, -⟩ := h.kd hL
    have hkk : kk = 3 := by
      have : nI kk = nI 3 := k2.symm.trans h3
      rwa [nI_eq (by omega) (by omega)] at this
    have := (isS_w (n := n) h hL k1 k2 k3).2.2.2.2
    rw [b01, if_pos hkk] at this
    exact this
  have hit := hA.2.2.1
  have m1 : ¬ (0 : Int32) ≤ -1 := by decide
  -- the first item of a fitting array
  have doc : ∀ w0, w0 < v → aV 0 w0 = 2 → ∃ y, mS_find n (nI w0) gS aS gV aV dP = some y ∧ mM_documentOf n (nI w0) g a = some y ∧ (y = -1 ∨ ∃ i, i < nd ∧ y = nI i) := fun w0 hw0 hs0 => by
    obtain ⟨s, z, hT⟩ := h.str hw0 hs0
    exact fnd_2x (n := n) (aS := aS) h hw0 hT hn d1 d2 d3 d5
  by_cases c1 : kd = 1
  · have e1 := q1.mpr c1
    have fe : ∀ x2, mV_hasShape n 10 (nI L) gV aV = some x2 → mE_fitsKind n (nI L) (nI kd) gE aE gV aV = if x2 = 0 then some 0 else bd (mV_item n (nI L) 1 gV aV) (fun x6 => bd (mV_sizeOf n x6 gV aV) (fun x9 => if x9 = 1 then (some (1)) else (some (0)))) := fun x2 hx => by rw [mE_fitsKind, if_pos e1, hx, bd_s]
    by_cases hK : K = 2
    · subst hK
      have c2 : nI 2 = 2 := rfl
      obtain ⟨-, x0, i0c, i0d⟩ := hA.2.2.2.1 0 (by omega)
      obtain ⟨-, x1, i1c, i1d⟩ := hA.2.2.2.1 1 (by omega)
      have i0c : mV_item n (nI L) 0 gV aV = some (nI (w 0)) := i0c
      have i0d : mM_item n (nI L) 0 g a = some (nI (w 0)) := i0d
      have i1c : mV_item n (nI L) 1 gV aV = some (nI (w 1)) := i1c
      have i1d : mM_item n (nI L) 1 g a = some (nI (w 1)) := i1d
      obtain ⟨-, -, k1s, k1n⟩ := knd (n := n) h x1
      by_cases hs0 : aV 0 (w 0) = 2
      · obtain ⟨y, y1, y2, y3⟩ := doc (w 0) x0 hs0
        by_cases hs1 : aV 0 (w 1) = 2
        · have hsh := p10 ⟨rfl, fun j hj => by
            have : j = 0 ∨ j = 1 := by omega
            unfold KM
            rcases this with rfl | rfl
            · rw [if_pos b100]; exact hs0
            · rw [if_pos b101]; exact hs1⟩
          obtain ⟨s, z, hT⟩ := h.str x1 hs1
          have hz := (num_w (n := n) h x1).2
          have hu := h.2.2.1
          have t7 := hT.2.2.2.2.2.2
          rw [hT.2.2.2.2.1] at hz
          have ez : (nI z = 1) ↔ z = 1 := eq_L (b := 1) (by omega) (by decide)
          have f1 := fe 1 hsh
          rw [if_neg one_ne_zero, i1c, bd_s, hz, bd_s] at f1
          obtain ⟨-, -, -, e4, e5⟩ := h.nv x1
          have t6 := hT.2.2.2.2.2.1
          by_cases hz1 : z = 1
          · rw [if_pos (ez.mpr hz1)] at f1
            rcases y3 with rfl | ⟨d, hd, rfl⟩
            · refine .inl ⟨fun f => fK_1 f1 i0c y1, ?_⟩
              simp only [mM_fits, hS3, bd_s, one_ne_zero, reduceIte, hit, e1, jn_l, if_pos c2, i0d, y2, m1]
            · have z3 : (0 : Int32) ≤ nI d := nI_pos' (by omega)
              refine .inr ⟨w 0, d, x0, hd, f1, i0c, y1, ?_, i0d, y2, fun _ => ⟨w 1, s, x1, hz1 ▸ hT, i1c, i1d⟩, fun z => by omega⟩
              simp only [mM_fits, hS3, bd_s, one_ne_zero, reduceIte, hit, e1, jn_l, if_pos c2, i0d, y2, z3, i1d, k1s hs1, e4, e5, t6, gd_T, lt, if_pos (ez.mpr hz1)]
          · rw [if_neg (fun q => hz1 (ez.mp q))] at f1
            refine .inl ⟨fun f => fK_0 f1, ?_⟩
            rcases y3 with rfl | ⟨d, hd, rfl⟩
            · simp only [mM_fits, hS3, bd_s, one_ne_zero, reduceIte, hit, e1, jn_l, if_pos c2, i0d, y2, m1]
            · have z3 : (0 : Int32) ≤ nI d := nI_pos' (by omega)
              simp only [mM_fits, hS3, bd_s, one_ne_zero, reduceIte, hit, e1, jn_l, if_pos c2, i0d, y2, z3, i1d, k1s hs1, e4, e5, t6, gd_T, lt, if_neg (fun q => hz1 (ez.mp q))]
        · have hsh := p10n (fun q => hs1 (by have := q.2 1 (by omega); unfold KM at this; rwa [if_pos b101] at this))
          have f1 := fe 0 hsh
          rw [if_pos rfl] at f1
          refine .inl ⟨fun f => fK_0 f1, ?_⟩
          rcases y3 with rfl | ⟨d, hd, rfl⟩
          · simp only [mM_fits, hS3, bd_s, one_ne_zero, reduceIte, hit, e1, jn_l, if_pos c2, i0d, y2, m1]
          · have z3 : (0 : Int32) ≤ nI d := nI_pos' (by omega)
            simp only [mM_fits, hS3, bd_s, one_ne_zero, reduceIte, hit, e1, jn_l, if_pos c2, i0d, y2, z3, i1d, k1n hs1]
      · have hsh := p10n (fun q => hs0 (by have := q.2 0 (by omega); unfold KM at this; rwa [if_pos b100] at this))
        have f1 := fe 0 hsh
        rw [if_pos rfl] at f1
        refine .inl ⟨fun f => fK_0 f1, ?_⟩
        simp only [mM_fits, hS3, bd_s, one_ne_zero, reduceIte, hit, e1, jn_l, if_pos c2, i0d, dc_n (n := n) h x0 hs0, m1]
    · have f1 := fe 0 (p10n (fun q => hK q.1))
      rw [if_pos rfl] at f1
      have c2 : ¬ nI K = 2 := by rw [eq_L (b := 2) (by omega) (by decide)]; exact hK
      refine .inl ⟨fun f => fK_0 f1, ?_⟩
      simp only [mM_fits, hS3, bd_s, one_ne_zero, reduceIte, hit, e1, jn_l, c2]
  have e1 : ¬ nI kd = 1 := fun z => c1 (q1.mp z)
  by_cases c2 : kd = 2
  · have e2 := q2.mpr c2
    have e21 : ¬ (2 : Int32) = 1 := by decide
    have fe : ∀ x2, mV_hasShape n 11 (nI L) gV aV = some x2 → okz x2 = true → mE_fitsKind n (nI L) (nI kd) gE aE gV aV = some x2 := fun x2 hx ho => by rw [mE_fitsKind, if_neg e1, if_pos e2, hx, bd_s, ho, gd_T]
    by_cases hK : K = 3
    · subst hK
      have c3 : nI 3 = 3 := rfl
      obtain ⟨-, x0, i0c, i0d⟩ := hA.2.2.2.1 0 (by omega)
      obtain ⟨-, x1, i1c, i1d⟩ := hA.2.2.2.1 1 (by omega)
      obtain ⟨-, x2, i2c, i2d⟩ := hA.2.2.2.1 2 (by omega)
      have i0c : mV_item n (nI L) 0 gV aV = some (nI (w 0)) := i0c
      have i0d : mM_item n (nI L) 0 g a = some (nI (w 0)) := i0d
      have i1c : mV_item n (nI L) 1 gV aV = some (nI (w 1)) := i1c
      have i1d : mM_item n (nI L) 1 g a = some (nI (w 1)) := i1d
      have i2c : mV_item n (nI L) 2 gV aV = some (nI (w 2)) := i2c
      have i2d : mM_item n (nI L) 2 g a = some (nI (w 2)) := i2d
      obtain ⟨k1s, k1n, -, -⟩ := knd (n := n) h x1
      obtain ⟨k2s, k2n, -, -⟩ := knd (n := n) h x2
      by_cases hs0 : aV 0 (w 0) = 2
      · obtain ⟨y, y1, y2, y3⟩ := doc (w 0) x0 hs0
        by_cases hs1 : aV 0 (w 1) = 1
        · by_cases hs2 : aV 0 (w 2) = 1
          · have hsh := p11 ⟨rfl, fun j hj => by
              have : j = 0 ∨ j = 1 ∨ j = 2 := by omega
              unfold KM
              rcases this with rfl | rfl | rfl
              · rw [if_pos b110]; exact hs0
              · rw [if_neg b111]; exact hs1
              · rw [if_neg b112]; exact hs2⟩
            have f1 := fe 1 hsh okz_1
            obtain ⟨k1a, k1b, k1c⟩ := k1s hs1
            obtain ⟨k2a, k2b, k2c⟩ := k2s hs2
            have nb1 : mV_numberAt n (nI L) 1 gV aV = some (a 2 (w 1)) := by rw [mV_numberAt, i1c, bd_s, k1b, bd_s]
            have nb2 : mV_numberAt n (nI L) 2 gV aV = some (a 2 (w 2)) := by rw [mV_numberAt, i2c, bd_s, k2b, bd_s]
            rcases y3 with rfl | ⟨d, hd, rfl⟩
            · refine .inl ⟨fun f => fK_1 f1 i0c y1, ?_⟩
              simp only [mM_fits, hS3, bd_s, one_ne_zero, reduceIte, hit, if_neg e1, if_pos e2, jn_l, if_pos c3, i0d, y2, m1]
            · have z3 : (0 : Int32) ≤ nI d := nI_pos' (by omega)
              refine .inr ⟨w 0, d, x0, hd, f1, i0c, y1, ?_, i0d, y2, fun z => by omega, fun _ => ⟨w 1, w 2, x1, x2, nb1, nb2, i1d, i2d⟩⟩
              simp only [mM_fits, hS3, bd_s, one_ne_zero, reduceIte, hit, if_neg e1, if_pos e2, jn_l, if_pos c3, i0d, y2, z3, i1d, k1a, i2d, k2a]
          · have f1 := fe 0 (p11n (fun q => hs2 (by have := q.2 2 (by omega); unfold KM at this; rwa [if_neg b112] at this))) okz_0
            refine .inl ⟨fun f => fK_0 f1, ?_⟩
            rcases y3 with rfl | ⟨d, hd, rfl⟩
            · simp only [mM_fits, hS3, bd_s, one_ne_zero, reduceIte, hit, if_neg e1, if_pos e2, jn_l, if_pos c3, i0d, y2, m1]
            · have z3 : (0 : Int32) ≤ nI d := nI_pos' (by omega)
              simp only [mM_fits, hS3, bd_s, one_ne_zero, reduceIte, hit, if_neg e1, if_pos e2, jn_l, if_pos c3, i0d, y2, z3, i1d, (k1s hs1).1, i2d, k2n hs2]
        · have f1 := fe 0 (p11n (fun q => hs1 (by have := q.2 1 (by omega); unfold KM at this; rwa [if_neg b111] at this))) okz_0
          refine .inl ⟨fun f => fK_0 f1, ?_⟩
          rcases y3 with rfl | ⟨d, hd, rfl⟩
          · simp only [mM_fits, hS3, bd_s, one_ne_zero, reduceIte, hit, if_neg e1, if_pos e2, jn_l, if_pos c3, i0d, y2, m1]
          · have z3 : (0 : Int32) ≤ nI d := nI_pos' (by omega)
            simp only [mM_fits, hS3, bd_s, one_ne_zero, reduceIte, hit, if_neg e1, if_pos e2, jn_l, if_pos c3, i0d, y2, z3, i1d, k1n hs1]
      · have f1 := fe 0 (p11n (fun q => hs0 (by have := q.2 0 (by omega); unfold KM at this; rwa [if_pos b110] at this))) okz_0
        refine .inl ⟨fun f => fK_0 f1, ?_⟩
        simp only [mM_fits, hS3, bd_s, one_ne_zero, reduceIte, hit, if_neg e1, if_pos e2, jn_l, if_pos c3, i0d, dc_n (n := n) h x0 hs0, m1]
    · have f1 := fe 0 (p11n (fun q => hK q.1)) okz_0
      have c3 : ¬ nI K = 3 := by rw [eq_L (b := 3) (by omega) (by decide)]; exact hK
      refine .inl ⟨fun f => fK_0 f1, ?_⟩
      simp only [mM_fits, hS3, bd_s, one_ne_zero, reduceIte, hit, if_neg e1, if_pos e2, jn_l, c3]
  have e2 : ¬ nI kd = 2 := fun z => c2 (q2.mp z)
  have fe : ∀ x2, mV_hasShape n 12 (nI L) gV aV = some x2 → okz x2 = true → mE_fitsKind n (nI L) (nI kd) gE aE gV aV = some x2 := fun x2 hx ho => by rw [mE_fitsKind, if_neg e1, if_neg e2, hx, bd_s, ho, gd_T]
  by_cases hK : K = 1
  · subst hK
    have c3 : nI 1 = 1 := rfl
    obtain ⟨-, x0, i0c, i0d⟩ := hA.2.2.2.1 0 (by omega)
    have i0c : mV_item n (nI L) 0 gV aV = some (nI (w 0)) := i0c
    have i0d : mM_item n (nI L) 0 g a = some (nI (w 0)) := i0d
    by_cases hs0 : aV 0 (w 0) = 2
    · obtain ⟨y, y1, y2, y3⟩ := doc (w 0) x0 hs0
      have f1 := fe 1 (p12 ⟨rfl, fun j hj => by
        have : j = 0 := by omega
        subst this
        unfold KM; rw [if_pos b120]; exact hs0⟩) okz_1
      rcases y3 with rfl | ⟨d, hd, rfl⟩
      · refine .inl ⟨fun f => fK_1 f1 i0c y1, ?_⟩
        simp only [mM_fits, hS3, bd_s, one_ne_zero, reduceIte, hit, if_neg e1, if_neg e2, jn_l, if_pos c3, i0d, y2, m1]
      · have z3 : (0 : Int32) ≤ nI d := nI_pos' (by omega)
        refine .inr ⟨w 0, d, x0, hd, f1, i0c, y1, ?_, i0d, y2, fun z => by omega, fun z => by omega⟩
        simp only [mM_fits, hS3, bd_s, one_ne_zero, reduceIte, hit, if_neg e1, if_neg e2, jn_l, if_pos c3, i0d, y2, z3]
    · have f1 := fe 0 (p12n (fun q => hs0 (by have := q.2 0 (by omega); unfold KM at this; rwa [if_pos b120] at this))) okz_0
      refine .inl ⟨fun f => fK_0 f1, ?_⟩
      simp only [mM_fits, hS3, bd_s, one_ne_zero, reduceIte, hit, if_neg e1, if_neg e2, jn_l, if_pos c3, i0d, dc_n (n := n) h x0 hs0, m1]
  · have f1 := fe 0 (p12n (fun q => hK q.1)) okz_0
    have c3 : ¬ nI K = 1 := by rw [eq_L (b := 1) (by omega) (by decide)]; exact hK
    refine .inl ⟨fun f => fK_0 f1, ?_⟩
    simp only [mM_fits, hS3, bd_s, one_ne_zero, reduceIte, hit, if_neg e1, if_neg e2, jn_l, c3]
end AK
