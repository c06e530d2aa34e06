def StE (gE g : aG) : Prop := ∃ st : Nat, st ≤ 3 ∧ gE 5 = nI st ∧ g 0 = nI st ∧ gE 6 = (if st = 3 then g 1 else -1) ∧ gE 7 = g 2 ∧ gE 8 = g 30
def NtG (n : Nat) (x y : Int32) (gE : aG) (aE : aA) (gV : aG) (aV : aA) (gN : aG) (aN : aA) (gS : aG) (aS : aA) (gZ : aG) (aZ : aA) (dP : aP) (gQ : aG) (aQ : aA) (dO : aP) (g : aG) (a : aA) : Prop := ∃ gE' gN' aN' gS' gZ' aZ' dP' gQ' dO' g' a', mE_takeNotification n x gE aE gV aV gN aN gS aS gZ aZ dP gQ aQ dO = some (gE', gN', aN', gS', gZ', aZ', dP', gQ', dO') ∧ mM_notice n x y g a = some (g', a') ∧ StE gE' g' ∧ IvA gN' aN' g' a' ∧ IvD gS' dP' g' a' ∧ IvQ gQ' dO' g' a' ∧ g' 3 = g 3 ∧ g' 4 = g 4 ∧ g' 5 = g 5
section NO
variable {gV : aG} {aV : aA} {g : aG} {a : aA} {v u n : Nat}
theorem opn_n {y : Int32} {gS : aG} {aS : aA} {dP : aP} (hy : ∀ k, mV_item n y k gV aV = some (-1)) (hn : 300 < n) : mS_open n y gS aS gV aV dP = some (0, gS, dP) := by
  have hsh := hsp_n (n := n) (i := 17) hy (by decide +kernel) (by decide +kernel) (by decide +kernel) hn
  rw [mS_open, hsh, bd_s, if_pos rfl]
theorem cls_n {y : Int32} {gS : aG} {aS : aA} {dP : aP} (hy : ∀ k, mV_item n y k gV aV = some (-1)) (hn : 300 < n) : mS_close n y gS aS gV aV dP = some (0, gS, dP) := by
  have hsh := hsp_n (n := n) (i := 19) hy (by decide +kernel) (by decide +kernel) (by decide +kernel) hn
  rw [mS_close, hsh, bd_s, if_pos rfl, jn_l, if_pos rfl]
theorem chg_n {y : Int32} {gS gZ : aG} {aS aZ : aA} {dP : aP} (hy : ∀ k, mV_item n y k gV aV = some (-1)) (hn : 300 < n) : mS_change n y gS aS gZ aZ gV aV dP = some (0, gZ, aZ, dP) := by
  have hsh := hsp_n (n := n) (i := 21) hy (by decide +kernel) (by decide +kernel) (by decide +kernel) hn
  rw [mS_change, hsh, bd_s, if_pos rfl, jn_l, if_pos rfl]
theorem not_2 (h : Vw gV aV g a v u) {w st : Nat} {y : Int32} {gE gN gS gZ gQ : aG} {aE aN aS aZ aQ : aA} {dP dO : aP} (hw : w < v) (h2 : aV 0 w = 2) (hst : st < 3) (hE : gE 5 = nI st) (hg : g 0 = nI st) (h6 : gE 6 = -1) (h7 : gE 7 = g 2) (h8 : gE 8 = g 30) (hy : mV_member n 9 gV aV = some y) (hy2 : y = -1 ∨ ∃ L, L < v ∧ y = nI L) (hN : IvA gN aN g a) (hD : IvD gS dP g a) (hQ : IvQ gQ dO g a) (hn : 300 < n) : NtG n (nI w) y gE aE gV aV gN aN gS aS gZ aZ dP gQ aQ dO g a := by
  obtain ⟨s, z, hT⟩ := h.str hw h2
  have q1 : (nI st = 1) ↔ st = 1 := eq_L (b := 1) (by omega) (by decide)
  have q2 : (nI st = 2) ↔ st = 2 := eq_L (b := 2) (by omega) (by decide)
  by_cases e15 : eqs (a 8) s z 15
  · have v15 := (spv15 h hw hT hn).1 e15
    have m15 := (say15 h hw hT hn).1 e15
    by_cases s2 : st = 2
    · refine ⟨va_up (va_up gE 6 0) 5 3, gN, aN, gS, gZ, aZ, dP, gQ, dO, va_up (va_up g 1 0) 0 3, a, ?_, ?_, ⟨3, by omega, rfl, rfl, rfl, h7, h8⟩, hN, hD, hQ, rfl, rfl, rfl⟩
      · rw [mE_takeNotification, v15, bd_s, if_neg one_ne_zero, hE, if_pos (q2.mpr s2), lt, lt]
      · rw [mM_notice, m15, bd_s, if_neg one_ne_zero, hg, if_pos (q2.mpr s2), lt, lt]
    · refine ⟨va_up (va_up gE 6 1) 5 3, gN, aN, gS, gZ, aZ, dP, gQ, dO, va_up (va_up g 1 1) 0 3, a, ?_, ?_, ⟨3, by omega, rfl, rfl, rfl, h7, h8⟩, hN, hD, hQ, rfl, rfl, rfl⟩
      · rw [mE_takeNotification, v15, bd_s, if_neg one_ne_zero, hE, if_neg (fun z => s2 (q2.mp z)), lt, lt]
      · rw [mM_notice, m15, bd_s, if_neg one_ne_zero, hg, if_neg (fun z => s2 (q2.mp z)), lt, lt]
  have v15 := (spv15 h hw hT hn).2 e15
  have m15 := (say15 h hw hT hn).2 e15
  by_cases s1 : st = 1
  · have c1 := q1.mpr s1
    have fin : ∀ r gN' aN' gS' gZ' aZ' dP' gQ' dO' g1 a1, (r = 0 ∨ r = 1) → mE_follow n (nI w) gE aE gV aV gN aN gS aS gZ aZ dP gQ aQ dO = some (r, gN', aN', gS', gZ', aZ', dP', gQ', dO') → (r = 0 → mM_notice n (nI w) y g a = some (va_up g1 30 (g1 30 + 1), a1)) → (r = 1 → mM_notice n (nI w) y g a = some (g1, a1)) → IvA gN' aN' g1 a1 → IvD gS' dP' g1 a1 → IvQ gQ' dO' g1 a1 → (∀ j, j < 6 ∨ j = 30 → g1 j = g j) → NtG n (nI w) y gE aE gV aV gN aN gS aS gZ aZ dP gQ aQ dO g a := by
      intro r gN' aN' gS' gZ' aZ' dP' gQ' dO' g1 a1 hr hf hr0 hr1 i1 i2 i3 fr
      rcases hr with rfl | rfl
      · refine ⟨va_up gE 8 (gE 8 + 1), gN', aN', gS', gZ', aZ', dP', gQ', dO', va_up g1 30 (g1 30 + 1), a1, ?_, hr0 rfl, ⟨st, by omega, hE, (fr 0 (by omega)).trans hg, ?_, ?_, ?_⟩, i1, i2, i3, fr 3 (by omega), fr 4 (by omega), fr 5 (by omega)⟩
        · rw [mE_takeNotification, v15, bd_s, if_pos rfl, hE, if_pos c1, hf, bd_s, if_pos rfl, lt]
        · rw [if_neg (by omega)]; exact h6
        · exact h7.trans (fr 2 (by omega)).symm
        · rw [va_up_self, va_up_self, h8, fr 30 (by omega)]
      · refine ⟨gE, gN', aN', gS', gZ', aZ', dP', gQ', dO', g1, a1, ?_, hr1 rfl, ⟨st, by omega, hE, (fr 0 (by omega)).trans hg, ?_, ?_, ?_⟩, i1, i2, i3, fr 3 (by omega), fr 4 (by omega), fr 5 (by omega)⟩
        · rw [mE_takeNotification, v15, bd_s, if_pos rfl, hE, if_pos c1, hf, bd_s, if_neg one_ne_zero]
        · rw [if_neg (by omega)]; exact h6
        · exact h7.trans (fr 2 (by omega)).symm
        · exact h8.trans (fr 30 (by omega)).symm
    have no : (∀ k, mV_item n y k gV aV = some (-1)) → mM_isSort n y 3 g a = some 0 → NtG n (nI w) y gE aE gV aV gN aN gS aS gZ aZ dP gQ aQ dO g a := by
      intro hi hS
      have hm : mM_notice n (nI w) y g a = some (va_up g 30 (g 30 + 1), a) := by
        simp only [mM_notice, m15, bd_s, reduceIte, hg, c1, hS, jn_l, lt]
      refine fin 0 gN aN gS gZ aZ dP gQ dO g a (.inl rfl) ?_ (fun _ => hm) (fun q => absurd q (by decide)) hN hD hQ (fun _ _ => rfl)
      by_cases e16 : eqs (a 8) s z 16
      · rw [mE_follow, hy, bd_s, (spv16 h hw hT hn).1 e16, bd_s, if_neg one_ne_zero, opn_n hi hn, bd_s, okz_0, gd_T]
      rw [mE_follow, hy, bd_s, (spv16 h hw hT hn).2 e16, bd_s, if_pos rfl]
      by_cases e18 : eqs (a 8) s z 18
      · rw [(spv18 h hw hT hn).1 e18, bd_s, if_neg one_ne_zero, cls_n hi hn, bd_s, okz_0, gd_T]
      rw [(spv18 h hw hT hn).2 e18, bd_s, if_pos rfl]
      by_cases e20 : eqs (a 8) s z 20
      · rw [(spv20 h hw hT hn).1 e20, bd_s, if_neg one_ne_zero, chg_n hi hn, bd_s, okz_0, gd_T]
      rw [(spv20 h hw hT hn).2 e20, bd_s, if_pos rfl]
      by_cases e23 : eqs (a 8) s z 23
      · rw [(spv23 h hw hT hn).1 e23, bd_s, if_neg one_ne_zero, cnc_n hi hn, bd_s, if_pos rfl]
      rw [(spv23 h hw hT hn).2 e23, bd_s, if_pos rfl]
    rcases hy2 with rfl | ⟨L, hL, rfl⟩
    · obtain ⟨-, -, n3, n4, -⟩ := isS_n (n := n) (gV := gV) (aV := aV) (g := g) (a := a)
      exact no n4 (n3 3)
    by_cases h3 : aV 0 L = 3
    · obtain ⟨K, ws, hA⟩ := arr_of (n := n) h hL h3 (by omega)
      have hS := isA_y (n := n) h hL h3
      by_cases e16 : eqs (a 8) s z 16
      · obtain ⟨r, gS', dP', g', a', o1, o2, o3, o4, o5, o6⟩ := opn_2 (n := n) (aS := aS) h hL hA hD hn
        refine fin r gN aN gS' gZ aZ dP' gQ dO g' a' o3 ?_ (fun q => ?_) (fun q => ?_) (hN.mv (o5 38 (by omega)) (fun j _ _ => o6 j (by omega))) o4 (hQ.mv (o5 31 (by omega)) (fun j _ _ => o6 j (by omega))) (fun j hj => o5 j (by omega))
        · rw [mE_follow, hy, bd_s, (spv16 h hw hT hn).1 e16, bd_s, if_neg one_ne_zero, o1, bd_s, okz_r o3, gd_T]
        · subst q
          simp only [mM_notice, m15, bd_s, reduceIte, hg, c1, hS, one_ne_zero, (say16 h hw hT hn).1 e16, o2, jn_r, lt]
        · subst q
          simp only [mM_notice, m15, bd_s, reduceIte, hg, c1, hS, one_ne_zero, (say16 h hw hT hn).1 e16, o2, jn_r]
      have m16 := (say16 h hw hT hn).2 e16
      by_cases e18 : eqs (a 8) s z 18
      · obtain ⟨r, gS', dP', g', a', o1, o2, o3, o4, o5, o6⟩ := cls_2 (n := n) (aS := aS) h hL hA hD hn
        refine fin r gN aN gS' gZ aZ dP' gQ dO g' a' o3 ?_ (fun q => ?_) (fun q => ?_) (hN.mv (o5 38 (by omega)) (fun j _ _ => o6 j (by omega))) o4 (hQ.mv (o5 31 (by omega)) (fun j _ _ => o6 j (by omega))) (fun j hj => o5 j (by omega))
        · rw [mE_follow, hy, bd_s, (spv16 h hw hT hn).2 e16, bd_s, if_pos rfl, (spv18 h hw hT hn).1 e18, bd_s, if_neg one_ne_zero, o1, bd_s, okz_r o3, gd_T]
        · subst q
          simp only [mM_notice, m15, bd_s, reduceIte, hg, c1, hS, one_ne_zero, m16, jn_l, (say18 h hw hT hn).1 e18, o2, jn_r, lt]
        · subst q
          simp only [mM_notice, m15, bd_s, reduceIte, hg, c1, hS, one_ne_zero, m16, jn_l, (say18 h hw hT hn).1 e18, o2, jn_r]
      have m18 := (say18 h hw hT hn).2 e18
      by_cases e20 : eqs (a 8) s z 20
      · obtain ⟨r, gZ', aZ', dP', g', a', o1, o2, o3, o4, o5, o6⟩ := chg_2 (n := n) (gZ := gZ) (aZ := aZ) (aS := aS) h hL hA hD hn
        refine fin r gN aN gS gZ' aZ' dP' gQ dO g' a' o3 ?_ (fun q => ?_) (fun q => ?_) (hN.mv (o5 38 (by omega)) (fun j _ _ => o6 j (by omega))) o4 (hQ.mv (o5 31 (by omega)) (fun j _ _ => o6 j (by omega))) (fun j hj => o5 j (by omega))
        · rw [mE_follow, hy, bd_s, (spv16 h hw hT hn).2 e16, bd_s, if_pos rfl, (spv18 h hw hT hn).2 e18, bd_s, if_pos rfl, (spv20 h hw hT hn).1 e20, bd_s, if_neg one_ne_zero, o1, bd_s, okz_r o3, gd_T]
        · subst q
          simp only [mM_notice, m15, bd_s, reduceIte, hg, c1, hS, one_ne_zero, m16, m18, jn_l, (say20 h hw hT hn).1 e20, o2, jn_r, lt]
        · subst q
          simp only [mM_notice, m15, bd_s, reduceIte, hg, c1, hS, one_ne_zero, m16, m18, jn_l, (say20 h hw hT hn).1 e20, o2, jn_r]
      have m20 := (say20 h hw hT hn).2 e20
      by_cases e23 : eqs (a 8) s z 23
      · obtain ⟨r, gN', aN', gQ', dO', g', a', o1, o2, o3, o4, o5, o6, o7⟩ := cnc_2 (n := n) (gE := gE) (aE := aE) (gS := gS) (aS := aS) (gZ := gZ) (aZ := aZ) (dP := dP) (aQ := aQ) h hL hA hN hQ hn
        refine fin r gN' aN' gS gZ aZ dP gQ' dO' g' a' o3 ?_ (fun q => ?_) (fun q => ?_) o4 (hD.mv (o6 22 (by omega) (by omega)) (fun j _ _ => o7 j (by omega))) o5 (fun j hj => o6 j (by omega) (by omega))
        · rw [mE_follow, hy, bd_s, (spv16 h hw hT hn).2 e16, bd_s, if_pos rfl, (spv18 h hw hT hn).2 e18, bd_s, if_pos rfl, (spv20 h hw hT hn).2 e20, bd_s, if_pos rfl, (spv23 h hw hT hn).1 e23, bd_s, if_neg one_ne_zero, o1, bd_s]
          rcases o3 with rfl | rfl
          · rw [if_pos rfl]
          · rw [if_neg one_ne_zero]
        · subst q
          simp only [mM_notice, m15, bd_s, reduceIte, hg, c1, hS, one_ne_zero, m16, m18, m20, jn_l, (say23 h hw hT hn).1 e23, o2, lt]
        · subst q
          simp only [mM_notice, m15, bd_s, reduceIte, hg, c1, hS, one_ne_zero, m16, m18, m20, jn_l, (say23 h hw hT hn).1 e23, o2]
      · have m23 := (say23 h hw hT hn).2 e23
        refine fin 0 gN aN gS gZ aZ dP gQ dO g a (.inl rfl) ?_ (fun _ => ?_) (fun q => absurd q (by decide)) hN hD hQ (fun _ _ => rfl)
        · rw [mE_follow, hy, bd_s, (spv16 h hw hT hn).2 e16, bd_s, if_pos rfl, (spv18 h hw hT hn).2 e18, bd_s, if_pos rfl, (spv20 h hw hT hn).2 e20, bd_s, if_pos rfl, (spv23 h hw hT hn).2 e23, bd_s, if_pos rfl]
        · simp only [mM_notice, m15, bd_s, reduceIte, hg, c1, hS, one_ne_zero, m16, m18, m20, m23, jn_l, lt]
    · exact no (itm_no (n := n) h hL h3) (isA_n h hL h3)
  · have c1 : ¬ nI st = 1 := fun z => s1 (q1.mp z)
    refine ⟨gE, gN, aN, gS, gZ, aZ, dP, gQ, dO, g, a, ?_, ?_, ⟨st, by omega, hE, hg, ?_, h7, h8⟩, hN, hD, hQ, rfl, rfl, rfl⟩
    · rw [mE_takeNotification, v15, bd_s, if_pos rfl, hE, if_neg c1]
    · rw [mM_notice, m15, bd_s, if_pos rfl, hg, if_neg c1]
    · rw [if_neg (by omega)]; exact h6
end NO
