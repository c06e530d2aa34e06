/-! characters fed -/
theorem by_n (x : Int32) : x = nI x.toBitVec.toNat := by
  apply Int32.toBitVec_inj.mp
  show x.toBitVec = BitVec.ofNat 32 x.toBitVec.toNat
  rw [BitVec.ofNat_toNat, BitVec.setWidth_eq]
theorem by_r (x : Int32) : ∃ c : Nat, c < 256 ∧ x &&& 255 = nI c := by
  refine ⟨(x &&& 255).toBitVec.toNat, ?_, by_n _⟩
  have e : (x &&& 255).toBitVec.toNat = x.toBitVec.toNat &&& 255 := rfl
  rw [e]
  exact Nat.lt_succ_of_le Nat.and_le_right
theorem by_x (b : BitVec 32) (s : Nat) (hs : s ≤ 24) : b.sshiftRight s &&& 255#32 = (b >>> s) &&& 255#32 := by
  apply BitVec.eq_of_getLsbD_eq
  intro i hi
  rw [BitVec.getLsbD_and, BitVec.getLsbD_and]
  by_cases h8 : i < 8
  · rw [BitVec.getLsbD_sshiftRight, BitVec.getLsbD_ushiftRight]
    have e1 : decide (32 ≤ i) = false := decide_eq_false (by omega)
    rw [e1, if_pos (by omega)]
    rfl
  · have e : ∀ j : Fin 32, 8 ≤ j.val → (255#32).getLsbD j.val = false := by decide +kernel
    rw [e ⟨i, hi⟩ (by show 8 ≤ i; omega), Bool.and_false, Bool.and_false]
theorem by_2 (x : Int32) (k : Nat) (hk : k < 4) : ((x.toUInt32 >>> ((nI (8 * k)).toUInt32 &&& Int32.toUInt32 31)).toInt32 &&& 255) = ((x >>> ((8 * nI k) &&& 31)) &&& 255) := by
  have hk4 : k = 0 ∨ k = 1 ∨ k = 2 ∨ k = 3 := by omega
  apply Int32.toBitVec_inj.mp
  rcases hk4 with rfl | rfl | rfl | rfl
  · exact (by_x x.toBitVec 0 (by omega)).symm
  · exact (by_x x.toBitVec 8 (by omega)).symm
  · exact (by_x x.toBitVec 16 (by omega)).symm
  · exact (by_x x.toBitVec 24 (by omega)).symm
theorem cst_c {c : Nat} (h : c < 128) : ((nI c).toUInt32 % 65536).toInt32 = nI c := by
  have e : ∀ j : Fin 128, ((nI j.val).toUInt32 % 65536).toInt32 = nI j.val := by decide +kernel
  exact e ⟨c, h⟩
def bE_fd (n : Nat) (v1 : Int32) (aE aJ aS aQ : aA) : (Int32 × aG × aG × aG × aA × aG × aA × aG × aG × aA × aP × aG × aP) → Option ((Int32 × aG × aG × aG × aA × aG × aA × aG × aG × aA × aP × aG × aP) ⊕ (Int32 × aG × aG × aG × aA × aG × aA × aG × aG × aA × aP × aG × aP)) := (fun q14 => if 32 ≤ q14.1 then (some (.inr (((q14.2.1 7), q14.2.1, q14.2.2.1, q14.2.2.2.1, q14.2.2.2.2.1, q14.2.2.2.2.2.1, q14.2.2.2.2.2.2.1, q14.2.2.2.2.2.2.2.1, q14.2.2.2.2.2.2.2.2.1, q14.2.2.2.2.2.2.2.2.2.1, q14.2.2.2.2.2.2.2.2.2.2.1, q14.2.2.2.2.2.2.2.2.2.2.2.1, q14.2.2.2.2.2.2.2.2.2.2.2.2)))) else (lt (((v1.toUInt32 >>> (q14.1.toUInt32 &&& Int32.toUInt32 31)).toInt32 &&& 255)) (fun x19 => if x19 < 1 then (some (.inl ((q14.1 + 8), q14.2.1, q14.2.2.1, q14.2.2.2.1, q14.2.2.2.2.1, q14.2.2.2.2.2.1, q14.2.2.2.2.2.2.1, q14.2.2.2.2.2.2.2.1, q14.2.2.2.2.2.2.2.2.1, q14.2.2.2.2.2.2.2.2.2.1, q14.2.2.2.2.2.2.2.2.2.2.1, q14.2.2.2.2.2.2.2.2.2.2.2.1, q14.2.2.2.2.2.2.2.2.2.2.2.2))) else (if 127 < x19 then (some (.inl ((q14.1 + 8), q14.2.1, q14.2.2.1, q14.2.2.2.1, q14.2.2.2.2.1, q14.2.2.2.2.2.1, q14.2.2.2.2.2.2.1, q14.2.2.2.2.2.2.2.1, q14.2.2.2.2.2.2.2.2.1, q14.2.2.2.2.2.2.2.2.2.1, q14.2.2.2.2.2.2.2.2.2.2.1, q14.2.2.2.2.2.2.2.2.2.2.2.1, q14.2.2.2.2.2.2.2.2.2.2.2.2))) else (if (q14.2.1 5) = 3 then (some (.inl ((q14.1 + 8), q14.2.1, q14.2.2.1, q14.2.2.2.1, q14.2.2.2.2.1, q14.2.2.2.2.2.1, q14.2.2.2.2.2.2.1, q14.2.2.2.2.2.2.2.1, q14.2.2.2.2.2.2.2.2.1, q14.2.2.2.2.2.2.2.2.2.1, q14.2.2.2.2.2.2.2.2.2.2.1, q14.2.2.2.2.2.2.2.2.2.2.2.1, q14.2.2.2.2.2.2.2.2.2.2.2.2))) else (if (q14.2.1 5) = 4 then (some (.inl ((q14.1 + 8), q14.2.1, q14.2.2.1, q14.2.2.2.1, q14.2.2.2.2.1, q14.2.2.2.2.2.1, q14.2.2.2.2.2.2.1, q14.2.2.2.2.2.2.2.1, q14.2.2.2.2.2.2.2.2.1, q14.2.2.2.2.2.2.2.2.2.1, q14.2.2.2.2.2.2.2.2.2.2.1, q14.2.2.2.2.2.2.2.2.2.2.2.1, q14.2.2.2.2.2.2.2.2.2.2.2.2))) else (bd (mF_take n ((x19.toUInt32 % 65536).toInt32) q14.2.2.1 (fun _ => q14.2.2.2.2.1 8)) (fun q27 => lt (va_up q14.2.2.2.2.1 8 (q27.2 0)) (fun a28 => if (q27.1 2) = 0 then (bd (mF_isWhole n q27.1 (fun _ => a28 8)) (fun x30 => if x30 = 0 then (some (.inl ((q14.1 + 8), q14.2.1, q27.1, q14.2.2.2.1, a28, q14.2.2.2.2.2.1, q14.2.2.2.2.2.2.1, q14.2.2.2.2.2.2.2.1, q14.2.2.2.2.2.2.2.2.1, q14.2.2.2.2.2.2.2.2.2.1, q14.2.2.2.2.2.2.2.2.2.2.1, q14.2.2.2.2.2.2.2.2.2.2.2.1, q14.2.2.2.2.2.2.2.2.2.2.2.2))) else (lt (va_up q14.2.1 7 ((q14.2.1 7) + 1)) (fun g34 => bd (mE_answerBody n g34 aE q27.1 aJ q14.2.2.2.1 a28 q14.2.2.2.2.2.1 q14.2.2.2.2.2.2.1 q14.2.2.2.2.2.2.2.1 aS q14.2.2.2.2.2.2.2.2.1 q14.2.2.2.2.2.2.2.2.2.1 q14.2.2.2.2.2.2.2.2.2.2.1 q14.2.2.2.2.2.2.2.2.2.2.2.1 aQ q14.2.2.2.2.2.2.2.2.2.2.2.2) (fun q47 => bd (mF_begin n q27.1 (fun _ => q47.2.2.1 8)) (fun g48 => some (.inl ((q14.1 + 8), q47.1, g48, q47.2.1, q47.2.2.1, q47.2.2.2.1, q47.2.2.2.2.1, q47.2.2.2.2.2.1, q47.2.2.2.2.2.2.1, q47.2.2.2.2.2.2.2.1, q47.2.2.2.2.2.2.2.2.1, q47.2.2.2.2.2.2.2.2.2.1, q47.2.2.2.2.2.2.2.2.2.2)))))))) else (lt (va_up q14.2.1 5 4) (fun g51 => some (.inl ((q14.1 + 8), g51, q27.1, q14.2.2.2.1, a28, q14.2.2.2.2.2.1, q14.2.2.2.2.2.2.1, q14.2.2.2.2.2.2.2.1, q14.2.2.2.2.2.2.2.2.1, q14.2.2.2.2.2.2.2.2.2.1, q14.2.2.2.2.2.2.2.2.2.2.1, q14.2.2.2.2.2.2.2.2.2.2.2.1, q14.2.2.2.2.2.2.2.2.2.2.2.2)))))))))))))
def bM_fd (n : Nat) (v1 : Int32) : Int32 × aG × aA → Option ((Int32 × aG × aA) ⊕ (Int32 × aG × aA)) := (fun q5 => if 4 ≤ q5.1 then (some (.inr (((q5.2.1 2), q5.2.1, q5.2.2)))) else (lt (((v1 >>> ((8 * q5.1) &&& 31)) &&& 255)) (fun x10 => if x10 ≤ 0 then (some (.inl ((q5.1 + 1), q5.2.1, q5.2.2))) else (if 128 ≤ x10 then (some (.inl ((q5.1 + 1), q5.2.1, q5.2.2))) else (if 3 ≤ (q5.2.1 0) then (some (.inl ((q5.1 + 1), q5.2.1, q5.2.2))) else (bd (mM_take n x10 q5.2.1 q5.2.2) (fun q14 => some (.inl ((q5.1 + 1), q14.1, q14.2)))))))))
def sfV (n : Nat) (c q : Int32) (aE aJ aS aQ : aA) (gE gJ gV : aG) (aV : aA) (gN : aG) (aN : aA) (gS gZ : aG) (aZ : aA) (dP : aP) (gQ : aG) (dO : aP) : Option ((Int32 × aG × aG × aG × aA × aG × aA × aG × aG × aA × aP × aG × aP) ⊕ (Int32 × aG × aG × aG × aA × aG × aA × aG × aG × aA × aP × aG × aP)) := (bd (mF_take n c gJ (fun _ => aV 8)) (fun q27 => lt (va_up aV 8 (q27.2 0)) (fun a28 => if (q27.1 2) = 0 then (bd (mF_isWhole n q27.1 (fun _ => a28 8)) (fun x30 => if x30 = 0 then (some (.inl ((q + 8), gE, q27.1, gV, a28, gN, aN, gS, gZ, aZ, dP, gQ, dO))) else (lt (va_up gE 7 ((gE 7) + 1)) (fun g34 => bd (mE_answerBody n g34 aE q27.1 aJ gV a28 gN aN gS aS gZ aZ dP gQ aQ dO) (fun q47 => bd (mF_begin n q27.1 (fun _ => q47.2.2.1 8)) (fun g48 => some (.inl ((q + 8), q47.1, g48, q47.2.1, q47.2.2.1, q47.2.2.2.1, q47.2.2.2.2.1, q47.2.2.2.2.2.1, q47.2.2.2.2.2.2.1, q47.2.2.2.2.2.2.2.1, q47.2.2.2.2.2.2.2.2.1, q47.2.2.2.2.2.2.2.2.2.1, q47.2.2.2.2.2.2.2.2.2.2)))))))) else (lt (va_up gE 5 4) (fun g51 => some (.inl ((q + 8), g51, q27.1, gV, a28, gN, aN, gS, gZ, aZ, dP, gQ, dO)))))))
theorem fdV_e (n : Nat) (v1 : Int32) (gE : aG) (aE : aA) (gJ : aG) (aJ : aA) (gV : aG) (aV : aA) (gN : aG) (aN : aA) (gS : aG) (aS : aA) (gZ : aG) (aZ : aA) (dP : aP) (gQ : aG) (aQ : aA) (dO : aP) : mE_feed n v1 gE aE gJ aJ gV aV gN aN gS aS gZ aZ dP gQ aQ dO = lp (bE_fd n v1 aE aJ aS aQ) n (0, gE, gJ, gV, aV, gN, aN, gS, gZ, aZ, dP, gQ, dO) := rfl
theorem fdM_e (n : Nat) (v1 : Int32) (g : aG) (a : aA) : mM_feed n v1 g a = lp (bM_fd n v1) n (0, va_up g 45 0, a) := rfl
theorem fbV_e (n : Nat) (v1 q : Int32) (aE aJ aS aQ : aA) (gE gJ gV : aG) (aV : aA) (gN : aG) (aN : aA) (gS gZ : aG) (aZ : aA) (dP : aP) (gQ : aG) (dO : aP) : bE_fd n v1 aE aJ aS aQ (q, gE, gJ, gV, aV, gN, aN, gS, gZ, aZ, dP, gQ, dO) = if 32 ≤ q then some (.inr (gE 7, gE, gJ, gV, aV, gN, aN, gS, gZ, aZ, dP, gQ, dO)) else lt (((v1.toUInt32 >>> (q.toUInt32 &&& Int32.toUInt32 31)).toInt32 &&& 255)) (fun x19 => if x19 < 1 then some (.inl (q + 8, gE, gJ, gV, aV, gN, aN, gS, gZ, aZ, dP, gQ, dO)) else if 127 < x19 then some (.inl (q + 8, gE, gJ, gV, aV, gN, aN, gS, gZ, aZ, dP, gQ, dO)) else if gE 5 = 3 then some (.inl (q + 8, gE, gJ, gV, aV, gN, aN, gS, gZ, aZ, dP, gQ, dO)) else if gE 5 = 4 then some (.inl (q + 8, gE, gJ, gV, aV, gN, aN, gS, gZ, aZ, dP, gQ, dO)) else sfV n ((x19.toUInt32 % 65536).toInt32) q aE aJ aS aQ gE gJ gV aV gN aN gS gZ aZ dP gQ dO) := rfl
theorem fbM_e (n : Nat) (v1 q : Int32) (g : aG) (a : aA) : bM_fd n v1 (q, g, a) = if 4 ≤ q then some (.inr (g 2, g, a)) else lt (((v1 >>> ((8 * q) &&& 31)) &&& 255)) (fun x10 => if x10 ≤ 0 then some (.inl (q + 1, g, a)) else if 128 ≤ x10 then some (.inl (q + 1, g, a)) else if 3 ≤ g 0 then some (.inl (q + 1, g, a)) else bd (mM_take n x10 g a) (fun q14 => some (.inl (q + 1, q14.1, q14.2)))) := rfl
def hdJ (gJ : aG) (dg sz : Nat) : Prop := gJ 1 = 0 ∧ gJ 3 = nI dg ∧ gJ 4 = nI sz ∧ gJ 5 = 0
section FD
variable {gE gJ gV gN gS gZ gQ g : aG} {aE aJ aV aN aS aZ aQ a : aA} {dP dO : aP} {n : Nat} {q : Int32}
theorem pw_10 {dg sz : Nat} (h : dg ≤ 3) (hs : sz < 10 ^ dg) : sz < 1000 ∧ (dg < 3 → ∀ d, d ≤ 9 → 10 * sz + d < 10 ^ (dg + 1)) := by
  have : dg = 0 ∨ dg = 1 ∨ dg = 2 ∨ dg = 3 := by omega
  rcases this with rfl | rfl | rfl | rfl
  · exact ⟨by omega, fun _ d hd => by omega⟩
  · exact ⟨by omega, fun _ d hd => by omega⟩
  · exact ⟨by omega, fun _ d hd => by omega⟩
  · exact ⟨by omega, fun h => by omega⟩
theorem va_E8 {a : aA} : va_up a 8 (a 8) = a := va_upE
/-- the header's character -/
theorem hd_2 {c st : Nat} (h1 : 1 ≤ c) (h2 : c < 128) (hst : st < 3) (hE : gE 5 = nI st) (hg : g 0 = nI st) (h6 : gE 6 = -1) (h7 : gE 7 = g 2) (h8 : gE 8 = g 30) (hJ2 : gJ 2 = 0) (hH : hdR gJ g) (hA : IvA gN aN g a) (hD : IvD gS dP g a) (hQ : IvQ gQ dO g a) : ∃ gE' gJ' g', sfV n (nI c) q aE aJ aS aQ gE gJ gV aV gN aN gS gZ aZ dP gQ dO = some (.inl (q + 8, gE', gJ', gV, aV, gN, aN, gS, gZ, aZ, dP, gQ, dO)) ∧ mM_take n (nI c) g a = some (g', a) ∧ Inv gE' gJ' gV aV gN aN gS gZ aZ dP gQ dO g' a := by
  obtain ⟨j1, dg, sz, k1, k2, j3, m3, j4, m4, j5, m5⟩ := hH
  obtain ⟨p1, p2⟩ := pw_10 k1 k2
  have g5 : g 5 ≤ 0 := by rw [m5]; exact Int32.le_refl _
  have f10 : ¬ (1 : Int32) = 0 := one_ne_zero
  have fail : (∀ F : aG → Option (aG × aA), True → True) → mF_take n (nI c) gJ (fun _ => aV 8) = some (va_up gJ 2 1, fun _ => aV 8) → mM_take n (nI c) g a = some (va_up g 0 4, a) → ∃ gE' gJ' g', sfV n (nI c) q aE aJ aS aQ gE gJ gV aV gN aN gS gZ aZ dP gQ dO = some (.inl (q + 8, gE', gJ', gV, aV, gN, aN, gS, gZ, aZ, dP, gQ, dO)) ∧ mM_take n (nI c) g a = some (g', a) ∧ Inv gE' gJ' gV aV gN aN gS gZ aZ dP gQ dO g' a := by
    intro _ t1 t2
    refine ⟨va_up gE 5 4, va_up gJ 2 1, va_up g 0 4, ?_, t2, ⟨4, by omega, rfl, rfl, ?_, h7, h8, fun z => by omega⟩, hA, hD, hQ⟩
    · simp only [sfV, t1, bd_s, lt, va_up_self, va_E8, f10, if_false]
    · rw [if_neg (by omega)]; exact h6
  have x48 : (nI c < 48) ↔ c < 48 := lt_L (b := 48) (by omega) (by decide)
  have x57 : (57 < nI c) ↔ 57 < c := L_lt (b := 57) (by omega) (by decide)
  have x58 : (nI c = 58) ↔ c = 58 := eq_L (b := 58) (by omega) (by decide)
  have xd : (3 ≤ nI dg) ↔ 3 ≤ dg := L_le (b := 3) (by omega) (by decide)
  have xs1 : (nI sz < 1) ↔ sz < 1 := lt_L (b := 1) (by omega) (by decide)
  have xs0 : (nI sz ≤ 0) ↔ sz ≤ 0 := le_L (b := 0) (by omega) (by decide)
  have xs2 : (200 < nI sz) ↔ 200 < sz := L_lt (b := 200) (by omega) (by decide)
  by_cases hdig : 48 ≤ c ∧ c ≤ 57 ∧ dg < 3
  · have e1 : ¬ nI c < 48 := fun z => by have := x48.mp z; omega
    have e2 : ¬ 57 < nI c := fun z => by have := x57.mp z; omega
    have e3 : ¬ 3 ≤ nI dg := fun z => by have := xd.mp z; omega
    have v1 : nI sz * 10 + (nI c - 48) = nI (10 * sz + (c - 48)) := by
      have z1 : nI c - 48 = nI (c - 48) := nI_sb (b := 48) (by omega)
      have z2 : nI sz * 10 = nI (10 * sz) := by rw [Int32.mul_comm]; exact mu_L (b := 10)
      rw [z1, z2, nI_add]
    have v2 : 10 * nI sz + nI c - 48 = nI (10 * sz + (c - 48)) := by
      have z1 : nI (10 * sz + c) - 48 = nI (10 * sz + c - 48) := nI_sb (b := 48) (by omega)
      have z2 : 10 * nI sz = nI (10 * sz) := mu_L (b := 10)
      rw [z2, nI_add, z1, show 10 * sz + c - 48 = 10 * sz + (c - 48) by omega]
    have t1 : mF_take n (nI c) gJ (fun _ => aV 8) = some (va_up (va_up gJ 4 (nI (10 * sz + (c - 48)))) 3 (nI (dg + 1)), fun _ => aV 8) := by
      have z3 : va_up gJ 4 (nI (10 * sz + (c - 48))) 3 = nI dg := by rw [va_up_ne _ _ (by omega)]; exact j3
      simp only [mF_take, j1, if_true, mE_isDigit, e1, e2, if_false, bd_s, one_ne_zero, j3, e3, j4, v1, lt, z3, nI_1, jn_r]
    have t2 : mM_take n (nI c) g a = some (va_up (va_up g 4 (nI (10 * sz + (c - 48)))) 3 (nI (dg + 1)), a) := by
      have z3 : va_up g 4 (nI (10 * sz + (c - 48))) 3 = nI dg := by rw [va_up_ne _ _ (by omega)]; exact m3
      simp only [mM_take, g5, if_true, e1, e2, if_false, m3, e3, m4, v2, lt, z3, nI_1, jn_r]
    obtain ⟨J, hJ⟩ : ∃ J, J = va_up (va_up gJ 4 (nI (10 * sz + (c - 48)))) 3 (nI (dg + 1)) := ⟨_, rfl⟩
    have J1 : J 1 = 0 := by rw [hJ, va_up_ne _ _ (by omega), va_up_ne _ _ (by omega)]; exact j1
    have J2 : J 2 = 0 := by rw [hJ, va_up_ne _ _ (by omega), va_up_ne _ _ (by omega)]; exact hJ2
    rw [← hJ] at t1
    refine ⟨gE, J, va_up (va_up g 4 (nI (10 * sz + (c - 48)))) 3 (nI (dg + 1)), ?_, t2, ⟨st, by omega, hE, hg, ?_, h7, h8, fun _ => ⟨J2, .inl ⟨J1, dg + 1, 10 * sz + (c - 48), by omega, p2 hdig.2.2 (c - 48) (by omega), ?_, va_up_self _ _ _, ?_, ?_, ?_, m5⟩⟩⟩, hA, hD, hQ⟩
    · simp only [sfV, t1, bd_s, lt, J2, if_true, va_E8, mF_isWhole, J1]
    · rw [if_neg (by omega)]; exact h6
    · rw [hJ, va_up_self]
    · rw [hJ, va_up_ne _ _ (by omega), va_up_self]
    · rw [va_up_ne _ _ (by omega), va_up_self]
    · rw [hJ, va_up_ne _ _ (by omega), va_up_ne _ _ (by omega)]; exact j5
  -- no digit that counts
  have d1 : ∀ F : aG → Option (aG × aA), (bd (mE_isDigit n (nI c)) (fun x2 => jn (α := aG) (if x2 = 0 then (some (.inl gJ)) else (if 3 ≤ (gJ 3) then (some (.inl gJ)) else (lt (va_up gJ 4 (((gJ 4) * 10) + (nI c - 48))) (fun g18 => lt (va_up g18 3 ((g18 3) + 1)) (fun g19 => some (.inr ((g19, fun _ => aV 8)))))))) F)) = F gJ := by
    intro F
    by_cases w1 : c < 48
    · rw [mE_isDigit, if_pos (x48.mpr w1), bd_s, if_pos rfl, jn_l]
    by_cases w2 : 57 < c
    · rw [mE_isDigit, if_neg (fun z => w1 (x48.mp z)), if_pos (x57.mpr w2), bd_s, if_pos rfl, jn_l]
    · rw [mE_isDigit, if_neg (fun z => w1 (x48.mp z)), if_neg (fun z => w2 (x57.mp z)), bd_s, if_neg one_ne_zero, j3, if_pos (xd.mpr (by omega)), jn_l]
  have d2 : ∀ F : aG → Option (aG × aA), (jn (α := aG) (if nI c < 48 then (some (.inl g)) else (if 57 < nI c then (some (.inl g)) else (if 3 ≤ (g 3) then (some (.inl g)) else (lt (va_up g 4 (((10 * (g 4)) + nI c) - 48)) (fun g19 => lt (va_up g19 3 ((g19 3) + 1)) (fun g20 => some (.inr ((g20, a))))))))) F) = F g := by
    intro F
    by_cases w1 : c < 48
    · rw [if_pos (x48.mpr w1), jn_l]
    by_cases w2 : 57 < c
    · rw [if_neg (fun z => w1 (x48.mp z)), if_pos (x57.mpr w2), jn_l]
    · rw [if_neg (fun z => w1 (x48.mp z)), if_neg (fun z => w2 (x57.mp z)), m3, if_pos (xd.mpr (by omega)), jn_l]
  by_cases h58 : c = 58
  · by_cases hs : sz < 1 ∨ 200 < sz
    · refine fail (fun _ _ => trivial) ?_ ?_
      · rw [mF_take, j1, if_pos rfl, d1, if_pos (x58.mpr h58), j4]
        by_cases w : sz < 1
        · rw [if_pos (xs1.mpr w), lt]
        · rw [if_neg (fun z => w (xs1.mp z)), if_pos (xs2.mpr (by omega)), lt]
      · rw [mM_take, if_pos g5, d2, if_pos (x58.mpr h58), m4]
        by_cases w : sz < 1
        · rw [if_pos (xs0.mpr (by omega)), lt]
        · rw [if_neg (fun z => w (by have := xs0.mp z; omega)), if_pos (xs2.mpr (by omega)), lt]
    · have t1 : mF_take n (nI c) gJ (fun _ => aV 8) = some (va_up gJ 1 1, fun _ => aV 8) := by
        rw [mF_take, j1, if_pos rfl, d1, if_pos (x58.mpr h58), j4, if_neg (fun z => hs (.inl (xs1.mp z))), if_neg (fun z => hs (.inr (xs2.mp z))), lt]
      have t2 : mM_take n (nI c) g a = some (va_up (va_up (va_up (va_up g 5 (nI sz)) 6 0) 4 0) 3 0, a) := by
        rw [mM_take, if_pos g5, d2, if_pos (x58.mpr h58), m4, if_neg (fun z => hs (.inl (by have := xs0.mp z; omega))), if_neg (fun z => hs (.inr (xs2.mp z))), lt, lt, lt, lt]
      obtain ⟨J, hJ⟩ : ∃ J, J = va_up gJ 1 1 := ⟨_, rfl⟩
      have J1 : J 1 = 1 := by rw [hJ, va_up_self]
      have J2 : J 2 = 0 := by rw [hJ, va_up_ne _ _ (by omega)]; exact hJ2
      have J4 : J 4 = nI sz := by rw [hJ, va_up_ne _ _ (by omega)]; exact j4
      have J5 : J 5 = 0 := by rw [hJ, va_up_ne _ _ (by omega)]; exact j5
      have lz : (0 : Int32) < nI sz := nI_lt (a := 0) (by omega) (by omega)
      rw [← hJ] at t1
      refine ⟨gE, J, _, ?_, t2, ⟨st, by omega, hE, hg, ?_, h7, h8, fun _ => ⟨J2, .inr ⟨J1, sz, 0, by omega, by omega, J4, J5, rfl, rfl, rfl, rfl, fun i hi => by omega⟩⟩⟩, hA, hD, hQ⟩
      · simp only [sfV, t1, bd_s, lt, J2, if_true, va_E8, mF_isWhole, J1, one_ne_zero, if_false, J5, J4, lz]
      · rw [if_neg (by omega)]; exact h6
  · refine fail (fun _ _ => trivial) ?_ ?_
    · rw [mF_take, j1, if_pos rfl, d1, if_neg (fun z => h58 (x58.mp z)), lt]
    · rw [mM_take, if_pos g5, d2, if_neg (fun z => h58 (x58.mp z)), lt]
/-- the body's character -/
theorem bd_2 {c st : Nat} (h1 : 1 ≤ c) (h2 : c < 128) (hst : st < 3) (hE : gE 5 = nI st) (hg : g 0 = nI st) (h6 : gE 6 = -1) (h7 : gE 7 = g 2) (h8 : gE 8 = g 30) (hJ2 : gJ 2 = 0) (hB : bdR gJ aV g a) (hA : IvA gN aN g a) (hD : IvD gS dP g a) (hQ : IvQ gQ dO g a) (hn : 500 < n) : ∃ gE' gJ' gV' aV' gN' aN' gS' gZ' aZ' dP' gQ' dO' g' a', sfV n (nI c) q aE aJ aS aQ gE gJ gV aV gN aN gS gZ aZ dP gQ dO = some (.inl (q + 8, gE', gJ', gV', aV', gN', aN', gS', gZ', aZ', dP', gQ', dO')) ∧ mM_take n (nI c) g a = some (g', a') ∧ Inv gE' gJ' gV' aV' gN' aN' gS' gZ' aZ' dP' gQ' dO' g' a' := by
  obtain ⟨j1, A, F, k1, k2, j4, j5, m5, m6, m3, m4, kc⟩ := hB
  have g5 : ¬ g 5 ≤ 0 := by
    rw [m5]
    exact nI_nle (by omega) (by omega)
  have b0 : ¬ (200 : Int32) ≤ nI F := nI_ge (b := 200) (by omega) (by omega)
  have b1 : inb (nI F) 200 = true := inb_T (by omega) (by omega)
  have b2 : (nI F).toNatClampNeg = F := nI_clamp (by omega)
  have hc : chr (nI c) := ⟨c, h1, h2, rfl⟩
  have j10 : ¬ gJ 1 = 0 := by rw [j1]; exact one_ne_zero
  obtain ⟨J, hJ⟩ : ∃ J, J = va_up gJ 5 (nI (F + 1)) := ⟨_, rfl⟩
  have t1 : mF_take n (nI c) gJ (fun _ => aV 8) = some (J, va_up (fun _ => aV 8) 0 (upd (aV 8) F (nI c))) := by
    rw [mF_take, if_neg j10, mF_takeIntoBody, j5, if_neg b0, b1, gd_T, b2, nar_c hc, lt, nI_1, lt, bd_s, hJ]
  obtain ⟨aV1, hV1⟩ : ∃ aV1, aV1 = va_up aV 8 (upd (aV 8) F (nI c)) := ⟨_, rfl⟩
  obtain ⟨a1, ha1⟩ : ∃ a1, a1 = va_up a 0 (upd (a 0) F (nI c)) := ⟨_, rfl⟩
  obtain ⟨g1, hg1⟩ : ∃ g1, g1 = va_up (va_up g 6 (nI (F + 1))) 5 (nI (A - (F + 1))) := ⟨_, rfl⟩
  have J1 : J 1 = 1 := by rw [hJ, va_up_ne _ _ (by omega)]; exact j1
  have J2 : J 2 = 0 := by rw [hJ, va_up_ne _ _ (by omega)]; exact hJ2
  have J4 : J 4 = nI A := by rw [hJ, va_up_ne _ _ (by omega)]; exact j4
  have J5 : J 5 = nI (F + 1) := by rw [hJ, va_up_self]
  have z5 : g1 5 = nI (A - (F + 1)) := by rw [hg1, va_up_self]
  have z6 : g1 6 = nI (F + 1) := by rw [hg1, va_up_ne _ _ (by omega), va_up_self]
  have zo : ∀ j, j ≠ 5 → j ≠ 6 → g1 j = g j := fun j q5 q6 => by rw [hg1, va_up_ne _ _ q5, va_up_ne _ _ q6]
  have ao : ∀ j, j ≠ 0 → a1 j = a j := fun j hj => by rw [ha1, va_up_ne _ _ hj]
  have kc1 : ∀ i, i < F + 1 → aV1 8 i = a1 0 i ∧ chr (a1 0 i) := fun i hi => by
    rw [hV1, ha1, va_up_self, va_up_self]
    by_cases hi2 : i = F
    · rw [hi2, upd_eq, upd_eq]; exact ⟨rfl, hc⟩
    · rw [upd_ne hi2, upd_ne hi2]; exact kc i (by omega)
  have hA1 : IvA gN aN g1 a1 := hA.mv (zo 38 (by omega) (by omega)) (fun j _ _ => ao j (by omega))
  have hD1 : IvD gS dP g1 a1 := hD.mv (zo 22 (by omega) (by omega)) (fun j _ _ => ao j (by omega))
  have hQ1 : IvQ gQ dO g1 a1 := hQ.mv (zo 31 (by omega) (by omega)) (fun j _ _ => ao j (by omega))
  have s5 : nI (A - F) - 1 = nI (A - (F + 1)) := by rw [show A - (F + 1) = A - F - 1 by omega]; exact nI_sb (b := 1) (by omega)
  have t2 : mM_take n (nI c) g a = if nI (A - (F + 1)) = 0 then (lt (va_up g1 2 ((g1 2) + 1)) (fun g26 => bd (mM_handle n g26 a1) (fun q27 => some ((q27.1, q27.2))))) else some (g1, a1) := by
    have z7 : va_up g 6 (nI (F + 1)) 5 = nI (A - F) := by rw [va_up_ne _ _ (by omega)]; exact m5
    rw [mM_take, if_neg g5, m6, b1, gd_T, b2, lt, lt, nI_1, lt, z7, s5, ← hg1, ← ha1, z5]
  have sv : sfV n (nI c) q aE aJ aS aQ gE gJ gV aV gN aN gS gZ aZ dP gQ dO = bd (mF_isWhole n J (fun _ => aV1 8)) (fun x30 => if x30 = 0 then (some (.inl ((q + 8), gE, J, gV, aV1, gN, aN, gS, gZ, aZ, dP, gQ, dO))) else (lt (va_up gE 7 ((gE 7) + 1)) (fun g34 => bd (mE_answerBody n g34 aE J aJ gV aV1 gN aN gS aS gZ aZ dP gQ aQ dO) (fun q47 => bd (mF_begin n J (fun _ => q47.2.2.1 8)) (fun g48 => some (.inl ((q + 8), q47.1, g48, q47.2.1, q47.2.2.1, q47.2.2.2.1, q47.2.2.2.2.1, q47.2.2.2.2.2.1, q47.2.2.2.2.2.2.1, q47.2.2.2.2.2.2.2.1, q47.2.2.2.2.2.2.2.2.1, q47.2.2.2.2.2.2.2.2.2.1, q47.2.2.2.2.2.2.2.2.2.2))))))) := by
    simp only [sfV, t1, bd_s, lt, va_up_self]
    rw [← hV1, if_pos J2]
    rfl
  by_cases hw : F + 1 = A
  · have e0 : nI (A - (F + 1)) = 0 := by rw [show A - (F + 1) = 0 by omega]; rfl
    have w1 : mF_isWhole n J (fun _ => aV1 8) = some 1 := by
      have : ¬ nI (F + 1) < nI A := nI_nlt (by omega) (by omega)
      rw [mF_isWhole, J1, if_neg one_ne_zero, J5, J4, if_neg this]
    obtain ⟨gE', gV', aV', gN', aN', gS', gZ', aZ', dP', gQ', dO', g', a', y1, y2, ⟨st', y3, y4, y5, y6, y7, y8⟩, y9, y10, y11, y12, y13, y14⟩ := bdy_2 (n := n) (N := A) (st := st) (gE := va_up gE 7 (gE 7 + 1)) (gJ := J) (g := va_up g1 2 (g1 2 + 1)) (a := a1) (gV := gV) (aV := aV1) (gN := gN) (aN := aN) (gS := gS) (gZ := gZ) (aZ := aZ) (dP := dP) (gQ := gQ) (dO := dO) (aE := aE) (aJ := aJ) (aS := aS) (aQ := aQ) k2 J4 (by rw [va_up_ne _ _ (by omega), z6, hw]) (fun i hi => kc1 i (by omega)) hst (by rw [va_up_ne _ _ (by omega)]; exact hE) (by rw [va_up_ne _ _ (by omega), zo 0 (by omega) (by omega)]; exact hg) (by rw [va_up_ne _ _ (by omega)]; exact h6) (by rw [va_up_self, va_up_self, zo 2 (by omega) (by omega), h7]) (by rw [va_up_ne _ _ (by omega), va_up_ne _ _ (by omega), zo 30 (by omega) (by omega)]; exact h8) (hA1.mv (va_up_ne _ _ (by omega)) (fun _ _ _ => rfl)) (hD1.mv (va_up_ne _ _ (by omega)) (fun _ _ _ => rfl)) (hQ1.mv (va_up_ne _ _ (by omega)) (fun _ _ _ => rfl)) hn
    refine ⟨gE', va_up (va_up (va_up (va_up J 1 0) 3 0) 4 0) 5 0, gV', aV', gN', aN', gS', gZ', aZ', dP', gQ', dO', g', a', ?_, ?_, ⟨st', by omega, y4, y5, y6, y7, y8, fun _ => ⟨J2, .inl ⟨rfl, 0, 0, by omega, by omega, rfl, ?_, rfl, ?_, rfl, ?_⟩⟩⟩, y9, y10, y11⟩
    · rw [sv, w1, bd_s, if_neg one_ne_zero, lt, y1, bd_s, mF_begin, lt, lt, lt, lt, bd_s]
    · rw [t2, if_pos e0, lt, y2, bd_s]
    · rw [y12, va_up_ne _ _ (by omega), zo 3 (by omega) (by omega)]; exact m3
    · rw [y13, va_up_ne _ _ (by omega), zo 4 (by omega) (by omega)]; exact m4
    · rw [y14, va_up_ne _ _ (by omega), z5]; exact e0
  · have e0 : ¬ nI (A - (F + 1)) = 0 := by rw [eq_L (b := 0) (by omega) (by decide)]; show ¬ A - (F + 1) = 0; omega
    have w1 : mF_isWhole n J (fun _ => aV1 8) = some 0 := by
      have : nI (F + 1) < nI A := nI_lt (by omega) (by omega)
      rw [mF_isWhole, J1, if_neg one_ne_zero, J5, J4, if_pos this]
    refine ⟨gE, J, gV, aV1, gN, aN, gS, gZ, aZ, dP, gQ, dO, g1, a1, ?_, ?_, ⟨st, by omega, hE, (zo 0 (by omega) (by omega)).trans hg, ?_, h7.trans (zo 2 (by omega) (by omega)).symm, h8.trans (zo 30 (by omega) (by omega)).symm, fun _ => ⟨J2, .inr ⟨J1, A, F + 1, by omega, k2, J4, J5, z5, z6, (zo 3 (by omega) (by omega)).trans m3, (zo 4 (by omega) (by omega)).trans m4, kc1⟩⟩⟩, hA1, hD1, hQ1⟩
    · rw [sv, w1, bd_s, if_pos rfl]
    · rw [t2, if_neg e0]
    · rw [if_neg (by omega)]; exact h6
/-- one of the four -/
theorem fd_s {k : Nat} {x : Int32} (hk : k < 4) (h : Inv gE gJ gV aV gN aN gS gZ aZ dP gQ dO g a) (hn : 500 < n) : ∃ gE' gJ' gV' aV' gN' aN' gS' gZ' aZ' dP' gQ' dO' g' a', bE_fd n x aE aJ aS aQ (nI (8 * k), gE, gJ, gV, aV, gN, aN, gS, gZ, aZ, dP, gQ, dO) = some (.inl (nI (8 * (k + 1)), gE', gJ', gV', aV', gN', aN', gS', gZ', aZ', dP', gQ', dO')) ∧ bM_fd n x (nI k, g, a) = some (.inl (nI (k + 1), g', a')) ∧ Inv gE' gJ' gV' aV' gN' aN' gS' gZ' aZ' dP' gQ' dO' g' a' := by
  have h0 := h
  obtain ⟨⟨st, s0, hE, hg, h6, h7, h8, hJ⟩, hA, hD, hQ⟩ := h
  obtain ⟨c, c1, c2⟩ := by_r (x >>> ((8 * nI k) &&& 31))
  have c3 := (by_2 x k hk).trans c2
  have e32 : ¬ (32 : Int32) ≤ nI (8 * k) := nI_ge (b := 32) (by omega) (by omega)
  have e4 : ¬ (4 : Int32) ≤ nI k := nI_ge (b := 4) (by omega) (by omega)
  have a8 : nI (8 * k) + 8 = nI (8 * (k + 1)) := by rw [ad_L]; congr 1
  have a1 : nI k + 1 = nI (k + 1) := by rw [nI_1]
  have x1 : (nI c < 1) ↔ c < 1 := lt_L (b := 1) (by omega) (by decide)
  have x0 : (nI c ≤ 0) ↔ c ≤ 0 := le_L (b := 0) (by omega) (by decide)
  have x127 : (127 < nI c) ↔ 127 < c := L_lt (b := 127) (by omega) (by decide)
  have x128 : (128 ≤ nI c) ↔ 128 ≤ c := L_le (b := 128) (by omega) (by decide)
  have y3 : (nI st = 3) ↔ st = 3 := eq_L (b := 3) (by omega) (by decide)
  have y4 : (nI st = 4) ↔ st = 4 := eq_L (b := 4) (by omega) (by decide)
  have y3' : (3 ≤ nI st) ↔ 3 ≤ st := L_le (b := 3) (by omega) (by decide)
  rw [fbV_e, fbM_e, if_neg e32, if_neg e4, c2, c3, lt, lt, a8, a1]
  by_cases w1 : c < 1
  · rw [if_pos (x1.mpr w1), if_pos (x0.mpr (by omega))]
    exact ⟨gE, gJ, gV, aV, gN, aN, gS, gZ, aZ, dP, gQ, dO, g, a, rfl, rfl, h0⟩
  have n1 : ¬ nI c < 1 := fun z => w1 (x1.mp z)
  have n0 : ¬ nI c ≤ 0 := fun z => w1 (by have := x0.mp z; omega)
  rw [if_neg n1, if_neg n0]
  by_cases w2 : 127 < c
  · rw [if_pos (x127.mpr w2), if_pos (x128.mpr (by omega))]
    exact ⟨gE, gJ, gV, aV, gN, aN, gS, gZ, aZ, dP, gQ, dO, g, a, rfl, rfl, h0⟩
  have n127 : ¬ 127 < nI c := fun z => w2 (x127.mp z)
  have n128 : ¬ 128 ≤ nI c := fun z => w2 (by have := x128.mp z; omega)
  rw [if_neg n127, if_neg n128, hE, hg]
  by_cases w3 : st = 3
  · rw [if_pos (y3.mpr w3), if_pos (y3'.mpr (by omega))]
    exact ⟨gE, gJ, gV, aV, gN, aN, gS, gZ, aZ, dP, gQ, dO, g, a, rfl, rfl, h0⟩
  have n3 : ¬ nI st = 3 := fun z => w3 (y3.mp z)
  rw [if_neg n3]
  by_cases w4 : st = 4
  · rw [if_pos (y4.mpr w4), if_pos (y3'.mpr (by omega))]
    exact ⟨gE, gJ, gV, aV, gN, aN, gS, gZ, aZ, dP, gQ, dO, g, a, rfl, rfl, h0⟩
  have n4 : ¬ nI st = 4 := fun z => w4 (y4.mp z)
  have n3' : ¬ 3 ≤ nI st := fun z => by have := y3'.mp z; omega
  rw [if_neg n4, if_neg n3', cst_c (by omega)]
  rw [if_neg w3] at h6
  obtain ⟨hJ2, hh | hb⟩ := hJ (by omega)
  · obtain ⟨gE', gJ', g', t1, t2, t3⟩ := hd_2 (n := n) (q := nI (8 * k)) (aE := aE) (aJ := aJ) (aS := aS) (aQ := aQ) (gV := gV) (aV := aV) (gZ := gZ) (aZ := aZ) (c := c) (st := st) (by omega) (by omega) (by omega) hE hg h6 h7 h8 hJ2 hh hA hD hQ
    rw [a8] at t1
    exact ⟨gE', gJ', gV, aV, gN, aN, gS, gZ, aZ, dP, gQ, dO, g', a, t1, by rw [t2, bd_s], t3⟩
  · obtain ⟨gE', gJ', gV', aV', gN', aN', gS', gZ', aZ', dP', gQ', dO', g', a', t1, t2, t3⟩ := bd_2 (n := n) (q := nI (8 * k)) (aE := aE) (aJ := aJ) (aS := aS) (aQ := aQ) (gV := gV) (aV := aV) (gZ := gZ) (aZ := aZ) (c := c) (st := st) (by omega) (by omega) (by omega) hE hg h6 h7 h8 hJ2 hb hA hD hQ hn
    rw [a8] at t1
    exact ⟨gE', gJ', gV', aV', gN', aN', gS', gZ', aZ', dP', gQ', dO', g', a', t1, by rw [t2, bd_s], t3⟩
end FD
theorem fd_l {n : Nat} {x : Int32} {aE aJ aS aQ : aA} (hn : 500 < n) : ∀ m k j gE gJ gV aV gN aN gS gZ aZ dP gQ dO g a, k + m = 4 → m < j → Inv gE gJ gV aV gN aN gS gZ aZ dP gQ dO g a → ∃ r gE' gJ' gV' aV' gN' aN' gS' gZ' aZ' dP' gQ' dO' g' a', lp (bE_fd n x aE aJ aS aQ) j (nI (8 * k), gE, gJ, gV, aV, gN, aN, gS, gZ, aZ, dP, gQ, dO) = some (r, gE', gJ', gV', aV', gN', aN', gS', gZ', aZ', dP', gQ', dO') ∧ lp (bM_fd n x) j (nI k, g, a) = some (r, g', a') ∧ Inv gE' gJ' gV' aV' gN' aN' gS' gZ' aZ' dP' gQ' dO' g' a' := by
  intro m
  induction m with
  | zero =>
    intro k j gE gJ gV aV gN aN gS gZ aZ dP gQ dO g a h1 h2 h
    have hk : k = 4 := by omega
    subst hk
    have e32 : (32 : Int32) ≤ nI (8 * 4) := Int32.le_refl _
    have e4 : (4 : Int32) ≤ nI 4 := Int32.le_refl _
    have h7 := h.1
    obtain ⟨st, s0, hE, hg, h6, h7, h8, hJ⟩ := h7
    refine ⟨gE 7, gE, gJ, gV, aV, gN, aN, gS, gZ, aZ, dP, gQ, dO, g, a, lp_e ?_ h2, lp_e ?_ h2, h⟩
    · rw [fbV_e, if_pos e32]
    · rw [fbM_e, if_pos e4, h7]
  | succ m ih =>
    intro k j gE gJ gV aV gN aN gS gZ aZ dP gQ dO g a h1 h2 h
    obtain ⟨gE', gJ', gV', aV', gN', aN', gS', gZ', aZ', dP', gQ', dO', g', a', t1, t2, t3⟩ := fd_s (n := n) (x := x) (k := k) (aE := aE) (aJ := aJ) (aS := aS) (aQ := aQ) (by omega) h hn
    rw [lp_s t1 (by omega), lp_s t2 (by omega)]
    exact ih (k + 1) (j - 1) gE' gJ' gV' aV' gN' aN' gS' gZ' aZ' dP' gQ' dO' g' a' (by omega) (by omega) t3
theorem L_fd {gE gJ gV : aG} {aV : aA} {gN : aG} {aN : aA} {gS gZ : aG} {aZ : aA} {dP : aP} {gQ : aG} {dO : aP} {g : aG} {a : aA} (h : Inv gE gJ gV aV gN aN gS gZ aZ dP gQ dO g a) (x : Int32) : L_feed Inv gE gJ gV aV gN aN gS gZ aZ dP gQ dO g a x := by
  obtain ⟨r, gE', gJ', gV', aV', gN', aN', gS', gZ', aZ', dP', gQ', dO', g', a', t1, t2, t3⟩ := fd_l (n := 600) (x := x) (aE := fun _ _ => 0) (aJ := fun _ _ => 0) (aS := fun _ _ => 0) (aQ := fun _ _ => 0) (by omega) 4 0 600 gE gJ gV aV gN aN gS gZ aZ dP gQ dO (va_up g 45 0) a (by omega) (by omega) (Inv_c h 0)
  exact ⟨600, 600, r, gE', gJ', gV', aV', gN', aN', gS', gZ', aZ', dP', gQ', dO', g', a', t1, t2, t3⟩
