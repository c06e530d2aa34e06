theorem eqn {f : Nat → Int32} {s z i j : Nat} (hd : ¬ (slen i = slen j ∧ ∀ k, k < slen i → sbyt i k = sbyt j k)) (h : eqs f s z i) : ¬ eqs f s z j := fun h2 => hd ⟨h.1.symm.trans h2.1, fun k hk => (h.2 k hk).symm.trans (h2.2 k (by have := h.1; have := h2.1; omega))⟩
section NT
variable {gV : aG} {aV : aA} {g : aG} {a : aA} {v u n : Nat}
theorem say5 (h : Vw gV aV g a v u) {w s z : Nat} (hw : w < v) (hT : isT aV a u w s z) (hn : 300 < n) : (eqs (a 8) s z 5 → mM_says n (nI w) 108 101 110 103 116 104 g a = some 1) ∧ (¬ eqs (a 8) s z 5 → mM_says n (nI w) 108 101 110 103 116 104 g a = some 0) := by
  have := sayM (i := 5) h hw hT hn (by decide +kernel)
  rwa [show sbyt 5 0 = 108 by decide +kernel, show sbyt 5 1 = 101 by decide +kernel, show sbyt 5 2 = 110 by decide +kernel, show sbyt 5 3 = 103 by decide +kernel, show sbyt 5 4 = 116 by decide +kernel, show sbyt 5 5 = 104 by decide +kernel] at this
theorem spv5 (h : Vw gV aV g a v u) {w s z : Nat} (hw : w < v) (hT : isT aV a u w s z) (hn : 300 < n) : (eqs (a 8) s z 5 → mV_spells n 5 (nI w) gV aV = some 1) ∧ (¬ eqs (a 8) s z 5 → mV_spells n 5 (nI w) gV aV = some 0) := splV h hw hT hn (by decide +kernel)
theorem say6 (h : Vw gV aV g a v u) {w s z : Nat} (hw : w < v) (hT : isT aV a u w s z) (hn : 300 < n) : (eqs (a 8) s z 6 → mM_says n (nI w) 105 110 100 101 120 0 g a = some 1) ∧ (¬ eqs (a 8) s z 6 → mM_says n (nI w) 105 110 100 101 120 0 g a = some 0) := by
  have := sayM (i := 6) h hw hT hn (by decide +kernel)
  rwa [show sbyt 6 0 = 105 by decide +kernel, show sbyt 6 1 = 110 by decide +kernel, show sbyt 6 2 = 100 by decide +kernel, show sbyt 6 3 = 101 by decide +kernel, show sbyt 6 4 = 120 by decide +kernel, show sbyt 6 5 = 0 by decide +kernel] at this
theorem spv6 (h : Vw gV aV g a v u) {w s z : Nat} (hw : w < v) (hT : isT aV a u w s z) (hn : 300 < n) : (eqs (a 8) s z 6 → mV_spells n 6 (nI w) gV aV = some 1) ∧ (¬ eqs (a 8) s z 6 → mV_spells n 6 (nI w) gV aV = some 0) := splV h hw hT hn (by decide +kernel)
theorem say7 (h : Vw gV aV g a v u) {w s z : Nat} (hw : w < v) (hT : isT aV a u w s z) (hn : 300 < n) : (eqs (a 8) s z 7 → mM_says n (nI w) 97 116 0 0 0 0 g a = some 1) ∧ (¬ eqs (a 8) s z 7 → mM_says n (nI w) 97 116 0 0 0 0 g a = some 0) := by
  have := sayM (i := 7) h hw hT hn (by decide +kernel)
  rwa [show sbyt 7 0 = 97 by decide +kernel, show sbyt 7 1 = 116 by decide +kernel, show sbyt 7 2 = 0 by decide +kernel, show sbyt 7 3 = 0 by decide +kernel, show sbyt 7 4 = 0 by decide +kernel, show sbyt 7 5 = 0 by decide +kernel] at this
theorem spv7 (h : Vw gV aV g a v u) {w s z : Nat} (hw : w < v) (hT : isT aV a u w s z) (hn : 300 < n) : (eqs (a 8) s z 7 → mV_spells n 7 (nI w) gV aV = some 1) ∧ (¬ eqs (a 8) s z 7 → mV_spells n 7 (nI w) gV aV = some 0) := splV h hw hT hn (by decide +kernel)
theorem say8 (h : Vw gV aV g a v u) {w s z : Nat} (hw : w < v) (hT : isT aV a u w s z) (hn : 300 < n) : (eqs (a 8) s z 8 → mM_says n (nI w) 108 105 110 101 115 0 g a = some 1) ∧ (¬ eqs (a 8) s z 8 → mM_says n (nI w) 108 105 110 101 115 0 g a = some 0) := by
  have := sayM (i := 8) h hw hT hn (by decide +kernel)
  rwa [show sbyt 8 0 = 108 by decide +kernel, show sbyt 8 1 = 105 by decide +kernel, show sbyt 8 2 = 110 by decide +kernel, show sbyt 8 3 = 101 by decide +kernel, show sbyt 8 4 = 115 by decide +kernel, show sbyt 8 5 = 0 by decide +kernel] at this
theorem spv8 (h : Vw gV aV g a v u) {w s z : Nat} (hw : w < v) (hT : isT aV a u w s z) (hn : 300 < n) : (eqs (a 8) s z 8 → mV_spells n 8 (nI w) gV aV = some 1) ∧ (¬ eqs (a 8) s z 8 → mV_spells n 8 (nI w) gV aV = some 0) := splV h hw hT hn (by decide +kernel)
theorem say15 (h : Vw gV aV g a v u) {w s z : Nat} (hw : w < v) (hT : isT aV a u w s z) (hn : 300 < n) : (eqs (a 8) s z 15 → mM_says n (nI w) 101 120 105 116 0 0 g a = some 1) ∧ (¬ eqs (a 8) s z 15 → mM_says n (nI w) 101 120 105 116 0 0 g a = some 0) := by
  have := sayM (i := 15) h hw hT hn (by decide +kernel)
  rwa [show sbyt 15 0 = 101 by decide +kernel, show sbyt 15 1 = 120 by decide +kernel, show sbyt 15 2 = 105 by decide +kernel, show sbyt 15 3 = 116 by decide +kernel, show sbyt 15 4 = 0 by decide +kernel, show sbyt 15 5 = 0 by decide +kernel] at this
theorem spv15 (h : Vw gV aV g a v u) {w s z : Nat} (hw : w < v) (hT : isT aV a u w s z) (hn : 300 < n) : (eqs (a 8) s z 15 → mV_spells n 15 (nI w) gV aV = some 1) ∧ (¬ eqs (a 8) s z 15 → mV_spells n 15 (nI w) gV aV = some 0) := splV h hw hT hn (by decide +kernel)
theorem say16 (h : Vw gV aV g a v u) {w s z : Nat} (hw : w < v) (hT : isT aV a u w s z) (hn : 300 < n) : (eqs (a 8) s z 16 → mM_says n (nI w) 111 112 101 110 0 0 g a = some 1) ∧ (¬ eqs (a 8) s z 16 → mM_says n (nI w) 111 112 101 110 0 0 g a = some 0) := by
  have := sayM (i := 16) h hw hT hn (by decide +kernel)
  rwa [show sbyt 16 0 = 111 by decide +kernel, show sbyt 16 1 = 112 by decide +kernel, show sbyt 16 2 = 101 by decide +kernel, show sbyt 16 3 = 110 by decide +kernel, show sbyt 16 4 = 0 by decide +kernel, show sbyt 16 5 = 0 by decide +kernel] at this
theorem spv16 (h : Vw gV aV g a v u) {w s z : Nat} (hw : w < v) (hT : isT aV a u w s z) (hn : 300 < n) : (eqs (a 8) s z 16 → mV_spells n 16 (nI w) gV aV = some 1) ∧ (¬ eqs (a 8) s z 16 → mV_spells n 16 (nI w) gV aV = some 0) := splV h hw hT hn (by decide +kernel)
theorem say18 (h : Vw gV aV g a v u) {w s z : Nat} (hw : w < v) (hT : isT aV a u w s z) (hn : 300 < n) : (eqs (a 8) s z 18 → mM_says n (nI w) 99 108 111 115 101 0 g a = some 1) ∧ (¬ eqs (a 8) s z 18 → mM_says n (nI w) 99 108 111 115 101 0 g a = some 0) := by
  have := sayM (i := 18) h hw hT hn (by decide +kernel)
  rwa [show sbyt 18 0 = 99 by decide +kernel, show sbyt 18 1 = 108 by decide +kernel, show sbyt 18 2 = 111 by decide +kernel, show sbyt 18 3 = 115 by decide +kernel, show sbyt 18 4 = 101 by decide +kernel, show sbyt 18 5 = 0 by decide +kernel] at this
theorem spv18 (h : Vw gV aV g a v u) {w s z : Nat} (hw : w < v) (hT : isT aV a u w s z) (hn : 300 < n) : (eqs (a 8) s z 18 → mV_spells n 18 (nI w) gV aV = some 1) ∧ (¬ eqs (a 8) s z 18 → mV_spells n 18 (nI w) gV aV = some 0) := splV h hw hT hn (by decide +kernel)
theorem say20 (h : Vw gV aV g a v u) {w s z : Nat} (hw : w < v) (hT : isT aV a u w s z) (hn : 300 < n) : (eqs (a 8) s z 20 → mM_says n (nI w) 99 104 97 110 103 101 g a = some 1) ∧ (¬ eqs (a 8) s z 20 → mM_says n (nI w) 99 104 97 110 103 101 g a = some 0) := by
  have := sayM (i := 20) h hw hT hn (by decide +kernel)
  rwa [show sbyt 20 0 = 99 by decide +kernel, show sbyt 20 1 = 104 by decide +kernel, show sbyt 20 2 = 97 by decide +kernel, show sbyt 20 3 = 110 by decide +kernel, show sbyt 20 4 = 103 by decide +kernel, show sbyt 20 5 = 101 by decide +kernel] at this
theorem spv20 (h : Vw gV aV g a v u) {w s z : Nat} (hw : w < v) (hT : isT aV a u w s z) (hn : 300 < n) : (eqs (a 8) s z 20 → mV_spells n 20 (nI w) gV aV = some 1) ∧ (¬ eqs (a 8) s z 20 → mV_spells n 20 (nI w) gV aV = some 0) := splV h hw hT hn (by decide +kernel)
theorem say23 (h : Vw gV aV g a v u) {w s z : Nat} (hw : w < v) (hT : isT aV a u w s z) (hn : 300 < n) : (eqs (a 8) s z 23 → mM_says n (nI w) 99 97 110 99 101 108 g a = some 1) ∧ (¬ eqs (a 8) s z 23 → mM_says n (nI w) 99 97 110 99 101 108 g a = some 0) := by
  have := sayM (i := 23) h hw hT hn (by decide +kernel)
  rwa [show sbyt 23 0 = 99 by decide +kernel, show sbyt 23 1 = 97 by decide +kernel, show sbyt 23 2 = 110 by decide +kernel, show sbyt 23 3 = 99 by decide +kernel, show sbyt 23 4 = 101 by decide +kernel, show sbyt 23 5 = 108 by decide +kernel] at this
theorem spv23 (h : Vw gV aV g a v u) {w s z : Nat} (hw : w < v) (hT : isT aV a u w s z) (hn : 300 < n) : (eqs (a 8) s z 23 → mV_spells n 23 (nI w) gV aV = some 1) ∧ (¬ eqs (a 8) s z 23 → mV_spells n 23 (nI w) gV aV = some 0) := splV h hw hT hn (by decide +kernel)
theorem spv13 (h : Vw gV aV g a v u) {w s z : Nat} (hw : w < v) (hT : isT aV a u w s z) (hn : 300 < n) : (eqs (a 8) s z 13 → mV_spells n 13 (nI w) gV aV = some 1) ∧ (¬ eqs (a 8) s z 13 → mV_spells n 13 (nI w) gV aV = some 0) := splV h hw hT hn (by decide +kernel)
theorem spv14 (h : Vw gV aV g a v u) {w s z : Nat} (hw : w < v) (hT : isT aV a u w s z) (hn : 300 < n) : (eqs (a 8) s z 14 → mV_spells n 14 (nI w) gV aV = some 1) ∧ (¬ eqs (a 8) s z 14 → mV_spells n 14 (nI w) gV aV = some 0) := splV h hw hT hn (by decide +kernel)
theorem mem3 (h : Vw gV aV g a v u) (hn : 300 < n) (h0 : aV 0 0 = 4) : ∃ y, mV_member n 3 gV aV = some y ∧ mM_member n 105 100 0 0 0 0 g a = some y ∧ (y = -1 ∨ ∃ w, w < v ∧ y = nI w) := by
  have := mem_2 (i := 3) h (by decide +kernel) hn h0
  rwa [show sbyt 3 0 = 105 by decide +kernel, show sbyt 3 1 = 100 by decide +kernel, show sbyt 3 2 = 0 by decide +kernel, show sbyt 3 3 = 0 by decide +kernel, show sbyt 3 4 = 0 by decide +kernel, show sbyt 3 5 = 0 by decide +kernel] at this
theorem mem4 (h : Vw gV aV g a v u) (hn : 300 < n) (h0 : aV 0 0 = 4) : ∃ y, mV_member n 4 gV aV = some y ∧ mM_member n 109 101 116 104 111 100 g a = some y ∧ (y = -1 ∨ ∃ w, w < v ∧ y = nI w) := by
  have := mem_2 (i := 4) h (by decide +kernel) hn h0
  rwa [show sbyt 4 0 = 109 by decide +kernel, show sbyt 4 1 = 101 by decide +kernel, show sbyt 4 2 = 116 by decide +kernel, show sbyt 4 3 = 104 by decide +kernel, show sbyt 4 4 = 111 by decide +kernel, show sbyt 4 5 = 100 by decide +kernel] at this
theorem mem9 (h : Vw gV aV g a v u) (hn : 300 < n) (h0 : aV 0 0 = 4) : ∃ y, mV_member n 9 gV aV = some y ∧ mM_member n 112 97 114 97 109 115 g a = some y ∧ (y = -1 ∨ ∃ w, w < v ∧ y = nI w) := by
  have := mem_2 (i := 9) h (by decide +kernel) hn h0
  rwa [show sbyt 9 0 = 112 by decide +kernel, show sbyt 9 1 = 97 by decide +kernel, show sbyt 9 2 = 114 by decide +kernel, show sbyt 9 3 = 97 by decide +kernel, show sbyt 9 4 = 109 by decide +kernel, show sbyt 9 5 = 115 by decide +kernel] at this
def kM (n : Nat) (v2 : Int32) (g : aG) (a : aA) (F : Int32 → Option ((aG × aA) ⊕ (aG × aA))) : Option ((aG × aA) ⊕ (aG × aA)) := bd (mM_says n v2 108 101 110 103 116 104 g a) (fun x21 => jn (α := Int32) (if x21 = 0 then (bd (mM_says n v2 105 110 100 101 120 0 g a) (fun x104 => if x104 = 0 then (bd (mM_says n v2 97 116 0 0 0 0 g a) (fun x108 => if x108 = 0 then (bd (mM_says n v2 108 105 110 101 115 0 g a) (fun x112 => if x112 = 0 then (some (.inl (-1))) else (some (.inl 3)))) else (some (.inl 2)))) else (some (.inl 1)))) else (some (.inl 0))) F)
theorem kdc (h : Vw gV aV g a v u) {w s z : Nat} {gE : aG} {aE : aA} (hw : w < v) (hT : isT aV a u w s z) (hn : 300 < n) : (∃ kd, kd ≤ 3 ∧ mE_kindOf n (nI w) gE aE gV aV = some (nI kd) ∧ ∀ F, kM n (nI w) g a F = F (nI kd)) ∨ (mE_kindOf n (nI w) gE aE gV aV = some (-1) ∧ ∀ F, kM n (nI w) g a F = F (-1)) := by
  by_cases c5 : eqs (a 8) s z 5
  · refine .inl ⟨0, by omega, ?_, fun F => ?_⟩
    · rw [mE_kindOf, (spv5 h hw hT hn).1 c5, bd_s, if_neg one_ne_zero]; rfl
    · rw [kM, (say5 h hw hT hn).1 c5, bd_s, if_neg one_ne_zero, jn_l]; rfl
  by_cases c6 : eqs (a 8) s z 6
  · refine .inl ⟨1, by omega, ?_, fun F => ?_⟩
    · rw [mE_kindOf, (spv5 h hw hT hn).2 c5, bd_s, if_pos rfl, (spv6 h hw hT hn).1 c6, bd_s, if_neg one_ne_zero]; rfl
    · rw [kM, (say5 h hw hT hn).2 c5, bd_s, if_pos rfl, (say6 h hw hT hn).1 c6, bd_s, if_neg one_ne_zero, jn_l]; rfl
  by_cases c7 : eqs (a 8) s z 7
  · refine .inl ⟨2, by omega, ?_, fun F => ?_⟩
    · rw [mE_kindOf, (spv5 h hw hT hn).2 c5, bd_s, if_pos rfl, (spv6 h hw hT hn).2 c6, bd_s, if_pos rfl, (spv7 h hw hT hn).1 c7, bd_s, if_neg one_ne_zero]; rfl
    · rw [kM, (say5 h hw hT hn).2 c5, bd_s, if_pos rfl, (say6 h hw hT hn).2 c6, bd_s, if_pos rfl, (say7 h hw hT hn).1 c7, bd_s, if_neg one_ne_zero, jn_l]; rfl
  by_cases c8 : eqs (a 8) s z 8
  · refine .inl ⟨3, by omega, ?_, fun F => ?_⟩
    · rw [mE_kindOf, (spv5 h hw hT hn).2 c5, bd_s, if_pos rfl, (spv6 h hw hT hn).2 c6, bd_s, if_pos rfl, (spv7 h hw hT hn).2 c7, bd_s, if_pos rfl, (spv8 h hw hT hn).1 c8, bd_s, if_neg one_ne_zero]; rfl
    · rw [kM, (say5 h hw hT hn).2 c5, bd_s, if_pos rfl, (say6 h hw hT hn).2 c6, bd_s, if_pos rfl, (say7 h hw hT hn).2 c7, bd_s, if_pos rfl, (say8 h hw hT hn).1 c8, bd_s, if_neg one_ne_zero, jn_l]; rfl
  refine .inr ⟨?_, fun F => ?_⟩
  · rw [mE_kindOf, (spv5 h hw hT hn).2 c5, bd_s, if_pos rfl, (spv6 h hw hT hn).2 c6, bd_s, if_pos rfl, (spv7 h hw hT hn).2 c7, bd_s, if_pos rfl, (spv8 h hw hT hn).2 c8, bd_s, if_pos rfl]
  · rw [kM, (say5 h hw hT hn).2 c5, bd_s, if_pos rfl, (say6 h hw hT hn).2 c6, bd_s, if_pos rfl, (say7 h hw hT hn).2 c7, bd_s, if_pos rfl, (say8 h hw hT hn).2 c8, bd_s, if_pos rfl, jn_l]
theorem kd_no (h : Vw gV aV g a v u) {w s z : Nat} {gE : aG} {aE : aA} (hw : w < v) (hT : isT aV a u w s z) (hn : 300 < n) (hx : eqs (a 8) s z 13 ∨ eqs (a 8) s z 14) : mE_kindOf n (nI w) gE aE gV aV = some (-1) := by
  have c5 : ¬ eqs (a 8) s z 5 := by
    rcases hx with e | e
    · exact (eqn (i := 13) (j := 5) (by decide +kernel)) e
    · exact (eqn (i := 14) (j := 5) (by decide +kernel)) e
  have c6 : ¬ eqs (a 8) s z 6 := by
    rcases hx with e | e
    · exact (eqn (i := 13) (j := 6) (by decide +kernel)) e
    · exact (eqn (i := 14) (j := 6) (by decide +kernel)) e
  have c7 : ¬ eqs (a 8) s z 7 := by
    rcases hx with e | e
    · exact (eqn (i := 13) (j := 7) (by decide +kernel)) e
    · exact (eqn (i := 14) (j := 7) (by decide +kernel)) e
  have c8 : ¬ eqs (a 8) s z 8 := by
    rcases hx with e | e
    · exact (eqn (i := 13) (j := 8) (by decide +kernel)) e
    · exact (eqn (i := 14) (j := 8) (by decide +kernel)) e
  rw [mE_kindOf, (spv5 h hw hT hn).2 c5, bd_s, if_pos rfl, (spv6 h hw hT hn).2 c6, bd_s, if_pos rfl, (spv7 h hw hT hn).2 c7, bd_s, if_pos rfl, (spv8 h hw hT hn).2 c8, bd_s, if_pos rfl]
theorem ask_e2 (n : Nat) (v1 v2 v3 : Int32) (g : aG) (a : aA) : mM_ask n v1 v2 v3 g a = if (g 0) = 0 then (bd (mM_isInitialize n v2 g a) (fun x121 => jn (α := Int32) (if x121 = 0 then (some (.inl (-32002))) else (some (.inl 0))) (fun x125 => bd (mM_respond n 1 v1 x121 x125 g a) (fun q127 => if x121 = 0 then (lt (va_up q127.1 0 0) (fun g132 => some ((g132, q127.2)))) else (lt (va_up q127.1 0 1) (fun g133 => some ((g133, q127.2)))))))) else (jn (α := aG × aA) (if (g 0) = 2 then (some (.inl (g, a))) else (bd (mM_isInitialize n v2 g a) (fun x13 => if x13 = 0 then (bd (mM_isShutdown n v2 g a) (fun x17 => if x17 = 0 then kM n v2 g a (fun x25 => aM_k n v1 v3 x25 g a) else (bd (mM_respond n 1 v1 1 0 g a) (fun q115 => lt (va_up q115.1 0 2) (fun g119 => some (.inr ((g119, q115.2)))))))) else (some (.inl (g, a)))))) (fun q6 => bd (mM_respond n 1 v1 0 (-32600) q6.1 q6.2) (fun q7 => some ((q7.1, q7.2))))) := rfl
/-- a request on both sides -/
theorem req_2 (h : Vw gV aV g a v u) {w st : Nat} {y i : Int32} {gE gN gS gZ gQ : aG} {aE aN aS aZ aQ : aA} {dP dO : aP} (hw : w < v) (h2 : aV 0 w = 2) (hst : st < 3) (hE : gE 5 = nI st) (hg : g 0 = nI st) (hy : mV_member n 9 gV aV = some y) (hy2 : y = -1 ∨ ∃ L, L < v ∧ y = nI L) (hi : rg i) (hN : IvA gN aN g a) (hD : IvD gS dP g a) (hQ : IvQ gQ dO g a) (hn : 300 < n) : ∃ st' gE' gN' aN' gQ' dO' g' a', st' < 3 ∧ mE_answerRequest n i (nI w) gE aE gV aV gN aN gS aS gZ aZ dP gQ aQ dO = some (gE', gN', aN', gQ', dO') ∧ mM_ask n i (nI w) y g a = some (g', a') ∧ gE' 5 = nI st' ∧ g' 0 = nI st' ∧ (∀ j, j ≠ 5 → gE' j = gE j) ∧ IvA gN' aN' g' a' ∧ IvQ gQ' dO' g' a' ∧ (∀ j, j ≠ 0 → j ≠ 38 → j ≠ 31 → g' j = g j) ∧ (∀ j, j < 16 ∨ 25 < j → a' j = a j) := by
  obtain ⟨s, z, hT⟩ := h.str hw h2
  have q0 : (nI st = 0) ↔ st = 0 := eq_L (b := 0) (by omega) (by decide)
  have q1 : (nI st = 1) ↔ st = 1 := eq_L (b := 1) (by omega) (by decide)
  have q2 : (nI st = 2) ↔ st = 2 := eq_L (b := 2) (by omega) (by decide)
  have r2600 : rg (-32600) := rg_m (w := 32600) (by omega) (by omega)
  -- an error, the state kept
  have er : ∀ c, rg c → (∀ gN1 aN1, mN_addError n i c gN aN = some (gN1, aN1) → mE_answerRequest n i (nI w) gE aE gV aV gN aN gS aS gZ aZ dP gQ aQ dO = some (gE, gN1, aN1, gQ, dO)) → (∀ g1 a1, mM_respond n 1 i 0 c g a = some (g1, a1) → g1 0 = g 0 → mM_ask n i (nI w) y g a = some (g1, a1)) → ∃ st' gE' gN' aN' gQ' dO' g' a', st' < 3 ∧ mE_answerRequest n i (nI w) gE aE gV aV gN aN gS aS gZ aZ dP gQ aQ dO = some (gE', gN', aN', gQ', dO') ∧ mM_ask n i (nI w) y g a = some (g', a') ∧ gE' 5 = nI st' ∧ g' 0 = nI st' ∧ (∀ j, j ≠ 5 → gE' j = gE j) ∧ IvA gN' aN' g' a' ∧ IvQ gQ' dO' g' a' ∧ (∀ j, j ≠ 0 → j ≠ 38 → j ≠ 31 → g' j = g j) ∧ (∀ j, j < 16 ∨ 25 < j → a' j = a j) := by
    intro c hc h1 h3
    obtain ⟨gN1, aN1, g1, a1, n1, n2, n3, n4, n5⟩ := err_2 (n := n) (i := i) (c := c) hN hi hc
    exact ⟨st, gE, gN1, aN1, gQ, dO, g1, a1, hst, h1 _ _ n1, h3 _ _ n2 (n4 0 (by omega)), hE, (n4 0 (by omega)).trans hg, fun _ _ => rfl, n3, hQ.mv (n4 31 (by omega)) (fun j _ _ => n5 j (by omega)), fun j _ j1 _ => n4 j j1, fun j hj => n5 j (by omega)⟩
  by_cases s0 : st = 0
  · have c0 := q0.mpr s0
    have c1 : ¬ nI st = 1 := fun z => by have := q1.mp z; omega
    have c2 : ¬ nI st = 2 := fun z => by have := q2.mp z; omega
    by_cases e14 : eqs (a 8) s z 14
    · obtain ⟨gN1, aN1, g1, a1, n1, n2, n3, n4, n5⟩ := res_2 (n := n) (i := i) hN hi
      refine ⟨1, va_up gE 5 1, gN1, aN1, gQ, dO, va_up g1 0 1, a1, by omega, ?_, ?_, va_up_self _ _ _, va_up_self _ _ _, fun j hj => va_up_ne _ _ hj, n3.mv (va_up_ne _ _ (by omega)) (fun _ _ _ => rfl), hQ.mv ((va_up_ne _ _ (by omega)).trans (n4 31 (by omega))) (fun j _ _ => n5 j (by omega)), fun j j0 j1 _ => (va_up_ne _ _ j0).trans (n4 j j1), fun j hj => n5 j (by omega)⟩
      · rw [mE_answerRequest, hE, if_neg c1, if_neg c2, (spv14 h hw hT hn).1 e14, bd_s, if_neg one_ne_zero, lt, n1, bd_s]
      · rw [ask_e2, hg, if_pos c0, (iniM h hw hT hn).1 e14, bd_s, if_neg one_ne_zero, jn_l, n2, bd_s, if_neg one_ne_zero, lt]
    · refine er (-32002) (rg_m (w := 32002) (by omega) (by omega)) (fun gN1 aN1 n1 => ?_) (fun g1 a1 n2 h0 => ?_)
      · rw [mE_answerRequest, hE, if_neg c1, if_neg c2, (spv14 h hw hT hn).2 e14, bd_s, if_pos rfl, n1, bd_s]
      · have hu0 : va_up g1 0 0 = g1 := by
          have : g1 0 = 0 := h0.trans (hg.trans c0)
          funext j
          rw [va_ap]
          split
          · rename_i e; rw [e, this]
          · rfl
        rw [ask_e2, hg, if_pos c0, (iniM h hw hT hn).2 e14, bd_s, if_pos rfl, jn_l, n2, bd_s, if_pos rfl, lt, hu0]
  have c0 : ¬ nI st = 0 := fun z => s0 (q0.mp z)
  by_cases s2 : st = 2
  · have c2 := q2.mpr s2
    have c1 : ¬ nI st = 1 := fun z => by have := q1.mp z; omega
    refine er (-32600) r2600 (fun gN1 aN1 n1 => ?_) (fun g1 a1 n2 h0 => ?_)
    · rw [mE_answerRequest, hE, if_neg c1, if_pos c2, n1, bd_s]
    · rw [ask_e2, hg, if_neg c0, if_pos c2, jn_l, n2, bd_s]
  have c2 : ¬ nI st = 2 := fun z => s2 (q2.mp z)
  have c1 : nI st = 1 := q1.mpr (by omega)
  by_cases e14 : eqs (a 8) s z 14
  · refine er (-32600) r2600 (fun gN1 aN1 n1 => ?_) (fun g1 a1 n2 h0 => ?_)
    · rw [mE_answerRequest, hE, if_pos c1, mE_answerWhenReady, kd_no h hw hT hn (.inr e14), bd_s, if_pos rfl, (spv13 h hw hT hn).2 ((eqn (i := 14) (j := 13) (by decide +kernel)) e14), bd_s, if_pos rfl, (spv14 h hw hT hn).1 e14, bd_s, if_neg one_ne_zero, n1, bd_s, bd_s]
    · rw [ask_e2, hg, if_neg c0, if_neg c2, (iniM h hw hT hn).1 e14, bd_s, if_neg one_ne_zero, jn_l, n2, bd_s]
  by_cases e13 : eqs (a 8) s z 13
  · obtain ⟨gN1, aN1, g1, a1, n1, n2, n3, n4, n5⟩ := res_2 (n := n) (i := i) hN hi
    refine ⟨2, va_up gE 5 2, gN1, aN1, gQ, dO, va_up g1 0 2, a1, by omega, ?_, ?_, va_up_self _ _ _, va_up_self _ _ _, fun j hj => va_up_ne _ _ hj, n3.mv (va_up_ne _ _ (by omega)) (fun _ _ _ => rfl), hQ.mv ((va_up_ne _ _ (by omega)).trans (n4 31 (by omega))) (fun j _ _ => n5 j (by omega)), fun j j0 j1 _ => (va_up_ne _ _ j0).trans (n4 j j1), fun j hj => n5 j (by omega)⟩
    · rw [mE_answerRequest, hE, if_pos c1, mE_answerWhenReady, kd_no h hw hT hn (.inl e13), bd_s, if_pos rfl, (spv13 h hw hT hn).1 e13, bd_s, if_neg one_ne_zero, lt, n1, bd_s, bd_s]
    · rw [ask_e2, hg, if_neg c0, if_neg c2, (iniM h hw hT hn).2 e14, bd_s, if_pos rfl, (shuM h hw hT hn).1 e13, bd_s, if_neg one_ne_zero, n2, bd_s, lt, jn_r]
  rcases kdc (n := n) (gE := gE) (aE := aE) h hw hT hn with ⟨kd, hk, k1, k2⟩ | ⟨k1, k2⟩
  · obtain ⟨gN', aN', gQ', dO', g', a', m1, m2, m3, m4, m5, m6⟩ := ask_2 (n := n) (gE := gE) (aE := aE) (gZ := gZ) (aZ := aZ) (aS := aS) (aQ := aQ) h hk hy hy2 hi hN hD hQ hn
    refine ⟨st, gE, gN', aN', gQ', dO', g', a', hst, ?_, ?_, hE, (m5 0 (by omega) (by omega)).trans hg, fun _ _ => rfl, m3, m4, fun j _ j1 j2 => m5 j j1 j2, m6⟩
    · rw [mE_answerRequest, hE, if_pos c1, mE_answerWhenReady, k1, bd_s, if_neg (nI_lt0 (show kd < 100 by omega)).2, m1, bd_s, bd_s]
    · rw [ask_e2, hg, if_neg c0, if_neg c2, (iniM h hw hT hn).2 e14, bd_s, if_pos rfl, (shuM h hw hT hn).2 e13, bd_s, if_pos rfl, k2, m2, jn_r]
  · have m1 : ¬ (0 : Int32) ≤ -1 := by decide
    have ne1 : ¬ (-32601 : Int32) = 0 := by decide
    refine er (-32601) (rg_m (w := 32601) (by omega) (by omega)) (fun gN1 aN1 n1 => ?_) (fun g1 a1 n2 h0 => ?_)
    · rw [mE_answerRequest, hE, if_pos c1, mE_answerWhenReady, k1, bd_s, if_pos rfl, (spv13 h hw hT hn).2 e13, bd_s, if_pos rfl, (spv14 h hw hT hn).2 e14, bd_s, if_pos rfl, n1, bd_s, bd_s]
    · rw [ask_e2, hg, if_neg c0, if_neg c2, (iniM h hw hT hn).2 e14, bd_s, if_pos rfl, (shuM h hw hT hn).2 e13, bd_s, if_pos rfl, k2, aM_k, if_neg m1, jn_l, if_neg ne1, n2, bd_s, jn_r]
end NT
