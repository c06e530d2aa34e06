def aI5 (a : aA) (v : Nat) (t : Int32) : aA := va_up a 5 (upd (a 5) v t)
theorem val_34 {g : aG} {a : aA} {b : Nat → Int32} {N s v u d e n : Nat} (hN : N ≤ 200) (hg : g 6 = nI N) (hc : ∀ i, i < N → chr (b i)) (hb : ∀ i, i < N → a 0 i = b i) (hs : s < N) (hu : u ≤ s) (hv : v < 40) (hd : d ≤ 6) (hn : 300 < n) : (∀ l q, scq b N s = some (l, q) → mM_value n 34 (rG g s v u d e) a = some (1, rG g q (v + 1) (u + l.length) d 1, va_up (va_up (va_up (va_up (aI5 a v (topd d a)) 1 (upd (a 1) v 2)) 3 (upd (a 3) v (nI u))) 8 (ws (a 8) u l)) 4 (upd (a 4) v (nI l.length)))) ∧ (scq b N s = none → ∃ p' u' f1 f2 f3, mM_value n 34 (rG g s v u d e) a = some (0, rG g p' (v + 1) u' d 1, va_up (va_up (va_up (va_up (aI5 a v (topd d a)) 1 (upd (a 1) v 2)) 3 f1) 8 f2) 4 f3)) := by
  have e0 : ¬ nI v = 40 := by rw [eq_L (by omega) (by decide)]; omega
  have e1 : inb (nI v) 41 = true := inb_T (by omega) (by omega)
  have e2 : (nI v).toNatClampNeg = v := nI_clamp (by omega)
  have o1 : ¬ ((34 : Int32) = 91) := by decide
  have o2 : ¬ ((34 : Int32) = 123) := by decide
  obtain ⟨h1, h2⟩ := strM (g := g) (a := va_up (va_up (aI5 a v (topd d a)) 1 (upd (a 1) v 2)) 3 (upd (a 3) v (nI u))) (v := v + 1) (u := u) (d := d) (e := 1) (n := n) hN hg hc (fun i hi => hb i hi) hs hu hn
  refine ⟨fun l q h => ?_, fun h => ?_⟩
  · have h3 := h1 l q h
    have e3 : nI (u + l.length) - nI u = nI l.length := by rw [nI_sb (by omega)]; congr 1; omega
    simp only [aI5] at h3 ⊢
    rw [mM_value, rG_8, if_neg e0, val_t hd, jn_l]
    simp only [e1, e2, rG_u8, rG_u21L, ad_L, o1, o2, reduceIte, jn_l, jn_r, gd_T, lt, va_ap, upd_ap, Nat.reduceEqDiff, rG_17, h3, bd_s, e3, okz_1]
  · obtain ⟨p', u', f', h3⟩ := h2 h
    simp only [aI5] at h3
    refine ⟨p', u', upd (a 3) v (nI u), f', upd (a 4) v (nI u' - nI u), ?_⟩
    simp only [aI5]
    rw [mM_value, rG_8, if_neg e0, val_t hd, jn_l]
    simp only [e1, e2, rG_u8, rG_u21L, ad_L, o1, o2, reduceIte, jn_l, jn_r, gd_T, lt, va_ap, upd_ap, Nat.reduceEqDiff, rG_17, h3, bd_s, okz_0]
theorem val_wd {g : aG} {a : aA} {s v u d e n q : Nat} {c c1 c2 c3 c4 r : Int32} (hv : v < 40) (hd : d ≤ 6) (hc : (c = 116 ∧ c1 = 114 ∧ c2 = 117 ∧ c3 = 101 ∧ c4 = 0) ∨ (c = 102 ∧ c1 = 97 ∧ c2 = 108 ∧ c3 = 115 ∧ c4 = 101) ∨ (c = 110 ∧ c1 = 117 ∧ c2 = 108 ∧ c3 = 108 ∧ c4 = 0)) (h : mM_word n c1 c2 c3 c4 (rG g s (v + 1) u d 1) (va_up (aI5 a v (topd d a)) 1 (upd (a 1) v 0)) = some (r, rG g q (v + 1) u d 1)) (hr : okz r = true) : mM_value n c (rG g s v u d e) a = some (r, rG g q (v + 1) u d 1, va_up (aI5 a v (topd d a)) 1 (upd (a 1) v 0)) := by
  have e0 : ¬ nI v = 40 := by rw [eq_L (by omega) (by decide)]; omega
  have e1 : inb (nI v) 41 = true := inb_T (by omega) (by omega)
  have e2 : (nI v).toNatClampNeg = v := nI_clamp (by omega)
  simp only [aI5] at h ⊢
  rcases hc with ⟨rfl, rfl, rfl, rfl, rfl⟩ | ⟨rfl, rfl, rfl, rfl, rfl⟩ | ⟨rfl, rfl, rfl, rfl, rfl⟩
  · have o1 : ¬ ((116 : Int32) = 91) := by decide
    have o2 : ¬ ((116 : Int32) = 123) := by decide
    have o3 : ¬ ((116 : Int32) = 34) := by decide
    rw [mM_value, rG_8, if_neg e0, val_t hd, jn_l]
    simp only [e1, e2, rG_u8, rG_u21L, ad_L, o1, o2, o3, reduceIte, jn_l, jn_r, gd_T, lt, va_ap, upd_ap, Nat.reduceEqDiff, h, bd_s, hr]
  · have o1 : ¬ ((102 : Int32) = 91) := by decide
    have o2 : ¬ ((102 : Int32) = 123) := by decide
    have o3 : ¬ ((102 : Int32) = 34) := by decide
    have o4 : ¬ ((102 : Int32) = 116) := by decide
    rw [mM_value, rG_8, if_neg e0, val_t hd, jn_l]
    simp only [e1, e2, rG_u8, rG_u21L, ad_L, o1, o2, o3, o4, reduceIte, jn_l, jn_r, gd_T, lt, va_ap, upd_ap, Nat.reduceEqDiff, h, bd_s, hr]
  · have o1 : ¬ ((110 : Int32) = 91) := by decide
    have o2 : ¬ ((110 : Int32) = 123) := by decide
    have o3 : ¬ ((110 : Int32) = 34) := by decide
    have o4 : ¬ ((110 : Int32) = 116) := by decide
    have o5 : ¬ ((110 : Int32) = 102) := by decide
    rw [mM_value, rG_8, if_neg e0, val_t hd, jn_l]
    simp only [e1, e2, rG_u8, rG_u21L, ad_L, o1, o2, o3, o4, o5, reduceIte, jn_l, jn_r, gd_T, lt, va_ap, upd_ap, Nat.reduceEqDiff, h, bd_s, hr]
theorem val_nm {g : aG} {a : aA} {s v u d e n q : Nat} {c r : Int32} {f : Nat → Int32} (hv : v < 40) (hd : d ≤ 6) (hc : ¬ c = 91 ∧ ¬ c = 123 ∧ ¬ c = 34 ∧ ¬ c = 116 ∧ ¬ c = 102 ∧ ¬ c = 110) (h : mM_numeral n (nI v) (rG g s (v + 1) u d 1) (va_up (va_up (aI5 a v (topd d a)) 1 (upd (a 1) v 0)) 1 (upd (upd (a 1) v 0) v 1)) = some (r, rG g q (v + 1) u d 1, va_up (va_up (va_up (aI5 a v (topd d a)) 1 (upd (a 1) v 0)) 1 (upd (upd (a 1) v 0) v 1)) 2 f)) (hr : okz r = true) : mM_value n c (rG g s v u d e) a = some (r, rG g q (v + 1) u d 1, va_up (va_up (va_up (aI5 a v (topd d a)) 1 (upd (a 1) v 0)) 1 (upd (upd (a 1) v 0) v 1)) 2 f) := by
  have e0 : ¬ nI v = 40 := by rw [eq_L (by omega) (by decide)]; omega
  have e1 : inb (nI v) 41 = true := inb_T (by omega) (by omega)
  have e2 : (nI v).toNatClampNeg = v := nI_clamp (by omega)
  obtain ⟨o1, o2, o3, o4, o5, o6⟩ := hc
  simp only [aI5] at h ⊢
  rw [mM_value, rG_8, if_neg e0, val_t hd, jn_l]
  simp only [e1, e2, rG_u8, rG_u21L, ad_L, o1, o2, o3, o4, o5, o6, reduceIte, jn_l, jn_r, gd_T, lt, va_ap, upd_ap, Nat.reduceEqDiff, h, bd_s, hr]
/-! the class's values -/
theorem dsp_34 {gV : aG} {a8 : aA} {b : Nat → Int32} {N s v u n k : Nat} {D : Int32} (hN : N ≤ 200) (hc : ∀ i, i < N → chr (b i)) (hb : ∀ i, i < N → a8 8 i = b i) (hs : s < N) (hq : b s = 34) (hu : u ≤ s) (hv : v < 40) (hn : 300 < n) : (∀ l q, scq b N s = some (l, q) → dsp n k D (cG gV N s v u) (cG gV N s (v + 1) u) a8 34 = some (.inl (1, cG gV N q (v + 1) (u + l.length), va_up (va_up (va_up (va_up a8 0 (upd (a8 0) v 2)) 2 (upd (a8 2) v (nI u))) 7 (ws (a8 7) u l)) 3 (upd (a8 3) v (nI l.length))))) ∧ (scq b N s = none → ∃ p' u' aX, p' ≤ 202 ∧ aX 8 = a8 8 ∧ dsp n k D (cG gV N s v u) (cG gV N s (v + 1) u) a8 34 = some (.inl (0, cG gV N p' (v + 1) u', aX))) := by
  have e1 : inb (nI v) 40 = true := inb_T (by omega) (by omega)
  have e2 : (nI v).toNatClampNeg = v := nI_clamp (by omega)
  obtain ⟨h1, h2⟩ := ltrV (gV := gV) (aV := va_up (va_up a8 0 (upd (a8 0) v 2)) 2 (upd (a8 2) v (nI u))) (v := v + 1) (u := u) (n := n) hN hc (fun i hi => hb i hi) hs hq hu hn
  refine ⟨fun l q h => ?_, fun h => ?_⟩
  · have h3 := h1 l q h
    have e3 : nI (u + l.length) - nI u = nI l.length := by rw [nI_sb (by omega)]; congr 1; omega
    simp only [dsp, mV_readString, cG_11, cG_12, e1, e2, h3, gd_T, lt, bd_s, va_ap, upd_ap, Nat.reduceEqDiff, reduceIte, e3, okz_1]
  · obtain ⟨p', u', f', h4, h3⟩ := h2 h
    refine ⟨p', u', va_up (va_up (va_up (va_up a8 0 (upd (a8 0) v 2)) 2 (upd (a8 2) v (nI u))) 7 f') 3 (upd (a8 3) v (nI u' - nI u)), h4, rfl, ?_⟩
    simp only [dsp, mV_readString, cG_11, cG_12, e1, e2, h3, gd_T, lt, bd_s, va_ap, upd_ap, Nat.reduceEqDiff, reduceIte, okz_0]
theorem dsp_nm {n k : Nat} {D c r : Int32} {g1 g6 G : aG} {a8 A : aA} (hc : ¬ c = 34 ∧ ¬ c = 91 ∧ ¬ c = 123) (hx : c = 45 ∨ dgt c) (h : mV_readNumber n (g1 11) g6 a8 = some (r, G, A)) : dsp n k D g1 g6 a8 c = some (.inl (r, G, A)) := by
  obtain ⟨o1, o2, o3⟩ := hc
  by_cases h45 : c = 45
  · simp only [dsp, o1, o2, o3, if_pos h45, reduceIte, jn_l, h, bd_s]
  · rcases hx with hx | hx
    · exact absurd hx h45
    · simp only [dsp, o1, o2, o3, if_neg h45, dg_E hx, one_ne_zero, reduceIte, jn_l, h, bd_s]
theorem dsp_wd {gV : aG} {a8 : aA} {b : Nat → Int32} {N s v u n k : Nat} {D c : Int32} (hN : N ≤ 200) (hb : ∀ i, i < N → a8 8 i = b i) (hs : s < N) (hv : v < 40) (hn : 300 < n) (hc : ¬ c = 34 ∧ ¬ c = 91 ∧ ¬ c = 123 ∧ ¬ c = 45 ∧ ¬ dgt c) : ((WD b N s 0 ∨ WD b N s 1 ∨ WD b N s 2) → ∃ i, i < 3 ∧ WD b N s i ∧ dsp n k D (cG gV N s v u) (cG gV N s (v + 1) u) a8 c = some (.inl (1, cG gV N (s + slen i) (v + 1) u, va_up a8 0 (upd (a8 0) v 0)))) ∧ (¬ (WD b N s 0 ∨ WD b N s 1 ∨ WD b N s 2) → dsp n k D (cG gV N s v u) (cG gV N s (v + 1) u) a8 c = some (.inl (0, cG gV N s (v + 1) u, va_up a8 0 (upd (a8 0) v 0)))) := by
  obtain ⟨o1, o2, o3, o4, o5⟩ := hc
  have e1 : inb (nI v) 40 = true := inb_T (by omega) (by omega)
  have e2 : (nI v).toNatClampNeg = v := nI_clamp (by omega)
  have W0 := wdV (gV := gV) (aV := va_up a8 0 (upd (a8 0) v 0)) (b := b) (p := s) (w := v + 1) (u := u) (n := n) (i := 0) hN (fun i hi => hb i hi) (by omega) (by decide) hn
  have W1 := wdV (gV := gV) (aV := va_up a8 0 (upd (a8 0) v 0)) (b := b) (p := s) (w := v + 1) (u := u) (n := n) (i := 1) hN (fun i hi => hb i hi) (by omega) (by decide) hn
  have W2 := wdV (gV := gV) (aV := va_up a8 0 (upd (a8 0) v 0)) (b := b) (p := s) (w := v + 1) (u := u) (n := n) (i := 2) hN (fun i hi => hb i hi) (by omega) (by decide) hn
  have z : ¬ ((1 : Int32) = 0) := by decide
  by_cases w0 : WD b N s 0
  · refine ⟨fun _ => ⟨0, by omega, w0, ?_⟩, fun h => absurd (.inl w0) h⟩
    simp only [dsp, o1, o2, o3, o4, dg_E0 o5, cG_11, e1, e2, W0.1 w0, z, gd_T, lt, bd_s, jn_l, jn_r, reduceIte]
  by_cases w1 : WD b N s 1
  · refine ⟨fun _ => ⟨1, by omega, w1, ?_⟩, fun h => absurd (.inr (.inl w1)) h⟩
    simp only [dsp, o1, o2, o3, o4, dg_E0 o5, cG_11, e1, e2, W0.2 w0, W1.1 w1, z, gd_T, lt, bd_s, jn_l, jn_r, reduceIte]
  by_cases w2 : WD b N s 2
  · refine ⟨fun _ => ⟨2, by omega, w2, ?_⟩, fun h => absurd (.inr (.inr w2)) h⟩
    simp only [dsp, o1, o2, o3, o4, dg_E0 o5, cG_11, e1, e2, W0.2 w0, W1.2 w1, W2.1 w2, z, gd_T, lt, bd_s, jn_l, jn_r, reduceIte]
  · refine ⟨fun h => absurd h (fun h => h.elim w0 (fun h => h.elim w1 w2)), fun _ => ?_⟩
    simp only [dsp, o1, o2, o3, o4, dg_E0 o5, cG_11, e1, e2, W0.2 w0, W1.2 w1, W2.2 w2, z, gd_T, lt, bd_s, jn_l, jn_r, reduceIte]
theorem WD_0 {b : Nat → Int32} {N s : Nat} : WD b N s 0 ↔ (b s = 116 ∧ s + 3 < N ∧ b (s + 1) = 114 ∧ b (s + 2) = 117 ∧ b (s + 3) = 101) := by
  have e : slen 0 = 4 := by decide +kernel
  have e0 : sbyt 0 0 = 116 ∧ sbyt 0 1 = 114 ∧ sbyt 0 2 = 117 ∧ sbyt 0 3 = 101 := by decide +kernel
  unfold WD
  rw [e]
  constructor
  · intro ⟨h1, h2⟩
    exact ⟨(h2 0 (by omega)).trans e0.1, by omega, (h2 1 (by omega)).trans e0.2.1, (h2 2 (by omega)).trans e0.2.2.1, (h2 3 (by omega)).trans e0.2.2.2⟩
  · intro ⟨h1, h2, h3, h4, h5⟩
    refine ⟨by omega, fun j hj => ?_⟩
    have : j = 0 ∨ j = 1 ∨ j = 2 ∨ j = 3 := by omega
    rcases this with rfl | rfl | rfl | rfl
    · exact h1.trans e0.1.symm
    · exact h3.trans e0.2.1.symm
    · exact h4.trans e0.2.2.1.symm
    · exact h5.trans e0.2.2.2.symm
theorem WD_2 {b : Nat → Int32} {N s : Nat} : WD b N s 2 ↔ (b s = 110 ∧ s + 3 < N ∧ b (s + 1) = 117 ∧ b (s + 2) = 108 ∧ b (s + 3) = 108) := by
  have e : slen 2 = 4 := by decide +kernel
  have e0 : sbyt 2 0 = 110 ∧ sbyt 2 1 = 117 ∧ sbyt 2 2 = 108 ∧ sbyt 2 3 = 108 := by decide +kernel
  unfold WD
  rw [e]
  constructor
  · intro ⟨h1, h2⟩
    exact ⟨(h2 0 (by omega)).trans e0.1, by omega, (h2 1 (by omega)).trans e0.2.1, (h2 2 (by omega)).trans e0.2.2.1, (h2 3 (by omega)).trans e0.2.2.2⟩
  · intro ⟨h1, h2, h3, h4, h5⟩
    refine ⟨by omega, fun j hj => ?_⟩
    have : j = 0 ∨ j = 1 ∨ j = 2 ∨ j = 3 := by omega
    rcases this with rfl | rfl | rfl | rfl
    · exact h1.trans e0.1.symm
    · exact h3.trans e0.2.1.symm
    · exact h4.trans e0.2.2.1.symm
    · exact h5.trans e0.2.2.2.symm
theorem WD_1 {b : Nat → Int32} {N s : Nat} : WD b N s 1 ↔ (b s = 102 ∧ s + 4 < N ∧ b (s + 1) = 97 ∧ b (s + 2) = 108 ∧ b (s + 3) = 115 ∧ b (s + 4) = 101) := by
  have e : slen 1 = 5 := by decide +kernel
  have e0 : sbyt 1 0 = 102 ∧ sbyt 1 1 = 97 ∧ sbyt 1 2 = 108 ∧ sbyt 1 3 = 115 ∧ sbyt 1 4 = 101 := by decide +kernel
  unfold WD
  rw [e]
  constructor
  · intro ⟨h1, h2⟩
    exact ⟨(h2 0 (by omega)).trans e0.1, by omega, (h2 1 (by omega)).trans e0.2.1, (h2 2 (by omega)).trans e0.2.2.1, (h2 3 (by omega)).trans e0.2.2.2.1, (h2 4 (by omega)).trans e0.2.2.2.2⟩
  · intro ⟨h1, h2, h3, h4, h5, h6⟩
    refine ⟨by omega, fun j hj => ?_⟩
    have : j = 0 ∨ j = 1 ∨ j = 2 ∨ j = 3 ∨ j = 4 := by omega
    rcases this with rfl | rfl | rfl | rfl | rfl
    · exact h1.trans e0.1.symm
    · exact h3.trans e0.2.1.symm
    · exact h4.trans e0.2.2.1.symm
    · exact h5.trans e0.2.2.2.1.symm
    · exact h6.trans e0.2.2.2.2.symm
