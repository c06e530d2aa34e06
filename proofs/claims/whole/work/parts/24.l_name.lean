/-! names of members -/
def NC (b : Nat → Int32) (N s : Nat) (l : List Int32) (q : Nat) : Prop := s < N ∧ b s = 34 ∧ scq b N s = some (l, q) ∧ sk b N q < N ∧ b (sk b N q) = 58
theorem nmV {gV : aG} {aV : aA} {b : Nat → Int32} {N pc w u n : Nat} (hN : N ≤ 200) (hc : ∀ i, i < N → chr (b i)) (hb : ∀ i, i < N → aV 8 i = b i) (hp : pc ≤ N) (hu : u ≤ pc) (hn : 300 < n) (hw : w < 40) : (∀ l q, NC b N (sk b N pc) l q → mV_readMemberName n (nI w) (cG gV N pc w u) aV = some (1, cG gV N (sk b N q + 1) w (u + l.length), va_up (va_up (va_up aV 7 (ws (aV 7) u l)) 5 (upd (aV 5) w (nI u))) 6 (upd (aV 6) w (nI l.length)))) ∧ ((¬ ∃ l q, NC b N (sk b N pc) l q) → ∃ p' u' a', p' ≤ 202 ∧ a' 8 = aV 8 ∧ mV_readMemberName n (nI w) (cG gV N pc w u) aV = some (0, cG gV N p' w u', a')) := by
  have hge := sk_ge b N pc
  have hle := sk_le (b := b) hp
  have e1 : ¬ (40 : Int32) ≤ nI w := nI_ge (b := 40) hw (by omega)
  have e2 : inb (nI w) 40 = true := inb_T hw (by omega)
  have e3 : (nI w).toNatClampNeg = w := nI_clamp (by omega)
  have sb1 := sbV (gV := gV) (v := w) (u := u) (n := n) hN hb hp (by omega)
  by_cases hs : sk b N pc < N ∧ b (sk b N pc) = 34
  · obtain ⟨h1, h2⟩ := ltrV (gV := gV) (aV := aV) (v := w) (u := u) (n := n) hN hc hb hs.1 hs.2 (by omega) hn
    cases hq : scq b N (sk b N pc) with
    | none =>
      refine ⟨fun l q h => by rw [NC, hq] at h; exact absurd h.2.2.1 (by simp), fun _ => ?_⟩
      obtain ⟨p', u', f', h4, h3⟩ := h2 hq
      refine ⟨p', u', va_up aV 7 f', h4, rfl, ?_⟩
      simp only [mV_readMemberName, sb1, bd_s, e1, reduceIte, h3]
    | some lq =>
      obtain ⟨l, q⟩ := lq
      have h3 := h1 l q hq
      obtain ⟨z1, z2, -⟩ := scn_q hc _ _ _ _ hq
      have e4 : nI (u + l.length) - nI u = nI l.length := by rw [nI_sb (by omega)]; congr 1; omega
      have hq2 := sk_le (b := b) z2
      have sb2 := sbV (gV := gV) (aV := va_up (va_up (va_up aV 7 (ws (aV 7) u l)) 5 (upd (aV 5) w (nI u))) 6 (upd (aV 6) w (nI l.length))) (b := b) (v := w) (u := u + l.length) (n := n) hN (fun i hi => hb i hi) z2 (by omega)
      by_cases h58 : sk b N q < N ∧ b (sk b N q) = 58
      · refine ⟨fun l2 q2 h => ?_, fun h => absurd ⟨l, q, hs.1, hs.2, hq, h58.1, h58.2⟩ h⟩
        have := h.2.2.1
        rw [hq] at this
        cases this
        have k1 := skV (gV := gV) (aV := va_up (va_up (va_up aV 7 (ws (aV 7) u l)) 5 (upd (aV 5) w (nI u))) 6 (upd (aV 6) w (nI l.length))) (b := b) (v := w) (u := u + l.length) (n := n) hN (fun i hi => hb i hi) h58.1 h58.2
        simp only [mV_readMemberName, sb1, bd_s, e1, e2, e3, reduceIte, h3, one_ne_zero, gd_T, lt, va_ap, Nat.reduceEqDiff, cG_12, e4, sb2, k1, okz_1]
      · refine ⟨fun l2 q2 h => ?_, fun _ => ?_⟩
        · have := h.2.2.1
          rw [hq] at this
          cases this
          exact absurd h.2.2.2 h58
        · have k1 := skV0 (gV := gV) (aV := va_up (va_up (va_up aV 7 (ws (aV 7) u l)) 5 (upd (aV 5) w (nI u))) 6 (upd (aV 6) w (nI l.length))) (b := b) (v := w) (u := u + l.length) (n := n) (c := 58) hN (fun i hi => hb i hi) hq2 (fun h9 h8 => h58 ⟨h9, h8⟩)
          refine ⟨sk b N q, u + l.length, va_up (va_up (va_up aV 7 (ws (aV 7) u l)) 5 (upd (aV 5) w (nI u))) 6 (upd (aV 6) w (nI l.length)), by omega, rfl, ?_⟩
          simp only [mV_readMemberName, sb1, bd_s, e1, e2, e3, reduceIte, h3, one_ne_zero, gd_T, lt, va_ap, Nat.reduceEqDiff, cG_12, e4, sb2, k1, okz_0]
  · refine ⟨fun l q h => absurd ⟨h.1, h.2.1⟩ hs, fun _ => ?_⟩
    obtain ⟨p', u', f', h4, h3⟩ := ltrV0 (gV := gV) (aV := aV) (v := w) (u := u) (n := n) hN hb hle (fun h1 h2 => hs ⟨h1, h2⟩)
    refine ⟨p', u', va_up aV 7 f', h4, rfl, ?_⟩
    simp only [mV_readMemberName, sb1, bd_s, e1, reduceIte, h3]
theorem nmV40 {gV : aG} {aV : aA} {b : Nat → Int32} {N pc u n : Nat} (hN : N ≤ 200) (hb : ∀ i, i < N → aV 8 i = b i) (hp : pc ≤ N) (hn : 300 < n) : mV_readMemberName n (nI 40) (cG gV N pc 40 u) aV = some (0, cG gV N (sk b N pc) 40 u, aV) := by
  have e1 : (40 : Int32) ≤ nI 40 := Int32.le_refl _
  simp only [mV_readMemberName, sbV hN hb hp (show 200 < n by omega), bd_s, e1, reduceIte]
theorem nmM {g : aG} {a : aA} {b : Nat → Int32} {N pr w u d e n k : Nat} (hN : N ≤ 200) (hg : g 6 = nI N) (hc : ∀ i, i < N → chr (b i)) (hb : ∀ i, i < N → a 0 i = b i) (hp : pr ≤ N) (hu : u ≤ pr) (hk : k ≤ pr) (hn : 300 < n) (hw : w ≤ 40) (hd : d < 10) (he : e = 3 ∨ (e = 4 ∧ (sk b N pr < N → ¬ b (sk b N pr) = 125))) : (∀ l q, NC b N (sk b N pr) l q → Runs n k (rG g pr w u d e) a (k + 2) (rG g (sk b N q + 1) w (u + l.length) d 0) (va_up (va_up (va_up a 8 (ws (a 8) u l)) 6 (upd (a 6) w (nI u))) 7 (upd (a 7) w (nI l.length)))) ∧ ((¬ ∃ l q, NC b N (sk b N pr) l q) → Fls n k g (rG g pr w u d e) a) := by
  have hge := sk_ge b N pr
  have hle := sk_le (b := b) hp
  by_cases hsN : N ≤ sk b N pr
  · refine ⟨fun l q h => absurd h.1 (by omega), fun _ => Fls.en (by omega) (by omega) ⟨by omega, hd⟩ (rb_e (k := k) hN hg hb hp (by omega) hn hsN)⟩
  have hs : sk b N pr < N := by omega
  by_cases h34 : b (sk b N pr) = 34
  · obtain ⟨h1, h2⟩ := strM (g := g) (a := a) (v := w) (u := u) (d := d) (e := e) (n := n) hN hg hc hb hs (by omega) hn
    have he2 : e = 3 ∨ e = 4 := he.imp id (fun h => h.1)
    cases hq : scq b N (sk b N pr) with
    | none =>
      refine ⟨fun l q h => by rw [NC, hq] at h; exact absurd h.2.2.1 (by simp), fun _ => ?_⟩
      obtain ⟨p', u', f', h3⟩ := h2 hq
      have h5 : mM_one n (b (sk b N pr)) (rG g (sk b N pr) w u d e) a = some (0, rG g p' w u' d e, va_up a 8 f') := by
        rw [h34]
        by_cases hu' : u ≤ u'
        · rw [one_nm he2 hw hu' h3, if_pos rfl]
        · rcases he2 with rfl | rfl
          · have o0 : nI 3 = 3 := rfl
            have o2 : ¬ nI 3 = 2 := by decide
            have o3 : ¬ nI 3 = 1 := by decide
            have o4 : ¬ nI 3 = 5 := by decide
            have o5 : ¬ ((34 : Int32) = 93) := by decide
            have o6 : ¬ ((34 : Int32) = 125) := by decide
            simp only [mM_one, rG_21, if_pos o0, o2, o3, o4, o5, o6, h3, reduceIte, jn_l, bd_s]
          · have o0 : ¬ nI 4 = 3 := by decide
            have o1 : nI 4 = 4 := rfl
            have o2 : ¬ nI 4 = 2 := by decide
            have o3 : ¬ nI 4 = 1 := by decide
            have o4 : ¬ nI 4 = 5 := by decide
            have o5 : ¬ ((34 : Int32) = 93) := by decide
            have o6 : ¬ ((34 : Int32) = 125) := by decide
            simp only [mM_one, rG_21, o0, if_pos o1, o2, o3, o4, o5, o6, h3, reduceIte, jn_l, bd_s]
      exact Fls.st (by omega) (aF.up ⟨by omega, by omega⟩) (rb_o (k := k) hN hg hb hp (by omega) hn hs h5)
    | some lq =>
      obtain ⟨l, q⟩ := lq
      have h3 := h1 l q hq
      obtain ⟨z1, z2, -⟩ := scn_q hc _ _ _ _ hq
      have hq2 := sk_le (b := b) z2
      have hq3 := sk_ge b N q
      have h5 := one_nm he2 hw (show u ≤ u + l.length by omega) h3
      rw [if_neg one_ne_zero, ← h34, show u + l.length - u = l.length by omega] at h5
      have hR := Runs.st (rb_o (k := k) hN hg hb hp (by omega) hn hs h5)
      have aFF : aF a (va_up (va_up (va_up a 8 (ws (a 8) u l)) 6 (upd (a 6) w (nI u))) 7 (upd (a 7) w (nI l.length))) := ((aF.up ⟨by omega, by omega⟩).tr (aF.up ⟨by omega, by omega⟩)).tr (aF.up ⟨by omega, by omega⟩)
      have hb2 : ∀ i, i < N → (va_up (va_up (va_up a 8 (ws (a 8) u l)) 6 (upd (a 6) w (nI u))) 7 (upd (a 7) w (nI l.length))) 0 i = b i := fun i hi => hb i hi
      by_cases hN2 : N ≤ sk b N q
      · refine ⟨fun l2 q2 h => ?_, fun _ => ?_⟩
        · have := h.2.2.1
          rw [hq] at this
          cases this
          exact absurd h.2.2.2.1 (by omega)
        · exact hR.fl aFF (Fls.en (by omega) (by omega) ⟨by omega, hd⟩ (rb_e (k := k + 1) hN hg hb2 z2 (by omega) hn hN2))
      by_cases h58 : b (sk b N q) = 58
      · refine ⟨fun l2 q2 h => ?_, fun h => absurd ⟨l, q, hs, h34, hq, by omega, h58⟩ h⟩
        have := h.2.2.1
        rw [hq] at this
        cases this
        have h6 := one_co (g := g) (a := va_up (va_up (va_up a 8 (ws (a 8) u l)) 6 (upd (a 6) w (nI u))) 7 (upd (a 7) w (nI l.length))) (p := sk b N q) (v := w) (u := u + l.length) (d := d) (n := n) (c := b (sk b N q))
        rw [if_pos h58] at h6
        exact hR.tr (Runs.st (rb_o (k := k + 1) hN hg hb2 z2 (by omega) hn (by omega) h6))
      · refine ⟨fun l2 q2 h => ?_, fun _ => ?_⟩
        · have := h.2.2.1
          rw [hq] at this
          cases this
          exact absurd h.2.2.2.2 h58
        · have h6 := one_co (g := g) (a := va_up (va_up (va_up a 8 (ws (a 8) u l)) 6 (upd (a 6) w (nI u))) 7 (upd (a 7) w (nI l.length))) (p := sk b N q) (v := w) (u := u + l.length) (d := d) (n := n) (c := b (sk b N q))
          rw [if_neg h58] at h6
          exact hR.fl aFF (Fls.st (by omega) aF.rf (rb_o (k := k + 1) hN hg hb2 z2 (by omega) hn (by omega) h6))
  · refine ⟨fun l q h => absurd h.2.1 h34, fun _ => ?_⟩
    exact Fls.st (by omega) aF.rf (rb_o (k := k) hN hg hb hp (by omega) hn hs (one_nm0 (he.imp id (fun h => ⟨h.1, h.2 hs⟩)) h34))
