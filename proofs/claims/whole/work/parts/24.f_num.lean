theorem numM_z {g : aG} {a : aA} {b : Nat → Int32} {N w u d e n s0 v p : Nat} {σ : Bool} (hN : N ≤ 200) (hg : g 6 = nI N) (hb : ∀ i, i < N → a 0 i = b i) (hv : v < 40) (hn : 300 < n) (hs : s0 < N) (hp : p < N) (hsg : (σ = true ∧ b p = 45 ∧ s0 = p + 1) ∨ (σ = false ∧ ¬ b p = 45 ∧ s0 = p)) (hz : b s0 = 48) : ∃ r, mM_numeral n (nI v) (rG g p w u d e) a = some (r, rG g (s0 + 1) w u d e, va_up a 2 (upd (a 2) v (sgI σ 0))) ∧ ((r = 1 ∧ σ = false ∧ ¬ (s0 + 1 < N ∧ dgt (b (s0 + 1)))) ∨ (r = 0 ∧ (σ = true ∨ (s0 + 1 < N ∧ dgt (b (s0 + 1)))))) := by
  have hpk := pkM (n := n) (v := w) (u := u) (d := d) (e := e) hN hg hb hp
  have hpz := pkM (n := n) (v := w) (u := u) (d := d) (e := e) hN hg hb hs
  have hl := numM_0 (v := w) (u := u) (d := d) (e := e) (n := n) (k := n) hN hg hb hs hz (by omega)
  rw [numM_e]
  have o1 : ¬ ((1 : Int32) ≤ 0) := by decide
  have o2 : ¬ ((7 : Int32) ≤ 1) := by decide
  rcases hsg with ⟨rfl, q1, q2⟩ | ⟨rfl, q1, q2⟩
  · subst q2
    refine ⟨0, ?_, .inr ⟨rfl, .inl rfl⟩⟩
    simp (disch := omega) only [hpk, q1, hpz, hz, hl, o1, o2, sgI, rG_6, rG_8, rG_17, rG_19, rG_20, rG_21, rG_u8, rG_u17, rG_u19, rG_u20, rG_u21, rG_u21L, cG_9, cG_10, cG_11, cG_12, cG_u10, cG_u11, cG_u12, le_L, L_le, lt_L, L_lt, eq_L, L_eq, ad_L, nI_add, nI_sb, sb_L, mu_L, nI_leI, nI_ltI, nI_eq, nI_clamp, inb_T, nI_cl0, lt, bd_s, jn_l, jn_r, gd_T, va_ap, upd_ap, reduceIte, Nat.reduceEqDiff, Nat.reduceAdd, Nat.reduceSub, Nat.reduceMul, Nat.reduceLT, Nat.reduceLeDiff, reduceCtorEq, Int32.reduceLT, Int32.reduceLE, one_ne_zero, zero_ne_one, not_true_eq_false, not_false_eq_true, true_and, and_true, if_true, if_false, ite_self, Nat.add_zero, Nat.zero_add]
  · subst q2
    by_cases h9 : s0 + 1 < N ∧ dgt (b (s0 + 1))
    · refine ⟨0, ?_, .inr ⟨rfl, .inr h9⟩⟩
      have hE := pkM (n := n) (a := va_up a 2 (upd (a 2) v 0)) (v := w) (u := u) (d := d) (e := e) hN hg (fun i hi => hb i hi) h9.1
      have q3 : ¬ ((48 : Int32) = 45) := by decide
      simp (disch := omega) only [hpk, hz, q3, hl, o1, o2, sgI, Bool.false_eq_true, hE, dg_M h9.2, rG_6, rG_8, rG_17, rG_19, rG_20, rG_21, rG_u8, rG_u17, rG_u19, rG_u20, rG_u21, rG_u21L, cG_9, cG_10, cG_11, cG_12, cG_u10, cG_u11, cG_u12, le_L, L_le, lt_L, L_lt, eq_L, L_eq, ad_L, nI_add, nI_sb, sb_L, mu_L, nI_leI, nI_ltI, nI_eq, nI_clamp, inb_T, nI_cl0, lt, bd_s, jn_l, jn_r, gd_T, va_ap, upd_ap, reduceIte, Nat.reduceEqDiff, Nat.reduceAdd, Nat.reduceSub, Nat.reduceMul, Nat.reduceLT, Nat.reduceLeDiff, reduceCtorEq, Int32.reduceLT, Int32.reduceLE, one_ne_zero, zero_ne_one, not_true_eq_false, not_false_eq_true, true_and, and_true, if_true, if_false, ite_self, Nat.add_zero, Nat.zero_add]
    · refine ⟨1, ?_, .inl ⟨rfl, rfl, h9⟩⟩
      obtain ⟨c, hE, hc⟩ : ∃ c, mM_peek n (rG g (s0 + 1) w u d e) (va_up a 2 (upd (a 2) v 0)) = some c ∧ ¬ dgt c := by
        by_cases h8 : s0 + 1 < N
        · exact ⟨_, pkM hN hg (fun i hi => hb i hi) h8, fun h => h9 ⟨h8, h⟩⟩
        · exact ⟨0, pkM0 (by omega) hg (by omega), dg_0⟩
      have q3 : ¬ ((48 : Int32) = 45) := by decide
      simp (disch := omega) only [hpk, hz, q3, hl, o1, o2, sgI, Bool.false_eq_true, hE, dg_M0 hc, rG_6, rG_8, rG_17, rG_19, rG_20, rG_21, rG_u8, rG_u17, rG_u19, rG_u20, rG_u21, rG_u21L, cG_9, cG_10, cG_11, cG_12, cG_u10, cG_u11, cG_u12, le_L, L_le, lt_L, L_lt, eq_L, L_eq, ad_L, nI_add, nI_sb, sb_L, mu_L, nI_leI, nI_ltI, nI_eq, nI_clamp, inb_T, nI_cl0, lt, bd_s, jn_l, jn_r, gd_T, va_ap, upd_ap, reduceIte, Nat.reduceEqDiff, Nat.reduceAdd, Nat.reduceSub, Nat.reduceMul, Nat.reduceLT, Nat.reduceLeDiff, reduceCtorEq, Int32.reduceLT, Int32.reduceLE, one_ne_zero, zero_ne_one, not_true_eq_false, not_false_eq_true, true_and, and_true, if_true, if_false, ite_self, Nat.add_zero, Nat.zero_add]
theorem sgI_0 (σ : Bool) : sgI σ 0 = 0 := by cases σ <;> decide
/-- a number on both sides: read alike, refused by both, or (a seventh digit) refused by the reference and left behind by the class -/
theorem num_2 {gV : aG} {aV : aA} {g : aG} {a : aA} {b : Nat → Int32} {N p w u d e n v : Nat} (hN : N ≤ 200) (hbV : ∀ i, i < N → aV 8 i = b i) (hg : g 6 = nI N) (hb : ∀ i, i < N → a 0 i = b i) (hv : v < 40) (hn : 300 < n) (hp : p < N) (hx : b p = 45 ∨ dgt (b p)) : ∃ (r1 r2 : Int32) (q q2 : Nat) (V V2 : Int32), q ≤ N ∧ mV_readNumber n (nI v) (cG gV N p w u) aV = some (r1, cG gV N q w u, va_up (va_up aV 0 (upd (aV 0) v 1)) 1 (upd (aV 1) v V)) ∧ mM_numeral n (nI v) (rG g p w u d e) a = some (r2, rG g q2 w u d e, va_up a 2 (upd (a 2) v V2)) ∧ ((r1 = 1 ∧ r2 = 1 ∧ p < q ∧ q ≤ N ∧ q2 = q ∧ V2 = V ∧ rg V) ∨ (r1 = 0 ∧ r2 = 0) ∨ (r1 = 1 ∧ r2 = 0 ∧ p < q ∧ q < N ∧ dgt (b q))) := by
  obtain ⟨σ, s0, hs0, hsN, hsk, hsg⟩ : ∃ (σ : Bool) (s0 : Nat), p ≤ s0 ∧ s0 ≤ N ∧ mV_skip n 45 (cG gV N p w u) aV = some (bI σ, cG gV N s0 w u) ∧ ((σ = true ∧ b p = 45 ∧ s0 = p + 1) ∨ (σ = false ∧ ¬ b p = 45 ∧ s0 = p)) := by
    by_cases h : b p = 45
    · exact ⟨true, p + 1, by omega, by omega, skV hN hbV hp h, .inl ⟨rfl, h, rfl⟩⟩
    · exact ⟨false, p, by omega, by omega, skV0 hN hbV (by omega) (fun _ => h), .inr ⟨rfl, h, rfl⟩⟩
  have hC := numV_f (v := v) (n := n) hN hbV hv hn hsN hsk
  by_cases hz : s0 < N ∧ b s0 = 48
  · obtain ⟨r, hr1, hr2⟩ := numM_z (w := w) (u := u) (d := d) (e := e) (n := n) hN hg hb hv hn hz.1 hp hsg hz.2
    have h48 : dgt (b s0) := by rw [hz.2]; exact ⟨by decide, by decide⟩
    have hrn : rn b N 6 s0 = 1 + rn b N 5 (s0 + 1) := rn_t ⟨hz.1, h48⟩
    have h6N := rn_N b N 6 s0 hsN
    rw [if_neg (by omega), if_pos hz.2] at hC
    rcases hr2 with ⟨rfl, rfl, h3⟩ | ⟨rfl, h3⟩
    · have h5 : rn b N 5 (s0 + 1) = 0 := rn_f h3
      rw [hrn, h5] at hC
      refine ⟨_, _, _, _, _, _, by omega, hC, hr1, .inl ⟨rfl, rfl, by omega, by omega, rfl, ?_, ?_⟩⟩
      · rw [sgI_0]
        simp only [vv, hz.2]
        rfl
      · exact sg_rg (by simp only [vv, hz.2]; decide)
    · refine ⟨_, _, _, _, _, _, by omega, hC, hr1, .inr (.inl ⟨?_, rfl⟩)⟩
      by_cases h1 : rn b N 6 s0 = 1
      · rw [if_pos h1]
        rcases h3 with h3 | h3
        · rw [if_pos h3]
        · have : rn b N 5 (s0 + 1) = 1 + rn b N 4 (s0 + 1 + 1) := rn_t h3
          omega
      · rw [if_neg h1]
  · have hz2 : s0 < N → ¬ b s0 = 48 := fun h1 h2 => hz ⟨h1, h2⟩
    have hR := numM_f (w := w) (u := u) (d := d) (e := e) (n := n) hN hg hb hv hn hsN hp hsg hz2
    have h6 := rn_le b N 6 s0
    have h6N := rn_N b N 6 s0 hsN
    have hs := rn_s b N 6 s0
    by_cases k0 : rn b N 6 s0 = 0
    · rw [if_pos k0] at hC
      have k7 : rn b N 7 s0 = 0 := by rw [(hs.1 (by omega)).1]; exact k0
      rw [if_pos k7] at hR
      exact ⟨_, _, _, _, _, _, by omega, hC, hR, .inr (.inl ⟨rfl, rfl⟩)⟩
    have hsN2 : s0 < N := by omega
    rw [if_neg k0, if_neg (hz2 hsN2)] at hC
    have hV := vv_b (b := b) (N := N) 6 s0 0
    by_cases k6 : rn b N 6 s0 < 6
    · have k7 : rn b N 7 s0 = rn b N 6 s0 := (hs.1 k6).1
      rw [k7, if_neg k0, if_neg (by omega)] at hR
      exact ⟨_, _, _, _, _, _, by omega, hC, hR, .inl ⟨rfl, rfl, by omega, h6N, rfl, rfl, sg_rg (by omega)⟩⟩
    have k66 : rn b N 6 s0 = 6 := by omega
    by_cases k7 : s0 + 6 < N ∧ dgt (b (s0 + 6))
    · have k8 : rn b N 7 s0 = 7 := (hs.2 k66).1 k7
      rw [k8, if_neg (by omega), if_pos rfl] at hR
      rw [k66] at hC
      exact ⟨_, _, _, _, _, _, by omega, hC, hR, .inr (.inr ⟨rfl, rfl, by omega, k7.1, k7.2⟩)⟩
    · have k8 : rn b N 7 s0 = 6 := (hs.2 k66).2 k7
      rw [k8, if_neg (by omega), if_neg (by omega)] at hR
      rw [k66] at hC hV
      exact ⟨_, _, _, _, _, _, by omega, hC, hR, .inl ⟨rfl, rfl, by omega, by omega, rfl, rfl, sg_rg (by omega)⟩⟩
/-- neither a number nor anything else: the reference's last try -/
theorem num_no {g : aG} {a : aA} {b : Nat → Int32} {N p w u d e n v : Nat} (hN : N ≤ 200) (hg : g 6 = nI N) (hb : ∀ i, i < N → a 0 i = b i) (hv : v < 40) (hn : 300 < n) (hp : p < N) (hx : ¬ b p = 45 ∧ ¬ dgt (b p)) : ∃ q2 f, mM_numeral n (nI v) (rG g p w u d e) a = some (0, rG g q2 w u d e, va_up a 2 f) := by
  have hz : p < N → ¬ b p = 48 := fun _ h => hx.2 (by rw [h]; exact ⟨by decide, by decide⟩)
  have hR := numM_f (w := w) (u := u) (d := d) (e := e) (n := n) (σ := false) (s0 := p) hN hg hb hv hn (by omega) hp (.inr ⟨rfl, hx.1, rfl⟩) hz
  rw [rn_f (fun h => hx.2 h.2), if_pos rfl] at hR
  exact ⟨_, _, hR⟩
/-! words -/
def WD (b : Nat → Int32) (N p i : Nat) : Prop := p + slen i ≤ N ∧ ∀ j, j < slen i → b (p + j) = sbyt i j
def bV_wd (is : Nat) (gV : aG) (aV : aA) : Int32 → Option (Int32 ⊕ (Unit ⊕ (Int32 × aG))) := (fun x6 => if (Int32.ofNat (slen is)) ≤ x6 then (some (.inr (.inl ()))) else (gd (inb ((gV 10) + x6) 200) (lt (aV 8 ((gV 10) + x6).toNatClampNeg) (fun x13 => gd (inb x6 (slen is)) (lt (sbyt is x6.toNatClampNeg) (fun x15 => if x13 = x15 then (some (.inl (x6 + 1))) else (some (.inr (.inr ((0, gV)))))))))))
theorem wdV_e (n is : Nat) (gV : aG) (aV : aA) : mV_readWord n is gV aV = if (Int32.ofNat (slen is)) ≤ ((gV 9) - (gV 10)) then (jn (α := Unit) (lp (ε := Int32) (bV_wd is gV aV) n 0) (fun _ => lt (va_up gV 10 ((gV 10) + (Int32.ofNat (slen is)))) (fun g5 => some ((1, g5))))) else (some ((0, gV))) := rfl
theorem wdV_l {gV : aG} {aV : aA} {b : Nat → Int32} {N p w u i : Nat} (hN : N ≤ 200) (hb : ∀ i, i < N → aV 8 i = b i) (hL : p + slen i ≤ N) : ∀ m y k, y + m = slen i → m < k → ((∀ j, y ≤ j → j < slen i → b (p + j) = sbyt i j) → lp (bV_wd i (cG gV N p w u) aV) k (nI y) = some (.inl ())) ∧ ((¬ ∀ j, y ≤ j → j < slen i → b (p + j) = sbyt i j) → lp (bV_wd i (cG gV N p w u) aV) k (nI y) = some (.inr (0, cG gV N p w u))) := by
  intro m
  induction m with
  | zero =>
    intro y k h1 h2
    refine ⟨fun _ => lp_e ?_ h2, fun h => absurd (fun j h3 h4 => by omega) h⟩
    have e : Int32.ofNat (slen i) ≤ nI y := nI_le (a := slen i) (by omega) (by omega)
    simp only [bV_wd, e, if_true]
  | succ m ih =>
    intro y k h1 h2
    have e : ¬ Int32.ofNat (slen i) ≤ nI y := nI_ge (b := slen i) (by omega) (by omega)
    have hp := hb (p + y) (by omega)
    have hst : bV_wd i (cG gV N p w u) aV (nI y) = if b (p + y) = sbyt i y then some (.inl (nI (y + 1))) else some (.inr (.inr (0, cG gV N p w u))) := by
      simp (disch := omega) only [bV_wd, e, hp, rG_6, rG_8, rG_17, rG_19, rG_20, rG_21, rG_u8, rG_u17, rG_u19, rG_u20, rG_u21, rG_u21L, cG_9, cG_10, cG_11, cG_12, cG_u10, cG_u11, cG_u12, le_L, L_le, lt_L, L_lt, eq_L, L_eq, ad_L, nI_add, nI_sb, sb_L, mu_L, nI_leI, nI_ltI, nI_eq, nI_clamp, inb_T, nI_cl0, lt, bd_s, jn_l, jn_r, gd_T, va_ap, upd_ap, reduceIte, Nat.reduceEqDiff, Nat.reduceAdd, Nat.reduceSub, Nat.reduceMul, Nat.reduceLT, Nat.reduceLeDiff, reduceCtorEq, Int32.reduceLT, Int32.reduceLE, one_ne_zero, zero_ne_one, not_true_eq_false, not_false_eq_true, true_and, and_true, if_true, if_false, ite_self, Nat.add_zero, Nat.zero_add]
    obtain ⟨i1, i2⟩ := ih (y + 1) (k - 1) (by omega) (by omega)
    by_cases hq : b (p + y) = sbyt i y
    · rw [if_pos hq] at hst
      rw [lp_s hst (by omega)]
      refine ⟨fun h => i1 (fun j h3 h4 => h j (by omega) h4), fun h => i2 (fun h3 => h (fun j h4 h5 => ?_))⟩
      by_cases h6 : j = y
      · rw [h6]; exact hq
      · exact h3 j (by omega) h5
    · rw [if_neg hq] at hst
      rw [lp_e hst (by omega)]
      exact ⟨fun h => absurd (h y (Nat.le_refl _) (by omega)) hq, fun _ => rfl⟩
theorem wdV {gV : aG} {aV : aA} {b : Nat → Int32} {N p w u n i : Nat} (hN : N ≤ 200) (hb : ∀ i, i < N → aV 8 i = b i) (hp : p ≤ N) (hi : slen i ≤ 5) (hn : 300 < n) : (WD b N p i → mV_readWord n i (cG gV N p w u) aV = some (1, cG gV N (p + slen i) w u)) ∧ (¬ WD b N p i → mV_readWord n i (cG gV N p w u) aV = some (0, cG gV N p w u)) := by
  have e1 : nI N - nI p = nI (N - p) := nI_sb hp
  by_cases hL : p + slen i ≤ N
  · obtain ⟨i1, i2⟩ := wdV_l (gV := gV) (w := w) (u := u) hN hb hL (slen i) 0 n (by omega) (by omega)
    have e2 : Int32.ofNat (slen i) ≤ nI (N - p) := nI_le (a := slen i) (by omega) (by omega)
    have e3 : nI p + Int32.ofNat (slen i) = nI (p + slen i) := nI_add p (slen i)
    refine ⟨fun h => ?_, fun h => ?_⟩
    · have i1 : lp (bV_wd i (cG gV N p w u) aV) n 0 = some (.inl ()) := i1 (fun j _ hj => h.2 j hj)
      rw [wdV_e]
      simp (disch := omega) only [e1, e2, e3, i1, cG_9, cG_10, cG_u10, lt, bd_s, jn_l, jn_r, gd_T, va_ap, upd_ap, reduceIte, Nat.reduceEqDiff, Nat.reduceAdd, Nat.reduceSub, Nat.reduceMul, Nat.reduceLT, Nat.reduceLeDiff, reduceCtorEq, Int32.reduceLT, Int32.reduceLE, one_ne_zero, zero_ne_one, not_true_eq_false, not_false_eq_true, true_and, and_true, if_true, if_false, ite_self, Nat.add_zero, Nat.zero_add]
    · have i2 : lp (bV_wd i (cG gV N p w u) aV) n 0 = some (.inr (0, cG gV N p w u)) := i2 (fun h9 => h ⟨hL, fun j hj => h9 j (by omega) hj⟩)
      rw [wdV_e]
      simp (disch := omega) only [e1, e2, e3, i2, cG_9, cG_10, cG_u10, lt, bd_s, jn_l, jn_r, gd_T, va_ap, upd_ap, reduceIte, Nat.reduceEqDiff, Nat.reduceAdd, Nat.reduceSub, Nat.reduceMul, Nat.reduceLT, Nat.reduceLeDiff, reduceCtorEq, Int32.reduceLT, Int32.reduceLE, one_ne_zero, zero_ne_one, not_true_eq_false, not_false_eq_true, true_and, and_true, if_true, if_false, ite_self, Nat.add_zero, Nat.zero_add]
  · have e2 : ¬ Int32.ofNat (slen i) ≤ nI (N - p) := nI_ge (b := slen i) (by omega) (by omega)
    refine ⟨fun h => absurd h.1 hL, fun _ => ?_⟩
    rw [wdV_e]
    simp (disch := omega) only [e1, e2, cG_9, cG_10, lt, bd_s, jn_l, jn_r, gd_T, va_ap, upd_ap, reduceIte, Nat.reduceEqDiff, Nat.reduceAdd, Nat.reduceSub, Nat.reduceMul, Nat.reduceLT, Nat.reduceLeDiff, reduceCtorEq, Int32.reduceLT, Int32.reduceLE, one_ne_zero, zero_ne_one, not_true_eq_false, not_false_eq_true, true_and, and_true, if_true, if_false, ite_self, Nat.add_zero, Nat.zero_add]
theorem wdM4 {g : aG} {a : aA} {b : Nat → Int32} {N p w u d e n : Nat} {c1 c2 c3 : Int32} (hN : N ≤ 200) (hg : g 6 = nI N) (hb : ∀ i, i < N → a 0 i = b i) (hp : p < N) : ((p + 3 < N ∧ b (p + 1) = c1 ∧ b (p + 2) = c2 ∧ b (p + 3) = c3) → mM_word n c1 c2 c3 0 (rG g p w u d e) a = some (1, rG g (p + 4) w u d e)) ∧ (¬ (p + 3 < N ∧ b (p + 1) = c1 ∧ b (p + 2) = c2 ∧ b (p + 3) = c3) → mM_word n c1 c2 c3 0 (rG g p w u d e) a = some (0, rG g (p + 4) w u d e)) := by
  by_cases hL : p + 3 < N
  · have e0 : ¬ nI N ≤ nI (p + 3) := nI_ge hL (by omega)
    have b1 := hb (p + 1) (by omega)
    have b2 := hb (p + 2) (by omega)
    have b3 := hb (p + 3) (by omega)
    refine ⟨fun h => ?_, fun h => ?_⟩
    · simp (disch := omega) only [mM_word, hg, b1, b2, b3, e0, h.2.1, h.2.2.1, h.2.2.2, rG_6, rG_8, rG_17, rG_19, rG_20, rG_21, rG_u8, rG_u17, rG_u19, rG_u20, rG_u21, rG_u21L, cG_9, cG_10, cG_11, cG_12, cG_u10, cG_u11, cG_u12, ad_L, inb_T, nI_clamp, lt, bd_s, jn_l, jn_r, gd_T, va_ap, upd_ap, reduceIte, Nat.reduceEqDiff, Nat.reduceAdd, Nat.reduceSub, Nat.reduceMul, Nat.reduceLT, Nat.reduceLeDiff, reduceCtorEq, Int32.reduceLT, Int32.reduceLE, one_ne_zero, zero_ne_one, not_true_eq_false, not_false_eq_true, true_and, and_true, if_true, if_false, ite_self, Nat.add_zero, Nat.zero_add]
    · by_cases h1 : b (p + 1) = c1
      · by_cases h2 : b (p + 2) = c2
        · have h3 : ¬ b (p + 3) = c3 := fun h3 => h ⟨hL, h1, h2, h3⟩
          simp (disch := omega) only [mM_word, hg, b1, b2, b3, e0, h1, h2, h3, rG_6, rG_8, rG_17, rG_19, rG_20, rG_21, rG_u8, rG_u17, rG_u19, rG_u20, rG_u21, rG_u21L, cG_9, cG_10, cG_11, cG_12, cG_u10, cG_u11, cG_u12, ad_L, inb_T, nI_clamp, lt, bd_s, jn_l, jn_r, gd_T, va_ap, upd_ap, reduceIte, Nat.reduceEqDiff, Nat.reduceAdd, Nat.reduceSub, Nat.reduceMul, Nat.reduceLT, Nat.reduceLeDiff, reduceCtorEq, Int32.reduceLT, Int32.reduceLE, one_ne_zero, zero_ne_one, not_true_eq_false, not_false_eq_true, true_and, and_true, if_true, if_false, ite_self, Nat.add_zero, Nat.zero_add]
        · simp (disch := omega) only [mM_word, hg, b1, b2, e0, h1, h2, rG_6, rG_8, rG_17, rG_19, rG_20, rG_21, rG_u8, rG_u17, rG_u19, rG_u20, rG_u21, rG_u21L, cG_9, cG_10, cG_11, cG_12, cG_u10, cG_u11, cG_u12, ad_L, inb_T, nI_clamp, lt, bd_s, jn_l, jn_r, gd_T, va_ap, upd_ap, reduceIte, Nat.reduceEqDiff, Nat.reduceAdd, Nat.reduceSub, Nat.reduceMul, Nat.reduceLT, Nat.reduceLeDiff, reduceCtorEq, Int32.reduceLT, Int32.reduceLE, one_ne_zero, zero_ne_one, not_true_eq_false, not_false_eq_true, true_and, and_true, if_true, if_false, ite_self, Nat.add_zero, Nat.zero_add]
      · simp (disch := omega) only [mM_word, hg, b1, e0, h1, rG_6, rG_8, rG_17, rG_19, rG_20, rG_21, rG_u8, rG_u17, rG_u19, rG_u20, rG_u21, rG_u21L, cG_9, cG_10, cG_11, cG_12, cG_u10, cG_u11, cG_u12, ad_L, inb_T, nI_clamp, lt, bd_s, jn_l, jn_r, gd_T, va_ap, upd_ap, reduceIte, Nat.reduceEqDiff, Nat.reduceAdd, Nat.reduceSub, Nat.reduceMul, Nat.reduceLT, Nat.reduceLeDiff, reduceCtorEq, Int32.reduceLT, Int32.reduceLE, one_ne_zero, zero_ne_one, not_true_eq_false, not_false_eq_true, true_and, and_true, if_true, if_false, ite_self, Nat.add_zero, Nat.zero_add]
  · have e0 : nI N ≤ nI (p + 3) := nI_le (by omega) (by omega)
    refine ⟨fun h => absurd h.1 hL, fun _ => ?_⟩
    simp (disch := omega) only [mM_word, hg, e0, rG_6, rG_8, rG_17, rG_19, rG_20, rG_21, rG_u8, rG_u17, rG_u19, rG_u20, rG_u21, rG_u21L, cG_9, cG_10, cG_11, cG_12, cG_u10, cG_u11, cG_u12, ad_L, lt, bd_s, jn_l, jn_r, gd_T, va_ap, upd_ap, reduceIte, Nat.reduceEqDiff, Nat.reduceAdd, Nat.reduceSub, Nat.reduceMul, Nat.reduceLT, Nat.reduceLeDiff, reduceCtorEq, Int32.reduceLT, Int32.reduceLE, one_ne_zero, zero_ne_one, not_true_eq_false, not_false_eq_true, true_and, and_true, if_true, if_false, ite_self, Nat.add_zero, Nat.zero_add]
theorem wdM5 {g : aG} {a : aA} {b : Nat → Int32} {N p w u d e n : Nat} {c1 c2 c3 c4 : Int32} (hN : N ≤ 200) (hg : g 6 = nI N) (hb : ∀ i, i < N → a 0 i = b i) (hp : p < N) (h4 : ¬ c4 = 0) : ((p + 4 < N ∧ b (p + 1) = c1 ∧ b (p + 2) = c2 ∧ b (p + 3) = c3 ∧ b (p + 4) = c4) → mM_word n c1 c2 c3 c4 (rG g p w u d e) a = some (1, rG g (p + 5) w u d e)) ∧ (¬ (p + 4 < N ∧ b (p + 1) = c1 ∧ b (p + 2) = c2 ∧ b (p + 3) = c3 ∧ b (p + 4) = c4) → mM_word n c1 c2 c3 c4 (rG g p w u d e) a = some (0, rG g (p + 5) w u d e)) := by
  by_cases hL : p + 3 < N
  · have e0 : ¬ nI N ≤ nI (p + 3) := nI_ge hL (by omega)
    have b1 := hb (p + 1) (by omega)
    have b2 := hb (p + 2) (by omega)
    have b3 := hb (p + 3) (by omega)
    by_cases h1 : b (p + 1) = c1
    · by_cases h2 : b (p + 2) = c2
      · by_cases h3 : b (p + 3) = c3
        · by_cases hL4 : p + 4 < N
          · have e4 : ¬ nI N ≤ nI (p + 4) := nI_ge hL4 (by omega)
            have b4 := hb (p + 4) hL4
            by_cases h5 : b (p + 4) = c4
            · refine ⟨fun h => ?_, fun h => absurd ⟨hL4, h1, h2, h3, h5⟩ h⟩
              simp (disch := omega) only [mM_word, hg, b1, b2, b3, b4, e0, e4, h1, h2, h3, h4, h5, rG_6, rG_8, rG_17, rG_19, rG_20, rG_21, rG_u8, rG_u17, rG_u19, rG_u20, rG_u21, rG_u21L, cG_9, cG_10, cG_11, cG_12, cG_u10, cG_u11, cG_u12, ad_L, inb_T, nI_clamp, lt, bd_s, jn_l, jn_r, gd_T, va_ap, upd_ap, reduceIte, Nat.reduceEqDiff, Nat.reduceAdd, Nat.reduceSub, Nat.reduceMul, Nat.reduceLT, Nat.reduceLeDiff, reduceCtorEq, Int32.reduceLT, Int32.reduceLE, one_ne_zero, zero_ne_one, not_true_eq_false, not_false_eq_true, true_and, and_true, if_true, if_false, ite_self, Nat.add_zero, Nat.zero_add]
            · refine ⟨fun h => absurd h.2.2.2.2 h5, fun h => ?_⟩
              simp (disch := omega) only [mM_word, hg, b1, b2, b3, b4, e0, e4, h1, h2, h3, h4, h5, rG_6, rG_8, rG_17, rG_19, rG_20, rG_21, rG_u8, rG_u17, rG_u19, rG_u20, rG_u21, rG_u21L, cG_9, cG_10, cG_11, cG_12, cG_u10, cG_u11, cG_u12, ad_L, inb_T, nI_clamp, lt, bd_s, jn_l, jn_r, gd_T, va_ap, upd_ap, reduceIte, Nat.reduceEqDiff, Nat.reduceAdd, Nat.reduceSub, Nat.reduceMul, Nat.reduceLT, Nat.reduceLeDiff, reduceCtorEq, Int32.reduceLT, Int32.reduceLE, one_ne_zero, zero_ne_one, not_true_eq_false, not_false_eq_true, true_and, and_true, if_true, if_false, ite_self, Nat.add_zero, Nat.zero_add]
          · have e4 : nI N ≤ nI (p + 4) := nI_le (by omega) (by omega)
            refine ⟨fun h => absurd h.1 hL4, fun h => ?_⟩
            simp (disch := omega) only [mM_word, hg, b1, b2, b3, e0, e4, h1, h2, h3, h4, rG_6, rG_8, rG_17, rG_19, rG_20, rG_21, rG_u8, rG_u17, rG_u19, rG_u20, rG_u21, rG_u21L, cG_9, cG_10, cG_11, cG_12, cG_u10, cG_u11, cG_u12, ad_L, inb_T, nI_clamp, lt, bd_s, jn_l, jn_r, gd_T, va_ap, upd_ap, reduceIte, Nat.reduceEqDiff, Nat.reduceAdd, Nat.reduceSub, Nat.reduceMul, Nat.reduceLT, Nat.reduceLeDiff, reduceCtorEq, Int32.reduceLT, Int32.reduceLE, one_ne_zero, zero_ne_one, not_true_eq_false, not_false_eq_true, true_and, and_true, if_true, if_false, ite_self, Nat.add_zero, Nat.zero_add]
        · refine ⟨fun h => absurd h.2.2.2.1 h3, fun h => ?_⟩
          simp (disch := omega) only [mM_word, hg, b1, b2, b3, e0, h1, h2, h3, h4, rG_6, rG_8, rG_17, rG_19, rG_20, rG_21, rG_u8, rG_u17, rG_u19, rG_u20, rG_u21, rG_u21L, cG_9, cG_10, cG_11, cG_12, cG_u10, cG_u11, cG_u12, ad_L, inb_T, nI_clamp, lt, bd_s, jn_l, jn_r, gd_T, va_ap, upd_ap, reduceIte, Nat.reduceEqDiff, Nat.reduceAdd, Nat.reduceSub, Nat.reduceMul, Nat.reduceLT, Nat.reduceLeDiff, reduceCtorEq, Int32.reduceLT, Int32.reduceLE, one_ne_zero, zero_ne_one, not_true_eq_false, not_false_eq_true, true_and, and_true, if_true, if_false, ite_self, Nat.add_zero, Nat.zero_add]
      · refine ⟨fun h => absurd h.2.2.1 h2, fun h => ?_⟩
        simp (disch := omega) only [mM_word, hg, b1, b2, e0, h1, h2, h4, rG_6, rG_8, rG_17, rG_19, rG_20, rG_21, rG_u8, rG_u17, rG_u19, rG_u20, rG_u21, rG_u21L, cG_9, cG_10, cG_11, cG_12, cG_u10, cG_u11, cG_u12, ad_L, inb_T, nI_clamp, lt, bd_s, jn_l, jn_r, gd_T, va_ap, upd_ap, reduceIte, Nat.reduceEqDiff, Nat.reduceAdd, Nat.reduceSub, Nat.reduceMul, Nat.reduceLT, Nat.reduceLeDiff, reduceCtorEq, Int32.reduceLT, Int32.reduceLE, one_ne_zero, zero_ne_one, not_true_eq_false, not_false_eq_true, true_and, and_true, if_true, if_false, ite_self, Nat.add_zero, Nat.zero_add]
    · refine ⟨fun h => absurd h.2.1 h1, fun h => ?_⟩
      simp (disch := omega) only [mM_word, hg, b1, e0, h1, h4, rG_6, rG_8, rG_17, rG_19, rG_20, rG_21, rG_u8, rG_u17, rG_u19, rG_u20, rG_u21, rG_u21L, cG_9, cG_10, cG_11, cG_12, cG_u10, cG_u11, cG_u12, ad_L, inb_T, nI_clamp, lt, bd_s, jn_l, jn_r, gd_T, va_ap, upd_ap, reduceIte, Nat.reduceEqDiff, Nat.reduceAdd, Nat.reduceSub, Nat.reduceMul, Nat.reduceLT, Nat.reduceLeDiff, reduceCtorEq, Int32.reduceLT, Int32.reduceLE, one_ne_zero, zero_ne_one, not_true_eq_false, not_false_eq_true, true_and, and_true, if_true, if_false, ite_self, Nat.add_zero, Nat.zero_add]
  · have e0 : nI N ≤ nI (p + 3) := nI_le (by omega) (by omega)
    refine ⟨fun h => absurd (show p + 3 < N by omega) hL, fun _ => ?_⟩
    simp (disch := omega) only [mM_word, hg, e0, h4, rG_6, rG_8, rG_17, rG_19, rG_20, rG_21, rG_u8, rG_u17, rG_u19, rG_u20, rG_u21, rG_u21L, cG_9, cG_10, cG_11, cG_12, cG_u10, cG_u11, cG_u12, ad_L, lt, bd_s, jn_l, jn_r, gd_T, va_ap, upd_ap, reduceIte, Nat.reduceEqDiff, Nat.reduceAdd, Nat.reduceSub, Nat.reduceMul, Nat.reduceLT, Nat.reduceLeDiff, reduceCtorEq, Int32.reduceLT, Int32.reduceLE, one_ne_zero, zero_ne_one, not_true_eq_false, not_false_eq_true, true_and, and_true, if_true, if_false, ite_self, Nat.add_zero, Nat.zero_add]
