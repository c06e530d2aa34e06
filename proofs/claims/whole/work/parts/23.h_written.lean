def al (l : List Int32) : Prop := ∀ y ∈ l, ∃ c : Nat, c < 128 ∧ y = nI c
theorem al_ap {l m : List Int32} (h1 : al l) (h2 : al m) : al (l ++ m) := fun y hy => (List.mem_append.mp hy).elim (h1 y) (h2 y)
theorem al_of {l : List Int32} (h : l.all (fun y => decide (0 ≤ y) && decide (y < 128)) = true) : al l := by
  intro y hy
  have h1 := List.all_eq_true.mp h y hy
  rw [Bool.and_eq_true, decide_eq_true_eq, decide_eq_true_eq] at h1
  obtain ⟨c, hc, rfl⟩ := nI_of (Int32.not_lt.mpr h1.1)
  exact ⟨c, by have := (lt_L (b := 128) hc (by decide)).mp h1.2; omega, rfl⟩
theorem al_dl (w : Nat) : ∀ j, al (dl w j) := by
  intro j
  induction j with
  | zero => intro y hy; rw [dl, List.mem_singleton] at hy; exact ⟨_, by omega, hy⟩
  | succ j ih =>
    intro y hy
    rw [dl, List.mem_cons] at hy
    rcases hy with hy | hy
    · exact ⟨_, by omega, hy⟩
    · exact ih y hy
theorem al_dT {b : Bool} {w : Nat} (h : w < 10 ^ 6) : al (dTw b w) := by
  obtain ⟨j, j1, j2, j3, j4⟩ := u_2 h 5 0 10 (by omega) (by omega) (.inl rfl)
  have hd : dgs 10 w = dl w j := dl_d j w (by omega) j3 j4
  unfold dTw
  rw [hd]
  refine al_ap ?_ (al_dl w j)
  cases b
  · exact fun y hy => absurd hy (by simp)
  · exact al_of (by decide +kernel)
theorem al_bD {wi wr : Int32} {n1 n2 : List Int32} (h1 : al n1) (h2 : al n2) (h3 : bol wi) (h4 : bol wr) : al (bD wi wr n1 n2) := by
  have c : ∀ l : List Int32, l.all (fun y => decide (0 ≤ y) && decide (y < 128)) = true → al l := fun l h => al_of h
  rcases h3 with rfl | rfl <;> rcases h4 with rfl | rfl
  · rw [bD_00]; exact al_ap (c _ (by decide +kernel)) (al_ap (c _ (by decide +kernel)) (al_ap (c _ (by decide +kernel)) (al_ap h2 (c _ (by decide +kernel)))))
  · rw [bD_01]; exact al_ap (c _ (by decide +kernel)) (al_ap (c _ (by decide +kernel)) (al_ap (c _ (by decide +kernel)) (al_ap h2 (c _ (by decide +kernel)))))
  · rw [bD_10]; exact al_ap (c _ (by decide +kernel)) (al_ap h1 (al_ap (c _ (by decide +kernel)) (al_ap h2 (c _ (by decide +kernel)))))
  · rw [bD_11]; exact al_ap (c _ (by decide +kernel)) (al_ap h1 (al_ap (c _ (by decide +kernel)) (al_ap h2 (c _ (by decide +kernel)))))
theorem bD_len {wi wr : Int32} {n1 n2 : List Int32} (h1 : 1 ≤ n1.length ∧ n1.length ≤ 7) (h2 : 1 ≤ n2.length ∧ n2.length ≤ 7) (h3 : bol wi) (h4 : bol wr) : 10 ≤ (bD wi wr n1 n2).length ∧ (bD wi wr n1 n2).length ≤ 31 := by
  rcases h3 with rfl | rfl <;> rcases h4 with rfl | rfl <;> simp only [bD_00, bD_01, bD_10, bD_11, List.length_append, List.length_cons, List.length_nil] <;> omega
theorem bdy_t (t : List Int32) (wi wr : Int32) (n1 n2 : List Int32) : bdy t wi wr n1 n2 = t ++ bD wi wr n1 n2 := by
  unfold bD bdy
  simp only [List.nil_append, List.append_assoc]
theorem dT_2 {L : Nat} (h1 : 10 ≤ L) (h2 : L < 100) : dTw false L = [nI (48 + L / 10), nI (48 + L % 10)] := by
  have hd : dgs 10 L = dl L 1 := dl_d 1 L (by omega) (by omega) (.inr (by rw [Nat.sub_self, Nat.pow_zero, Nat.div_one]; omega))
  unfold dTw
  rw [hd]
  show [] ++ [nI (48 + L / 10 ^ 1 % 10), nI (48 + L % 10)] = _
  rw [Nat.pow_one, Nat.mod_eq_of_lt (show L / 10 < 10 by omega)]; rfl
theorem al_get {l : List Int32} (h : al l) {i : Nat} (hi : i < l.length) : ∃ c : Nat, c < 128 ∧ l.getD i 0 = nI c := by
  rw [List.getD_eq_getElem?_getD, List.getElem?_eq_getElem hi]
  exact h _ (List.getElem_mem hi)
theorem frA_26 {a : aA} {l : List Int32} {i : Nat} (h : i < l.length) : frA a l 26 i = l.getD i 0 := by
  unfold frA wl
  simp only [va_up_self, if_pos h]
theorem cn_e {x : Nat} (h : x < 128) : ((nI x).toUInt32 % 65536).toInt32 = nI x ∧ okc (((nI x).toUInt32 % 65536).toInt32) = true := by
  obtain ⟨e1, e2⟩ := chr_n x h
  exact ⟨e1, by rw [e1]; exact e2⟩
theorem Lit58 : (((58 : Int32).toUInt32 % 65536).toInt32) = nI 58 ∧ okc (((58 : Int32).toUInt32 % 65536).toInt32) = true := by decide +kernel
theorem wrn_e {n k : Nat} {v : Int32} {g : aG} {a : aA} {B F : List Int32} {kn : Nat} (hkn : kn ≤ 60) (hg : g 38 = nI kn) (hk : k < kn) (hB : mM_write n (nI k) (va_up g 45 0) a = some (frG (va_up g 45 0) B, frA a B)) (hal : al B) (hl : 10 ≤ B.length ∧ B.length ≤ 31) (hF : F = [nI (48 + B.length / 10), nI (48 + B.length % 10), nI 58] ++ B) : mM_written n (nI k) v g a = some (fchr F v, frG (va_up g 45 0) B, frA a B) := by
  have hFl : F.length = B.length + 3 := by rw [hF]; simp only [List.length_append, List.length_cons, List.length_nil]; omega
  have h0 : ¬ nI k < 0 := nI_pos (by omega)
  have h1 : nI k < (va_up g 45 0) 38 := by
    rw [va_up_ne _ _ (by omega), hg]; exact nI_lt hk (by omega)
  unfold fchr
  rw [hFl]
  by_cases hv : v < 0
  · simp only [mM_written, lt, h0, h1, hB, hv, reduceIte, jn_r, bd_s]
  obtain ⟨i, hi, rfl⟩ := nI_of hv
  by_cases hi2 : B.length + 3 ≤ i
  · have e1 : ¬ nI i < nI B.length + 3 := by rw [show (3 : Int32) = nI 3 from rfl, nI_add]; exact nI_nlt hi2 hi
    have e2 : nI (B.length + 3) ≤ nI i := nI_le hi2 hi
    simp only [mM_written, lt, h0, h1, hB, hv, e1, e2, frG_44, reduceIte, jn_r, bd_s]
  have e1 : nI i < nI B.length + 3 := by rw [show (3 : Int32) = nI 3 from rfl, nI_add]; exact nI_lt (by omega) (by omega)
  have e2 : ¬ nI (B.length + 3) ≤ nI i := nI_ge (by omega) (by omega)
  have e3 : (nI i).toNatClampNeg = i := nI_clamp hi
  rw [if_neg hv, if_neg e2, e3]
  have q : i = 0 ∨ i = 1 ∨ i = 2 ∨ 3 ≤ i := by omega
  rcases q with rfl | rfl | rfl | q
  · have z : (48 : Int32) + nI B.length / 10 = nI (48 + B.length / 10) := by
      rw [show (10 : Int32) = nI 10 from rfl, nI_dv (by omega) (by omega) (by omega)]; exact nI_add 48 _
    obtain ⟨c1, c2⟩ := cn_e (x := 48 + B.length / 10) (by omega)
    have y0 : nI 0 = 0 := rfl
    simp only [mM_written, lt, h0, h1, hB, hv, e1, frG_44, y0, z, c1, c2, reduceIte, jn_r, bd_s, gd_T]
    rw [if_neg (by decide), hF]
    have e9 : okc (nI (48 + B.length / 10)) = true := by rw [c1] at c2; exact c2
    simp only [e9, if_pos (show (0 : Int32) < nI B.length + 3 from e1), gd_T, jn_r]
    rfl
  · have z : (48 : Int32) + (nI B.length - nI B.length / 10 * 10) = nI (48 + B.length % 10) := by
      rw [nI_md (by omega)]; exact nI_add 48 _
    obtain ⟨c1, c2⟩ := cn_e (x := 48 + B.length % 10) (by omega)
    have e9 : okc (nI (48 + B.length % 10)) = true := by rw [c1] at c2; exact c2
    have y0 : ¬ nI 1 = 0 := by decide
    have y1 : nI 1 = 1 := rfl
    simp only [mM_written, lt, h0, h1, hB, hv, e1, frG_44, y0, z, c1, e9, if_pos y1, reduceIte, jn_r, bd_s, gd_T]
    rw [hF]; rfl
  · obtain ⟨c1, c2⟩ := Lit58
    have y0 : ¬ nI 2 = 0 := by decide
    have y1 : ¬ nI 2 = 1 := by decide
    have y2 : nI 2 = 2 := rfl
    have e9 : okc (nI 58) = true := by rw [c1] at c2; exact c2
    simp only [mM_written, lt, h0, h1, hB, hv, e1, frG_44, y0, y1, c1, e9, if_pos y2, reduceIte, jn_r, bd_s, gd_T]
    rw [hF]; rfl
  · obtain ⟨c, d1, d2⟩ := al_get hal (i := i - 3) (by omega)
    obtain ⟨c1, c2⟩ := cn_e d1
    have e9 : okc (nI c) = true := by rw [c1] at c2; exact c2
    have y0 : ¬ nI i = 0 := by rw [eq_L hi (by decide)]; omega
    have y1 : ¬ nI i = 1 := by rw [eq_L hi (by decide)]; omega
    have y2 : ¬ nI i = 2 := by rw [eq_L hi (by decide)]; omega
    have y3 : nI i - 3 = nI (i - 3) := sb_L q
    have y4 : inb (nI (i - 3)) 64 = true := inb_T (by omega) (by omega)
    have y5 : (nI (i - 3)).toNatClampNeg = i - 3 := nI_clamp (by omega)
    simp only [mM_written, lt, h0, h1, hB, hv, e1, frG_44, y0, y1, y2, y3, y4, y5, frA_26 (show i - 3 < B.length by omega), d2, c1, e9, reduceIte, jn_r, bd_s, gd_T]
    rw [hF, List.getD_eq_getElem?_getD, List.getElem?_append_right (by simp only [List.length_cons, List.length_nil]; omega)]
    rw [List.getD_eq_getElem?_getD] at d2
    simp only [List.length_cons, List.length_nil]
    rw [d2]
theorem L_wri {gE gJ gV : aG} {aV : aA} {gN : aG} {aN : aA} {gS gZ : aG} {aZ : aA} {dP : aP} {gQ : aG} {dO : aP} {g : aG} {a : aA} (h : Inv gE gJ gV aV gN aN gS gZ aZ dP gQ dO g a) (v u : Int32) : L_written Inv gE gJ gV aV gN aN gS gZ aZ dP gQ dO g a v u := by
  have h9 := h
  obtain ⟨hF, ⟨kn, hw, w1, w2, h3⟩, hD, hQ⟩ := h
  by_cases h0 : v < 0
  · right
    refine ⟨by rw [mE_written_i, if_pos h0], 200, 0, va_up g 45 1, a, ?_, rfl, Inv_c h9 1⟩
    simp only [mM_written, lt, h0, fail_0, up_up, jn_l, bd_s, reduceIte]
    rfl
  obtain ⟨k, hk, rfl⟩ := nI_of h0
  by_cases h1 : k < kn
  · left
    obtain ⟨a0, a1, a2, a3, ⟨b1, p1, i1, i2, i3⟩, z1, z2, ⟨b2, p2, j1, j2, j3⟩⟩ := h3 k h1
    have hB := wr_e (n := 200) (g := va_up g 45 0) (a := a) (k := k) (by omega) (by omega) i3 j3 i1 j1 i2 j2 z1 z2
    have hl := bD_len (dTw_b (b := b1) i1) (dTw_b (b := b2) j1) z1 z2
    have hal := al_bD (al_dT (b := b1) i1) (al_dT (b := b2) j1) z1 z2
    have hF9 : bdy (([] ++ dTw false (bdy [] (aN 1 k) (aN 2 k) (dTw b1 p1) (dTw b2 p2)).length) ++ [nI 58]) (aN 1 k) (aN 2 k) (dTw b1 p1) (dTw b2 p2) = [nI (48 + (bD (a 23 k) (a 24 k) (dTw b1 p1) (dTw b2 p2)).length / 10), nI (48 + (bD (a 23 k) (a 24 k) (dTw b1 p1) (dTw b2 p2)).length % 10), nI 58] ++ bD (a 23 k) (a 24 k) (dTw b1 p1) (dTw b2 p2) := by
      rw [bdy_t, a1, a2]
      show (([] ++ dTw false (bD (a 23 k) (a 24 k) (dTw b1 p1) (dTw b2 p2)).length) ++ [nI 58]) ++ _ = _
      rw [dT_2 hl.1 (by omega)]
      rfl
    have hFl : (bdy (([] ++ dTw false (bdy [] (aN 1 k) (aN 2 k) (dTw b1 p1) (dTw b2 p2)).length) ++ [nI 58]) (aN 1 k) (aN 2 k) (dTw b1 p1) (dTw b2 p2)).length ≤ 34 := by
      rw [hF9]; simp only [List.length_append, List.length_cons, List.length_nil]; omega
    refine ⟨200, k, b1, b2, p1, p2, _, _, kn, frG (va_up g 45 0) (bD (a 23 k) (a 24 k) (dTw b1 p1) (dTw b2 p2)), frA a (bD (a 23 k) (a 24 k) (dTw b1 p1) (dTw b2 p2)), rfl, by omega, by omega, by omega, i2, j2, a0.trans i3, a3.trans j3, rfl, rfl, hFl, ?_, w1, h1, hw, ?_, rfl, ?_⟩
    · intro i hi
      rw [hF9] at hi ⊢
      exact al_get (al_ap (fun y hy => by
        simp only [List.mem_cons, List.not_mem_nil, or_false] at hy
        rcases hy with hy | hy | hy
        · exact ⟨_, by omega, hy⟩
        · exact ⟨_, by omega, hy⟩
        · exact ⟨_, by omega, hy⟩) hal) hi
    · exact wrn_e hw w2 h1 hB hal hl hF9
    · refine ⟨hF, ⟨kn, hw, w1, w2, ?_⟩, hD, hQ⟩
      exact h3
  · right
    refine ⟨?_, 200, 0, va_up g 45 1, a, ?_, rfl, Inv_c h9 1⟩
    · simp (disch := omega) only [mE_written_i, w1, le_L, L_le, lt_L, L_lt, eq_L, L_eq, ad_L, nI_add, nI_sb, sb_L, mu_L, nI_leI, nI_ltI, nI_eq, nI_clamp, inb_T, nI_cl0, lt, jn_b, bd_b, bd_s, bd_i, jn_l, jn_r, jn_i, gd_T, va_ap, upd_ap, reduceIte, Nat.reduceEqDiff, Nat.reduceAdd, Nat.reduceSub, Nat.reduceMul, Nat.reduceLT, Nat.reduceLeDiff, reduceCtorEq, Int32.reduceLT, Int32.reduceLE, one_ne_zero, zero_ne_one, not_true_eq_false, not_false_eq_true, true_and, and_true, if_true, if_false, ite_self, Nat.add_zero, Nat.zero_add]
      rw [if_neg (by omega), if_neg h1]
    · have hc : ¬ nI k < (va_up g 45 0) 38 := by
        rw [va_up_ne _ _ (by omega), w2]; exact nI_nlt (by omega) hk
      simp only [mM_written, lt, h0, hc, reduceIte, jn_l, fail_0, bd_s, up_up]
      rfl
