def PRes (n : Nat) (g : aG) (b : Nat → Int32) (N : Nat) (gV : aG) (d v kd : Nat) (t : Int32) (aV0 a0 : aA) (u0 pr w u k e : Nat) (a : aA) (r : Int32) (G : aG) (A : aA) : Prop := (r = 1 ∧ ∃ qr w' u' k' a' J, G = cG gV N qr w' u' ∧ pr < qr ∧ qr ≤ N ∧ u' ≤ qr ∧ k' ≤ qr ∧ Runs n k (rG g pr w u (d + 1) e) a k' (rG g qr w' u' d 1) a' ∧ PI b N d v kd t aV0 a0 u0 J w' u' A a') ∨ (r = 0 ∧ Fls n k g (rG g pr w u (d + 1) e) a ∧ ∃ p' v' u', p' ≤ 202 ∧ G = cG gV N p' v' u' ∧ A 8 = aV0 8)
theorem PRes.rn {n : Nat} {g : aG} {b : Nat → Int32} {N : Nat} {gV : aG} {d v kd : Nat} {t : Int32} {aV0 a0 : aA} {u0 pr w u k e pr1 w1 u1 k1 e1 : Nat} {a a1 : aA} {r : Int32} {G : aG} {A : aA} (h : PRes n g b N gV d v kd t aV0 a0 u0 pr1 w1 u1 k1 e1 a1 r G A) (hR : Runs n k (rG g pr w u (d + 1) e) a k1 (rG g pr1 w1 u1 (d + 1) e1) a1) (ha : aF a a1) (hp : pr ≤ pr1) : PRes n g b N gV d v kd t aV0 a0 u0 pr w u k e a r G A := by
  rcases h with ⟨h0, qr, w', u', k', a', J, h1, h2, h3, h4, h5, h6, h7⟩ | ⟨h0, h1, h2⟩
  · exact .inl ⟨h0, qr, w', u', k', a', J, h1, by omega, h3, h4, h5, hR.tr h6, h7⟩
  · exact .inr ⟨h0, hR.fl ha h1, h2⟩
theorem PL {n : Nat} {g : aG} {b : Nat → Int32} {N : Nat} {gV : aG} {rv : Int32 → aG → aA → Option (Int32 × aG × aA)} {d v kd : Nat} {t : Int32} {aV0 a0 : aA} {u0 : Nat} (hN : N ≤ 200) (hg : g 6 = nI N) (hc : ∀ i, i < N → chr (b i)) (hn : 300 < n) (hd : d ≤ 5) (hv : v < 40) (hkd : kd = 3 ∨ kd = 4) (hrv : RVs n g b N gV rv (d + 1)) : ∀ m j e pc pr w u k aV a f, j + m = 40 → m < f → sk b N pc = sk b N pr → pc ≤ N → pr ≤ N → u ≤ pr → u ≤ pc → k ≤ pr → PI b N d v kd t aV0 a0 u0 j w u aV a → (e = nxt kd ∨ (e = fst4 kd ∧ (sk b N pr < N → ¬ b (sk b N pr) = clo kd))) → ∃ r G A, lp (bP n rv (nI v) (clo kd) (nI (d + 1))) f (nI j, cG gV N pc w u, aV) = some (r, G, A) ∧ PRes n g b N gV d v kd t aV0 a0 u0 pr w u k e a r G A := by
  intro m
  induction m with
  | zero =>
    intro j e pc pr w u k aV a f h1 h2 h3 h4 h5 h6 h7 h8 h9 h10
    have a1 := h9.1
    have a2 := h9.2.1
    omega
  | succ m ih =>
    intro j e pc pr w u k aV a f h1 h2 h3 h4 h5 h6 h7 h8 hPI he
    have hj : ¬ (40 : Int32) ≤ nI j := nI_ge (b := 40) (by have a1 := hPI.1; have a2 := hPI.2.1; omega) (by omega)
    -- from the state ahead of the value
    have core : ∀ (e1 pc1 pr1 u1 k1 : Nat) (aV1 a1 : aA), sk b N pc1 = sk b N pr1 → pc1 ≤ N → pr1 ≤ N → u1 ≤ pr1 → u1 ≤ pc1 → k1 ≤ pr1 → PI b N d v kd t aV0 a0 u0 j w u1 aV1 a1 → (e1 = 0 ∨ (e1 = 2 ∧ (sk b N pr1 < N → ¬ b (sk b N pr1) = 93))) → (topd (d + 1) a1 = 0 → a1 1 0 = 4 → nmR aV1 a1 u1 w) → bP n rv (nI v) (clo kd) (nI (d + 1)) (nI j, cG gV N pc w u, aV) = bd (rv (nI (d + 1)) (cG gV N pc1 w u1) aV1) (pK n (nI v) (clo kd) (nI j)) → ∃ r G A, lp (bP n rv (nI v) (clo kd) (nI (d + 1))) f (nI j, cG gV N pc w u, aV) = some (r, G, A) ∧ PRes n g b N gV d v kd t aV0 a0 u0 pr1 w u1 k1 e1 a1 r G A := by
      intro e1 pc1 pr1 u1 k1 aV1 a1 c1 c2 c3 c4 c5 c6 cP c7 c8 c9
      obtain ⟨p1, p2, p3, p4, p5, p6, p7, p8, p9, p10, p11, p12, p13, p14, p15, p16⟩ := id cP
      obtain ⟨r, G, A, hr, hres⟩ := hrv e1 pc1 pr1 w u1 k1 aV1 a1 c1 c2 c3 p1 c4 c5 c6 p4 p5 c7 p6 c8 (fun h0 => by omega)
      rw [hr, bd_s] at c9
      rcases hres with ⟨rfl, qr, w', u', k', a', hG, q1, q2, q3, q4, q5, q6, q7, hR, hS, kV, kM, F, hT⟩ | ⟨rfl, hF, p', v', u', y1, y2, y3⟩ | ⟨rfl, hF, p', v', u', y1, y2, y3, y4⟩
      · subst hG
        have hs1 := sk_le (b := b) q2
        have hs2 := sk_ge b N qr
        rw [topd_s, p7] at hT
        have hP := cP.nx hkd q3 q4 q5 hS kV kM hT
        have hbA : ∀ i, i < N → A 8 i = b i := fun i hi => by rw [kV.2.2]; exact p4 i hi
        have hba : ∀ i, i < N → a' 0 i = b i := fun i hi => by rw [kM.2.2.2 0 (.inl rfl)]; exact p5 i hi
        have h9 : a' 9 (d + 1 - 1) = nI v := by rw [Nat.add_sub_cancel, kM.2.2.1 d (by omega)]; exact p7
        have h1k : a' 1 v = nI kd := (kM.1 1 (by omega) (by omega) v (by omega)).trans p9
        by_cases hsN : sk b N qr < N
        · have hone := behM (g := g) (p := sk b N qr) (v := w') (u := u') (n := n) (c := b (sk b N qr)) (show 1 ≤ d + 1 by omega) (by omega) h9 (by omega) h1k hkd
          by_cases hcl : b (sk b N qr) = clo kd
          · rw [if_pos hcl, Nat.add_sub_cancel] at hone
            rw [pK_c hN hbA hsN hv hcl] at c9
            refine ⟨_, _, _, lp_e c9 (by omega), .inl ⟨rfl, sk b N qr + 1, w', u', k' + 1, a', j + 1, rfl, by omega, by omega, by omega, by omega, hR.tr (Runs.st (rb_o (k := k') hN hg hba q2 (by omega) hn hsN hone)), hP⟩⟩
          · rw [if_neg hcl] at hone
            by_cases h44 : b (sk b N qr) = 44
            · rw [if_pos h44] at hone
              rw [pK_m hN hbA hsN hv hcl h44] at c9
              have hR2 := hR.tr (Runs.st (rb_o (k := k') hN hg hba q2 (by omega) hn hsN hone))
              obtain ⟨r2, G2, A2, i1, i2⟩ := ih (j + 1) (nxt kd) (sk b N qr + 1) (sk b N qr + 1) w' u' (k' + 1) (szA A v) a' (f - 1) (by omega) (by omega) rfl (by omega) (by omega) (by omega) (by omega) (by omega) hP (.inl rfl)
              exact ⟨r2, G2, A2, (lp_s c9 (by omega)).trans i1, i2.rn hR2 kM.2.2.2 (by omega)⟩
            · rw [if_neg h44] at hone
              rw [pK_n hN hbA hs1 hv (fun _ => ⟨hcl, h44⟩)] at c9
              refine ⟨_, _, _, lp_e c9 (by omega), .inr ⟨rfl, hR.fl kM.2.2.2 (Fls.st (by omega) aF.rf (rb_o (k := k') hN hg hba q2 (by omega) hn hsN hone)), sk b N qr, w', u', by omega, rfl, ?_⟩⟩
              rw [szA, va_up_ne _ _ (by omega), kV.2.2]; exact p13.2.2
        · rw [pK_n hN hbA hs1 hv (fun h => absurd h hsN)] at c9
          refine ⟨_, _, _, lp_e c9 (by omega), .inr ⟨rfl, hR.fl kM.2.2.2 (Fls.en (by omega) (by omega) ⟨by omega, by omega⟩ (rb_e (k := k') hN hg hba q2 (by omega) hn (by omega))), sk b N qr, w', u', by omega, rfl, ?_⟩⟩
          rw [szA, va_up_ne _ _ (by omega), kV.2.2]; exact p13.2.2
      · rw [pK_0] at c9
        exact ⟨_, _, _, lp_e c9 (by omega), .inr ⟨rfl, hF, p', v', u', y1, y2, y3.trans p13.2.2⟩⟩
      · subst y3
        have hbA : ∀ i, i < N → A 8 i = b i := fun i hi => by rw [y4]; exact p4 i hi
        have z1 : ¬ b p' = clo kd := by
          unfold clo
          rcases hkd with rfl | rfl
          · rw [if_pos rfl]; exact fun h => y2.2 (by rw [h]; decide)
          · rw [if_neg (by omega)]; exact fun h => y2.2 (by rw [h]; decide)
        rw [pK_n hN hbA (by omega) hv (fun _ => ⟨z1, fun h => y2.1 (by rw [h]; decide)⟩)] at c9
        refine ⟨_, _, _, lp_e c9 (by omega), .inr ⟨rfl, hF, p', v', u', by omega, rfl, ?_⟩⟩
        rw [szA, va_up_ne _ _ (by omega), y4]; exact p13.2.2
    rcases hkd with rfl | rfl
    · -- array
      have hcl3 : clo 3 = 93 := rfl
      refine core e pc pr u k aV a h3 h4 h5 h6 h7 h8 hPI ?_ ?_ ?_
      · rcases he with he | ⟨he, he2⟩
        · exact .inl he
        · exact .inr ⟨he, he2⟩
      · intro q1 q2
        rw [topd_s, hPI.2.2.2.2.2.2.1] at q1
        have q3 : nI v = nI 0 := q1
        rw [nI_eq (by omega) (by omega)] at q3
        have q4 := hPI.2.2.2.2.2.2.2.2.1
        rw [q3, q2] at q4
        exact absurd q4 (by decide)
      · exact bP_3 hj
    · -- object
      have he2 : e = 3 ∨ (e = 4 ∧ (sk b N pr < N → ¬ b (sk b N pr) = 125)) := he
      obtain ⟨p1, p2, p3, p4, p5, p6, p7, p8, p9, p10, p11, p12, p13, p14, p15, p16⟩ := id hPI
      obtain ⟨m1, m2⟩ := nmM (g := g) (a := a) (w := w) (u := u) (d := d + 1) (e := e) (n := n) (k := k) hN hg hc p5 h5 h6 h8 hn p1 (by omega) he2
      by_cases hw : w = 40
      · subst hw
        have c9 := bP_4 (rv := rv) (v1 := nI v) (v3 := nI (d + 1)) hj (nmV40 (gV := gV) (u := u) hN p4 h4 hn)
        rw [if_pos rfl] at c9
        refine ⟨_, _, _, lp_e c9 (by omega), .inr ⟨rfl, ?_, sk b N pc, 40, u, sk_202 hN (by omega), rfl, p13.2.2⟩⟩
        by_cases hNC : ∃ l q, NC b N (sk b N pr) l q
        · obtain ⟨l, q, hq⟩ := hNC
          have hR := m1 l q hq
          obtain ⟨z1, z2, -⟩ := scn_q hc _ _ _ _ hq.2.2.1
          have aFF : aF a (va_up (va_up (va_up a 8 (ws (a 8) u l)) 6 (upd (a 6) 40 (nI u))) 7 (upd (a 7) 40 (nI l.length))) := ((aF.up ⟨by omega, by omega⟩).tr (aF.up ⟨by omega, by omega⟩)).tr (aF.up ⟨by omega, by omega⟩)
          have hs4 := sk_ge b N q
          have hs3 := sk_ge b N pr
          have hq1 := hq.2.2.2.1
          have hb2 : ∀ i, i < N → (va_up (va_up (va_up a 8 (ws (a 8) u l)) 6 (upd (a 6) 40 (nI u))) 7 (upd (a 7) 40 (nI l.length))) 0 i = b i := fun i hi => p5 i hi
          refine hR.fl aFF ?_
          by_cases hsN : sk b N (sk b N q + 1) < N
          · exact Fls.st (by omega) aF.rf (rb_o (k := k + 2) hN hg hb2 (by omega) (by omega) hn hsN (by rw [one_val (.inl rfl), val_40, bd_s, okz_0, gd_T]))
          · exact Fls.en (by omega) (by omega) ⟨by omega, by omega⟩ (rb_e (k := k + 2) hN hg hb2 (by omega) (by omega) hn (by omega))
        · exact m2 hNC
      · obtain ⟨n1, n2⟩ := nmV (gV := gV) (aV := aV) (w := w) (u := u) (n := n) hN hc p4 h4 h7 hn (by omega)
        rw [h3] at n1 n2
        by_cases hNC : ∃ l q, NC b N (sk b N pr) l q
        · obtain ⟨l, q, hq⟩ := hNC
          have hR := m1 l q hq
          have hV := n1 l q hq
          obtain ⟨z1, z2, z3⟩ := scn_q hc _ _ _ _ hq.2.2.1
          have hs3 := sk_ge b N pr
          have hs4 := sk_ge b N q
          have hq1 := hq.2.2.2.1
          have aFF : aF a (va_up (va_up (va_up a 8 (ws (a 8) u l)) 6 (upd (a 6) w (nI u))) 7 (upd (a 7) w (nI l.length))) := ((aF.up ⟨by omega, by omega⟩).tr (aF.up ⟨by omega, by omega⟩)).tr (aF.up ⟨by omega, by omega⟩)
          have c9 := bP_4 (rv := rv) (v1 := nI v) (v3 := nI (d + 1)) (j := nI j) hj hV
          rw [if_neg one_ne_zero] at c9
          have kV : kpV aV (va_up (va_up (va_up aV 7 (ws (aV 7) u l)) 5 (upd (aV 5) w (nI u))) 6 (upd (aV 6) w (nI l.length))) w u := ((kpV.rf.w (Nat.le_refl u)).u (j := 5) (by omega) (Nat.le_refl w)).u (j := 6) (by omega) (Nat.le_refl w)
          have kM : kpM a (va_up (va_up (va_up a 8 (ws (a 8) u l)) 6 (upd (a 6) w (nI u))) 7 (upd (a 7) w (nI l.length))) w u (d + 1) := ((kpM.rf.w (Nat.le_refl u)).u (j := 6) (by omega) (by omega) (Nat.le_refl w)).u (j := 7) (by omega) (by omega) (Nat.le_refl w)
          have hP1 : PI b N d v 4 t aV0 a0 u0 j w (u + l.length) (va_up (va_up (va_up aV 7 (ws (aV 7) u l)) 5 (upd (aV 5) w (nI u))) 6 (upd (aV 6) w (nI l.length))) (va_up (va_up (va_up a 8 (ws (a 8) u l)) 6 (upd (a 6) w (nI u))) 7 (upd (a 7) w (nI l.length))) := by
            refine ⟨p1, p2, by omega, p4, p5, ?_, p7, p8, p9, p10, p11, ?_, p13.tr kV (by omega) p3, p14.tr kM (by omega) p3 (by omega), ?_, ?_⟩
            · obtain ⟨s1, s2, s3⟩ := p6
              refine ⟨fun i hi => (s1 i hi).mv (by omega) ⟨rfl, rfl, rfl, fun _ => rfl⟩ ⟨rfl, rfl, rfl, rfl⟩, fun i hi x1 x2 => (s2 i hi x1 x2).mv (by omega) ⟨upd_ne (by omega), upd_ne (by omega)⟩ ⟨upd_ne (by omega), upd_ne (by omega)⟩, ws_l s3 z3⟩
            · obtain ⟨F, hF⟩ := p12
              exact ⟨F, Tr_c (aV := aV) (a := a) _ _ _ _ _ (fun i _ _ => ⟨rfl, rfl, rfl, rfl⟩) hF⟩
            · exact ⟨(show upd (aV 5) w (nI u) v = aV0 5 v from (upd_ne (by omega)).trans p15.1), (show upd (aV 6) w (nI l.length) v = aV0 6 v from (upd_ne (by omega)).trans p15.2)⟩
            · exact ⟨(show upd (a 6) w (nI u) v = a0 6 v from (upd_ne (by omega)).trans p16.1), (show upd (a 7) w (nI l.length) v = a0 7 v from (upd_ne (by omega)).trans p16.2)⟩
          have hnm : topd (d + 1) (va_up (va_up (va_up a 8 (ws (a 8) u l)) 6 (upd (a 6) w (nI u))) 7 (upd (a 7) w (nI l.length))) = 0 → (va_up (va_up (va_up a 8 (ws (a 8) u l)) 6 (upd (a 6) w (nI u))) 7 (upd (a 7) w (nI l.length))) 1 0 = 4 → nmR (va_up (va_up (va_up aV 7 (ws (aV 7) u l)) 5 (upd (aV 5) w (nI u))) 6 (upd (aV 6) w (nI l.length))) (va_up (va_up (va_up a 8 (ws (a 8) u l)) 6 (upd (a 6) w (nI u))) 7 (upd (a 7) w (nI l.length))) (u + l.length) w := fun _ _ => ⟨u, l.length, upd_eq, upd_eq, upd_eq, upd_eq, Nat.le_refl _⟩
          obtain ⟨r2, G2, A2, i1, i2⟩ := core 0 (sk b N q + 1) (sk b N q + 1) (u + l.length) (k + 2) (va_up (va_up (va_up aV 7 (ws (aV 7) u l)) 5 (upd (aV 5) w (nI u))) 6 (upd (aV 6) w (nI l.length))) (va_up (va_up (va_up a 8 (ws (a 8) u l)) 6 (upd (a 6) w (nI u))) 7 (upd (a 7) w (nI l.length))) rfl (by omega) (by omega) (by omega) (by omega) (by omega) hP1 (.inl rfl) hnm c9
          exact ⟨r2, G2, A2, i1, i2.rn hR aFF (by omega)⟩
        · obtain ⟨p', u', a', y1, y2, y3⟩ := n2 hNC
          have c9 := bP_4 (rv := rv) (v1 := nI v) (v3 := nI (d + 1)) (j := nI j) hj y3
          rw [if_pos rfl] at c9
          exact ⟨_, _, _, lp_e c9 (by omega), .inr ⟨rfl, m2 hNC, p', w, u', y1, rfl, y2.trans p13.2.2⟩⟩
