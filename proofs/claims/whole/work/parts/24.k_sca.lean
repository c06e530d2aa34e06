theorem nI_34 {kd : Nat} (h : kd ≤ 2) : ¬ nI kd = 3 ∧ ¬ nI kd = 4 := ⟨by rw [eq_L (by omega) (by decide)]; omega, by rw [eq_L (by omega) (by decide)]; omega⟩
theorem topd_n {a : aA} : ¬ topd 0 a = 0 := by
  unfold topd
  rw [if_pos rfl]; decide
theorem kpM.d0 {a a' : aA} {v u d : Nat} (h : kpM a a' v u d) : kpM a a' v u 0 := ⟨h.1, h.2.1, fun i hi => absurd hi (by omega), h.2.2.2⟩
theorem upd_ne {f : Nat → Int32} {v i : Nat} {y : Int32} (h : i ≠ v) : upd f v y i = f i := by rw [upd_ap, if_neg h]
theorem upd_eq {f : Nat → Int32} {v : Nat} {y : Int32} : upd f v y v = y := by rw [upd_ap, if_pos rfl]
theorem kpV.u {aV aX : aA} {v u j w : Nat} {y : Int32} (h : kpV aV aX v u) (hj : j < 7) (hw : v ≤ w) : kpV aV (va_up aX j (upd (aX j) w y)) v u := by
  refine ⟨fun i hi x hx => ?_, fun i hi => ?_, ?_⟩
  · rw [va_ap]
    by_cases e : i = j
    · rw [if_pos e, upd_ne (by omega), e]; exact h.1 j hj x hx
    · rw [if_neg e]; exact h.1 i hi x hx
  · rw [va_up_ne _ _ (by omega)]; exact h.2.1 i hi
  · rw [va_up_ne _ _ (by omega)]; exact h.2.2
theorem kpV.w {aV aX : aA} {v u u' : Nat} {l : List Int32} (h : kpV aV aX v u) (hu : u ≤ u') : kpV aV (va_up aX 7 (ws (aX 7) u' l)) v u := by
  refine ⟨fun i hi x hx => ?_, fun i hi => ?_, ?_⟩
  · rw [va_up_ne _ _ (by omega)]; exact h.1 i hi x hx
  · rw [va_up_self, ws, if_neg (by omega)]; exact h.2.1 i hi
  · rw [va_up_ne _ _ (by omega)]; exact h.2.2
theorem kpM.u {a aX : aA} {v u d j w : Nat} {y : Int32} (h : kpM a aX v u d) (h1 : 1 ≤ j) (hj : j ≤ 7) (hw : v ≤ w) : kpM a (va_up aX j (upd (aX j) w y)) v u d := by
  refine ⟨fun i h2 hi x hx => ?_, fun i hi => ?_, fun i hi => ?_, h.2.2.2.tr (aF.up ⟨h1, by omega⟩)⟩
  · rw [va_ap]
    by_cases e : i = j
    · rw [if_pos e, upd_ne (by omega), e]; exact h.1 j h1 hj x hx
    · rw [if_neg e]; exact h.1 i h2 hi x hx
  · rw [va_up_ne _ _ (by omega)]; exact h.2.1 i hi
  · rw [va_up_ne _ _ (by omega)]; exact h.2.2.1 i hi
theorem kpM.w {a aX : aA} {v u d u' : Nat} {l : List Int32} (h : kpM a aX v u d) (hu : u ≤ u') : kpM a (va_up aX 8 (ws (aX 8) u' l)) v u d := by
  refine ⟨fun i h2 hi x hx => ?_, fun i hi => ?_, fun i hi => ?_, h.2.2.2.tr (aF.up ⟨by omega, by omega⟩)⟩
  · rw [va_up_ne _ _ (by omega)]; exact h.1 i h2 hi x hx
  · rw [va_up_self, ws, if_neg (by omega)]; exact h.2.1 i hi
  · rw [va_up_ne _ _ (by omega)]; exact h.2.2.1 i hi
theorem ws_l {f f' : Nat → Int32} {u : Nat} {l : List Int32} (h : ∀ i, i < u → f i = f' i ∧ chr (f' i)) (hl : ∀ y ∈ l, chr y) : ∀ i, i < u + l.length → ws f u l i = ws f' u l i ∧ chr (ws f' u l i) := by
  intro i hi
  unfold ws
  by_cases h1 : u ≤ i ∧ i < u + l.length
  · rw [if_pos h1, if_pos h1]
    refine ⟨rfl, ?_⟩
    rw [List.getD_eq_getElem?_getD, List.getElem?_eq_getElem (by omega)]
    exact hl _ (List.getElem_mem _)
  · rw [if_neg h1, if_neg h1]
    exact h i (by omega)
section SCA
variable {g : aG} {gV : aG} {b : Nat → Int32} {N n f d e pc pr v u k : Nat} {aV a : aA}
theorem sca_ok {q u' : Nat} {aX a' : aA} (hN : N ≤ 200) (hg : g 6 = nI N) (hn : 300 < n) (hsk : sk b N pc = sk b N pr) (hpc : pc ≤ N) (hpr : pr ≤ N) (hv : v < 40) (hk : k ≤ pr) (hbV : ∀ i, i < N → aV 8 i = b i) (hb : ∀ i, i < N → a 0 i = b i) (he : e = 0 ∨ (e = 2 ∧ ¬ b (sk b N pr) = 93)) (hS : Sim aV a v u) (hnm : topd d a = 0 → a 1 0 = 4 → nmR aV a u v) (htv : v = 0 → ¬ topd d a = 0) (hs : sk b N pr < N) (x3 : dsp n f (nI d) (cG gV N (sk b N pr) v u) (cG gV N (sk b N pr) (v + 1) u) (va_up aV 3 (upd (aV 3) v 0)) (b (sk b N pr)) = some (.inl (1, cG gV N q (v + 1) u', aX))) (y1 : mM_value n (b (sk b N pr)) (rG g (sk b N pr) v u d e) a = some (1, rG g q (v + 1) u' d 1, a')) (hq : sk b N pr < q) (hqN : q ≤ N) (hu : u ≤ u') (huq : u' ≤ q) (k1 : kpV aV aX v u) (k2 : kpM a a' v u d) (n1 : aX 5 v = aV 5 v ∧ aX 6 v = aV 6 v) (n2 : a' 6 v = a 6 v ∧ a' 7 v = a 7 v) (h5 : a' 5 v = topd d a) (hvR : vR aX a' u' v) (h03 : ¬ aX 0 v = 3) (h04 : ¬ aX 0 v = 4) (hl : ∀ i, i < u' → aX 7 i = a' 8 i ∧ chr (a' 8 i)) : ∃ r gV' aV', mV_readValue n (f + 1) (nI d) (cG gV N pc v u) aV = some (r, gV', aV') ∧ ((r = 1 ∧ VOK n g b N gV d e pr v u k aV a gV' aV') ∨ (r = 0 ∧ VNO n g N gV d e pr v u k aV a gV' aV') ∨ (r = 1 ∧ VDG n g b N gV d e pr v u k aV a gV' aV')) := by
  have hge := sk_ge b N pr
  have hF := rv_f (w := v + 1) (D := d) (k := f) (u := u) (n := n) hN hbV hpc hn (by rw [hsk]; exact hs) hv (show q ≤ 202 by omega) okz_1 k1.2.2 (by rw [hsk]; exact x3)
  have hR := Runs.st (rb_o (k := k) hN hg hb hpr (by omega) hn hs (by rw [one_val he, y1, bd_s, okz_1, gd_T]))
  obtain ⟨l1, l2⟩ := leaf_S hS hu k1 k2.d0 n1 n2 h5 hnm htv hvR h03 h04 hl
  exact ⟨_, _, _, hF, .inl ⟨rfl, q, v + 1, u', k + 1, a', rfl, by omega, hqN, by omega, by omega, hu, huq, by omega, hR, l1, k1.u (by omega) (Nat.le_refl v), k2, 1, l2⟩⟩
theorem sca_no {q u' w p2 v2 u2 d2 e2 : Nat} {aX a' : aA} (hN : N ≤ 200) (hg : g 6 = nI N) (hn : 300 < n) (hsk : sk b N pc = sk b N pr) (hpc : pc ≤ N) (hpr : pr ≤ N) (hv : v < 40) (hk : k ≤ pr) (hbV : ∀ i, i < N → aV 8 i = b i) (hb : ∀ i, i < N → a 0 i = b i) (he : e = 0 ∨ (e = 2 ∧ ¬ b (sk b N pr) = 93)) (hs : sk b N pr < N) (x3 : dsp n f (nI d) (cG gV N (sk b N pr) v u) (cG gV N (sk b N pr) (v + 1) u) (va_up aV 3 (upd (aV 3) v 0)) (b (sk b N pr)) = some (.inl (0, cG gV N q w u', aX))) (y1 : mM_value n (b (sk b N pr)) (rG g (sk b N pr) v u d e) a = some (0, rG g p2 v2 u2 d2 e2, a')) (hq : q ≤ 202) (k1 : aX 8 = aV 8) (k2 : aF a a') : ∃ r gV' aV', mV_readValue n (f + 1) (nI d) (cG gV N pc v u) aV = some (r, gV', aV') ∧ ((r = 1 ∧ VOK n g b N gV d e pr v u k aV a gV' aV') ∨ (r = 0 ∧ VNO n g N gV d e pr v u k aV a gV' aV') ∨ (r = 1 ∧ VDG n g b N gV d e pr v u k aV a gV' aV')) := by
  have hF := rv_f (w := w) (D := d) (k := f) (u := u) (n := n) hN hbV hpc hn (by rw [hsk]; exact hs) hv hq okz_0 k1 (by rw [hsk]; exact x3)
  exact ⟨_, _, _, hF, .inr (.inl ⟨rfl, Fls.st (by omega) k2 (rb_o (k := k) hN hg hb hpr (by omega) hn hs (by rw [one_val he, y1, bd_s, okz_0, gd_T])), _, _, _, sk_202 hN hq, rfl, by rw [va_up_ne _ _ (by omega)]; exact k1⟩)⟩
theorem sca_dg {q u' w p2 v2 u2 d2 e2 : Nat} {aX a' : aA} (hN : N ≤ 200) (hg : g 6 = nI N) (hn : 300 < n) (hsk : sk b N pc = sk b N pr) (hpc : pc ≤ N) (hpr : pr ≤ N) (hv : v < 40) (hk : k ≤ pr) (hbV : ∀ i, i < N → aV 8 i = b i) (hb : ∀ i, i < N → a 0 i = b i) (he : e = 0 ∨ (e = 2 ∧ ¬ b (sk b N pr) = 93)) (hs : sk b N pr < N) (x3 : dsp n f (nI d) (cG gV N (sk b N pr) v u) (cG gV N (sk b N pr) (v + 1) u) (va_up aV 3 (upd (aV 3) v 0)) (b (sk b N pr)) = some (.inl (1, cG gV N q w u', aX))) (y1 : mM_value n (b (sk b N pr)) (rG g (sk b N pr) v u d e) a = some (0, rG g p2 v2 u2 d2 e2, a')) (hq : q < N) (hdg : dgt (b q)) (k1 : aX 8 = aV 8) (k2 : aF a a') : ∃ r gV' aV', mV_readValue n (f + 1) (nI d) (cG gV N pc v u) aV = some (r, gV', aV') ∧ ((r = 1 ∧ VOK n g b N gV d e pr v u k aV a gV' aV') ∨ (r = 0 ∧ VNO n g N gV d e pr v u k aV a gV' aV') ∨ (r = 1 ∧ VDG n g b N gV d e pr v u k aV a gV' aV')) := by
  have hF := rv_f (w := w) (D := d) (k := f) (u := u) (n := n) hN hbV hpc hn (by rw [hsk]; exact hs) hv (show q ≤ 202 by omega) okz_1 k1 (by rw [hsk]; exact x3)
  have hz : sk b N q = q := sk_n hq (fun h => hdg.1 (by rw [h]; decide)) (fun h => hdg.1 (by rw [h]; decide))
  rw [hz] at hF
  exact ⟨_, _, _, hF, .inr (.inr ⟨rfl, Fls.st (by omega) k2 (rb_o (k := k) hN hg hb hpr (by omega) hn hs (by rw [one_val he, y1, bd_s, okz_0, gd_T])), _, _, _, hq, hdg, rfl, by rw [va_up_ne _ _ (by omega)]; exact k1⟩)⟩
/-- a value without parts -/
theorem sca (hN : N ≤ 200) (hg : g 6 = nI N) (hc : ∀ i, i < N → chr (b i)) (hn : 300 < n) (hd : d ≤ 6) (hsk : sk b N pc = sk b N pr) (hpc : pc ≤ N) (hpr : pr ≤ N) (hv : v < 40) (hu : u ≤ pr) (hk : k ≤ pr) (hbV : ∀ i, i < N → aV 8 i = b i) (hb : ∀ i, i < N → a 0 i = b i) (he : e = 0 ∨ (e = 2 ∧ ¬ b (sk b N pr) = 93)) (hS : Sim aV a v u) (hnm : topd d a = 0 → a 1 0 = 4 → nmR aV a u v) (htv : v = 0 → ¬ topd d a = 0) (hs : sk b N pr < N) (h91 : ¬ b (sk b N pr) = 91) (h123 : ¬ b (sk b N pr) = 123) : ∃ r gV' aV', mV_readValue n (f + 1) (nI d) (cG gV N pc v u) aV = some (r, gV', aV') ∧ ((r = 1 ∧ VOK n g b N gV d e pr v u k aV a gV' aV') ∨ (r = 0 ∧ VNO n g N gV d e pr v u k aV a gV' aV') ∨ (r = 1 ∧ VDG n g b N gV d e pr v u k aV a gV' aV')) := by
  have hge := sk_ge b N pr
  have kA : kpV aV (va_up aV 3 (upd (aV 3) v 0)) v u := kpV.rf.u (by omega) (Nat.le_refl v)
  have kB : kpM a (aI5 a v (topd d a)) v u d := kpM.rf.u (by omega) (by omega) (Nat.le_refl v)
  by_cases h34 : b (sk b N pr) = 34
  · obtain ⟨c1, c2⟩ := dsp_34 (gV := gV) (a8 := va_up aV 3 (upd (aV 3) v 0)) (k := f) (D := nI d) (v := v) (u := u) (n := n) hN hc (fun i hi => hbV i hi) hs h34 (by omega) hv hn
    obtain ⟨m1, m2⟩ := val_34 (g := g) (a := a) (s := sk b N pr) (v := v) (u := u) (d := d) (e := e) (n := n) hN hg hc hb hs (by omega) hv hd hn
    cases hq : scq b N (sk b N pr) with
    | none =>
      obtain ⟨p', u', aX, x1, x2, x3⟩ := c2 hq
      obtain ⟨p2, u2, f1, f2, f3, y1⟩ := m2 hq
      rw [← h34] at x3 y1
      refine sca_no hN hg hn hsk hpc hpr hv hk hbV hb he hs x3 y1 x1 (x2.trans (va_up_ne _ _ (by omega))) ?_
      exact (((kB.2.2.2.tr (aF.up ⟨by omega, by omega⟩)).tr (aF.up ⟨by omega, by omega⟩)).tr (aF.up ⟨by omega, by omega⟩)).tr (aF.up ⟨by omega, by omega⟩)
    | some lq =>
      obtain ⟨l, q⟩ := lq
      have x3 := c1 l q hq
      have y1 := m1 l q hq
      obtain ⟨z1, z2, z3⟩ := scn_q hc _ _ _ _ hq
      rw [← h34] at x3 y1
      refine sca_ok hN hg hn hsk hpc hpr hv hk hbV hb he hS hnm htv hs x3 y1 (by omega) z2 (by omega) (by omega) ?_ ?_ ⟨rfl, rfl⟩ ⟨rfl, rfl⟩ ?_ ?_ ?_ ?_ ?_
      · exact (((kA.u (j := 0) (by omega) (Nat.le_refl v)).u (j := 2) (by omega) (Nat.le_refl v)).w (Nat.le_refl u)).u (j := 3) (by omega) (Nat.le_refl v)
      · exact (((kB.u (j := 1) (by omega) (by omega) (Nat.le_refl v)).u (j := 3) (by omega) (by omega) (Nat.le_refl v)).w (Nat.le_refl u)).u (j := 4) (by omega) (by omega) (Nat.le_refl v)
      · exact upd_eq
      · refine ⟨2, by omega, upd_eq, upd_eq, (fun h => by omega), fun _ => ⟨u, l.length, upd_eq, upd_eq, upd_eq, upd_eq, by omega⟩⟩
      · intro h; exact absurd (upd_eq.symm.trans h) (by decide)
      · intro h; exact absurd (upd_eq.symm.trans h) (by decide)
      · exact ws_l hS.2.2 z3
  by_cases hx : b (sk b N pr) = 45 ∨ dgt (b (sk b N pr))
  · obtain ⟨r1, r2, q, q2, V, V2, hqN, x1, y1, h⟩ := num_2 (gV := gV) (aV := va_up aV 3 (upd (aV 3) v 0)) (g := g) (a := va_up (va_up (aI5 a v (topd d a)) 1 (upd (a 1) v 0)) 1 (upd (upd (a 1) v 0) v 1)) (w := v + 1) (u := u) (d := d) (e := 1) (n := n) (v := v) hN (fun i hi => hbV i hi) hg (fun i hi => hb i hi) hv hn hs hx
    have x3 := dsp_nm (n := n) (k := f) (D := nI d) (g1 := cG gV N (sk b N pr) v u) ⟨h34, h91, h123⟩ hx x1
    have hne : ¬ b (sk b N pr) = 116 ∧ ¬ b (sk b N pr) = 102 ∧ ¬ b (sk b N pr) = 110 := by
      rcases hx with hx | hx
      · rw [hx]; decide
      · refine ⟨fun h => hx.2 (by rw [h]; decide), fun h => hx.2 (by rw [h]; decide), fun h => hx.2 (by rw [h]; decide)⟩
    have aFF : ∀ f2, aF a (va_up (va_up (va_up (aI5 a v (topd d a)) 1 (upd (a 1) v 0)) 1 (upd (upd (a 1) v 0) v 1)) 2 f2) := fun f2 => ((kB.2.2.2.tr (aF.up ⟨by omega, by omega⟩)).tr (aF.up ⟨by omega, by omega⟩)).tr (aF.up ⟨by omega, by omega⟩)
    rcases h with ⟨rfl, rfl, w1, w2, rfl, rfl, w5⟩ | ⟨rfl, rfl⟩ | ⟨rfl, rfl, w1, w2, w3⟩
    · have y2 := val_nm (c := b (sk b N pr)) (e := e) hv hd ⟨h91, h123, h34, hne.1, hne.2.1, hne.2.2⟩ y1 okz_1
      refine sca_ok hN hg hn hsk hpc hpr hv hk hbV hb he hS hnm htv hs x3 y2 w1 w2 (Nat.le_refl u) (by omega) ?_ ?_ ⟨rfl, rfl⟩ ⟨rfl, rfl⟩ ?_ ?_ ?_ ?_ ?_
      · exact (kA.u (j := 0) (by omega) (Nat.le_refl v)).u (j := 1) (by omega) (Nat.le_refl v)
      · exact ((kB.u (j := 1) (by omega) (by omega) (Nat.le_refl v)).u (j := 1) (by omega) (by omega) (Nat.le_refl v)).u (j := 2) (by omega) (by omega) (Nat.le_refl v)
      · exact upd_eq
      · exact ⟨1, by omega, upd_eq, upd_eq, (fun _ => ⟨upd_eq.trans upd_eq.symm, (show rg (upd (a 2) v V2 v) by rw [upd_eq]; exact w5)⟩), fun h => by omega⟩
      · intro h; exact absurd (upd_eq.symm.trans h) (by decide)
      · intro h; exact absurd (upd_eq.symm.trans h) (by decide)
      · exact hS.2.2
    · have y2 := val_nm (c := b (sk b N pr)) (e := e) hv hd ⟨h91, h123, h34, hne.1, hne.2.1, hne.2.2⟩ y1 okz_0
      exact sca_no hN hg hn hsk hpc hpr hv hk hbV hb he hs x3 y2 (by omega) rfl (aFF _)
    · have y2 := val_nm (c := b (sk b N pr)) (e := e) hv hd ⟨h91, h123, h34, hne.1, hne.2.1, hne.2.2⟩ y1 okz_0
      exact sca_dg hN hg hn hsk hpc hpr hv hk hbV hb he hs x3 y2 w2 w3 rfl (aFF _)
  have h45 : ¬ b (sk b N pr) = 45 := fun h => hx (.inl h)
  have hdg : ¬ dgt (b (sk b N pr)) := fun h => hx (.inr h)
  obtain ⟨c1, c2⟩ := dsp_wd (gV := gV) (a8 := va_up aV 3 (upd (aV 3) v 0)) (b := b) (k := f) (D := nI d) (v := v) (u := u) (n := n) hN (fun i hi => hbV i hi) hs hv hn ⟨h34, h91, h123, h45, hdg⟩
  have kW : kpM a (va_up (aI5 a v (topd d a)) 1 (upd (a 1) v 0)) v u d := kB.u (j := 1) (by omega) (by omega) (Nat.le_refl v)
  -- one of the three words, of L letters, on both sides
  have good : ∀ q, sk b N pr < q → q ≤ N → dsp n f (nI d) (cG gV N (sk b N pr) v u) (cG gV N (sk b N pr) (v + 1) u) (va_up aV 3 (upd (aV 3) v 0)) (b (sk b N pr)) = some (.inl (1, cG gV N q (v + 1) u, va_up (va_up aV 3 (upd (aV 3) v 0)) 0 (upd (aV 0) v 0))) → mM_value n (b (sk b N pr)) (rG g (sk b N pr) v u d e) a = some (1, rG g q (v + 1) u d 1, va_up (aI5 a v (topd d a)) 1 (upd (a 1) v 0)) → ∃ r gV' aV', mV_readValue n (f + 1) (nI d) (cG gV N pc v u) aV = some (r, gV', aV') ∧ ((r = 1 ∧ VOK n g b N gV d e pr v u k aV a gV' aV') ∨ (r = 0 ∧ VNO n g N gV d e pr v u k aV a gV' aV') ∨ (r = 1 ∧ VDG n g b N gV d e pr v u k aV a gV' aV')) := by
    intro q q1 q2 x3 y2
    refine sca_ok hN hg hn hsk hpc hpr hv hk hbV hb he hS hnm htv hs x3 y2 q1 q2 (Nat.le_refl u) (by omega) (kA.u (j := 0) (by omega) (Nat.le_refl v)) kW ⟨rfl, rfl⟩ ⟨rfl, rfl⟩ upd_eq ⟨0, by omega, upd_eq, upd_eq, (fun h => by omega), fun h => by omega⟩ ?_ ?_ hS.2.2
    · intro h; exact absurd (upd_eq.symm.trans h) (by decide)
    · intro h; exact absurd (upd_eq.symm.trans h) (by decide)
  have l0 : slen 0 = 4 := by decide +kernel
  have l1 : slen 1 = 5 := by decide +kernel
  have l2 : slen 2 = 4 := by decide +kernel
  by_cases hw : WD b N (sk b N pr) 0 ∨ WD b N (sk b N pr) 1 ∨ WD b N (sk b N pr) 2
  · obtain ⟨i, hi, hwi, x3⟩ := c1 hw
    have : i = 0 ∨ i = 1 ∨ i = 2 := by omega
    rcases this with rfl | rfl | rfl
    · obtain ⟨z0, z1⟩ := WD_0.mp hwi
      rw [l0] at x3
      refine good _ (by omega) (by omega) x3 (val_wd hv hd (.inl ⟨z0, rfl, rfl, rfl, rfl⟩) ((wdM4 (n := n) (a := va_up (aI5 a v (topd d a)) 1 (upd (a 1) v 0)) (b := b) hN hg (fun i hi => hb i hi) hs).1 z1) okz_1)
    · obtain ⟨z0, z1⟩ := WD_1.mp hwi
      rw [l1] at x3
      refine good _ (by omega) (by omega) x3 (val_wd hv hd (.inr (.inl ⟨z0, rfl, rfl, rfl, rfl⟩)) ((wdM5 (n := n) (a := va_up (aI5 a v (topd d a)) 1 (upd (a 1) v 0)) (b := b) hN hg (fun i hi => hb i hi) hs (by decide)).1 z1) okz_1)
    · obtain ⟨z0, z1⟩ := WD_2.mp hwi
      rw [l2] at x3
      refine good _ (by omega) (by omega) x3 (val_wd hv hd (.inr (.inr ⟨z0, rfl, rfl, rfl, rfl⟩)) ((wdM4 (n := n) (a := va_up (aI5 a v (topd d a)) 1 (upd (a 1) v 0)) (b := b) hN hg (fun i hi => hb i hi) hs).1 z1) okz_1)
  · have x3 := c2 hw
    by_cases t0 : b (sk b N pr) = 116
    · exact sca_no hN hg hn hsk hpc hpr hv hk hbV hb he hs x3 (val_wd hv hd (.inl ⟨t0, rfl, rfl, rfl, rfl⟩) ((wdM4 (n := n) (a := va_up (aI5 a v (topd d a)) 1 (upd (a 1) v 0)) (b := b) hN hg (fun i hi => hb i hi) hs).2 (fun h => hw (.inl (WD_0.mpr ⟨t0, h⟩)))) okz_0) (by omega) rfl kW.2.2.2
    by_cases t1 : b (sk b N pr) = 102
    · exact sca_no hN hg hn hsk hpc hpr hv hk hbV hb he hs x3 (val_wd hv hd (.inr (.inl ⟨t1, rfl, rfl, rfl, rfl⟩)) ((wdM5 (n := n) (a := va_up (aI5 a v (topd d a)) 1 (upd (a 1) v 0)) (b := b) hN hg (fun i hi => hb i hi) hs (by decide)).2 (fun h => hw (.inr (.inl (WD_1.mpr ⟨t1, h⟩))))) okz_0) (by omega) rfl kW.2.2.2
    by_cases t2 : b (sk b N pr) = 110
    · exact sca_no hN hg hn hsk hpc hpr hv hk hbV hb he hs x3 (val_wd hv hd (.inr (.inr ⟨t2, rfl, rfl, rfl, rfl⟩)) ((wdM4 (n := n) (a := va_up (aI5 a v (topd d a)) 1 (upd (a 1) v 0)) (b := b) hN hg (fun i hi => hb i hi) hs).2 (fun h => hw (.inr (.inr (WD_2.mpr ⟨t2, h⟩))))) okz_0) (by omega) rfl kW.2.2.2
    · obtain ⟨q2, f2, y1⟩ := num_no (g := g) (a := va_up (va_up (aI5 a v (topd d a)) 1 (upd (a 1) v 0)) 1 (upd (upd (a 1) v 0) v 1)) (w := v + 1) (u := u) (d := d) (e := 1) (n := n) (v := v) hN hg (fun i hi => hb i hi) hv hn hs ⟨h45, hdg⟩
      exact sca_no hN hg hn hsk hpc hpr hv hk hbV hb he hs x3 (val_nm hv hd ⟨h91, h123, h34, t0, t1, t2⟩ y1 okz_0) (by omega) rfl (((kB.2.2.2.tr (aF.up ⟨by omega, by omega⟩)).tr (aF.up ⟨by omega, by omega⟩)).tr (aF.up ⟨by omega, by omega⟩))
end SCA
