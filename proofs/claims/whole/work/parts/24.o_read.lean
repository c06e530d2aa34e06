theorem Tr_nil {aV a : aA} {p : Int32} {s : Nat} : ∀ f, Tr aV a f p s s 0 := by
  intro f
  cases f with
  | zero => exact ⟨rfl, rfl⟩
  | succ f => exact .inl ⟨rfl, rfl⟩
theorem kpM.o {a aX : aA} {v u d : Nat} {y : Int32} (h : kpM a aX v u d) : kpM a (va_up aX 9 (upd (aX 9) d y)) v u d := by
  refine ⟨fun i h2 hi x hx => ?_, fun i hi => ?_, fun i hi => ?_, h.2.2.2.tr (aF.up ⟨by omega, by omega⟩)⟩
  · rw [va_up_ne _ _ (by omega)]; exact h.1 i h2 hi x hx
  · rw [va_up_ne _ _ (by omega)]; exact h.2.1 i hi
  · rw [va_up_self, upd_ne (by omega)]; exact h.2.2.1 i hi
def opn (kd : Nat) : Int32 := if kd = 3 then 91 else 123
theorem val_c {g : aG} {a : aA} {s v u d e n kd : Nat} (hv : v < 40) (hd : d ≤ 5) (hkd : kd = 3 ∨ kd = 4) : mM_value n (opn kd) (rG g s v u d e) a = some (1, rG g (s + 1) (v + 1) u (d + 1) (fst4 kd), va_up (va_up (aI5 a v (topd d a)) 1 (upd (a 1) v (nI kd))) 9 (upd (a 9) d (nI v))) := by
  have e0 : ¬ nI v = 40 := by rw [eq_L (by omega) (by decide)]; omega
  have e1 : inb (nI v) 41 = true := inb_T (by omega) (by omega)
  have e2 : (nI v).toNatClampNeg = v := nI_clamp (by omega)
  have e3 : inb (nI d) 7 = true := inb_T (by omega) (by omega)
  have e4 : (nI d).toNatClampNeg = d := nI_clamp (by omega)
  have e5 : ¬ nI d = 6 := by rw [eq_L (by omega) (by decide)]; omega
  rcases hkd with rfl | rfl
  · have o0 : opn 3 = 91 := rfl
    have o1 : fst4 3 = 2 := rfl
    have o2 : nI 3 = 3 := rfl
    rw [o0, o1, mM_value, rG_8, if_neg e0, val_t (by omega), jn_l]
    simp only [aI5, e1, e2, e3, e4, e5, o2, rG_u8, rG_u21L, ad_L, reduceIte, jn_l, jn_r, gd_T, lt, va_ap, Nat.reduceEqDiff, rG_19, rG_20, rG_u19, rG_u20]
  · have o0 : opn 4 = 123 := rfl
    have o1 : fst4 4 = 4 := rfl
    have o2 : nI 4 = 4 := rfl
    have o3 : ¬ ((123 : Int32) = 91) := by decide
    rw [o0, o1, mM_value, rG_8, if_neg e0, val_t (by omega), jn_l]
    simp only [aI5, e1, e2, e3, e4, e5, o2, o3, rG_u8, rG_u21L, ad_L, reduceIte, jn_l, jn_r, gd_T, lt, va_ap, Nat.reduceEqDiff, rG_19, rG_20, rG_u19, rG_u20]
theorem val_c6 {g : aG} {a : aA} {s v u e n kd : Nat} (hv : v < 40) (hkd : kd = 3 ∨ kd = 4) : mM_value n (opn kd) (rG g s v u 6 e) a = some (0, rG g s (v + 1) u 6 1, aI5 a v (topd 6 a)) := by
  have e0 : ¬ nI v = 40 := by rw [eq_L (by omega) (by decide)]; omega
  have e1 : inb (nI v) 41 = true := inb_T (by omega) (by omega)
  have e2 : (nI v).toNatClampNeg = v := nI_clamp (by omega)
  have e5 : nI 6 = 6 := rfl
  rcases hkd with rfl | rfl
  · have o0 : opn 3 = 91 := rfl
    rw [o0, mM_value, rG_8, if_neg e0, val_t (by omega), jn_l]
    simp only [aI5, e1, e2, rG_u8, rG_u21L, ad_L, reduceIte, jn_l, gd_T, lt, rG_19, if_pos e5]
  · have o0 : opn 4 = 123 := rfl
    have o3 : ¬ ((123 : Int32) = 91) := by decide
    rw [o0, mM_value, rG_8, if_neg e0, val_t (by omega), jn_l]
    simp only [aI5, e1, e2, o3, rG_u8, rG_u21L, ad_L, reduceIte, jn_l, gd_T, lt, rG_19, if_pos e5]
theorem dsp_c {gV : aG} {a8 A : aA} {G : aG} {N s v u n k d kd : Nat} {r : Int32} (hv : v < 40) (hkd : kd = 3 ∨ kd = 4) (h : mV_readParts n (mV_readValue n k) (nI v) (clo kd) (nI (d + 1)) (cG gV N s (v + 1) u) (va_up a8 0 (upd (a8 0) v (nI kd))) = some (r, G, A)) : dsp n k (nI d) (cG gV N s v u) (cG gV N s (v + 1) u) a8 (opn kd) = some (.inl (r, G, A)) := by
  have e1 : inb (nI v) 40 = true := inb_T (by omega) (by omega)
  have e2 : (nI v).toNatClampNeg = v := nI_clamp (by omega)
  rcases hkd with rfl | rfl
  · have o0 : opn 3 = 91 := rfl
    have o1 : ¬ ((91 : Int32) = 34) := by decide
    have o2 : clo 3 = 93 := rfl
    have o3 : nI 3 = 3 := rfl
    rw [o2, o3] at h
    simp only [dsp, o0, o1, cG_11, e1, e2, gd_T, lt, ad_L, h, bd_s, reduceIte]
  · have o0 : opn 4 = 123 := rfl
    have o1 : ¬ ((123 : Int32) = 34) := by decide
    have o4 : ¬ ((123 : Int32) = 91) := by decide
    have o2 : clo 4 = 125 := rfl
    have o3 : nI 4 = 4 := rfl
    rw [o2, o3] at h
    simp only [dsp, o0, o1, o4, cG_11, e1, e2, gd_T, lt, ad_L, h, bd_s, reduceIte]
theorem one_sc {g : aG} {a : aA} {p v u d n kd : Nat} (hkd : kd = 3 ∨ kd = 4) : mM_one n (clo kd) (rG g p v u (d + 1) (fst4 kd)) a = some (1, rG g (p + 1) v u d 1, a) := by
  rcases hkd with rfl | rfl
  · exact one_s2 (by omega)
  · exact one_s4 (by omega)
/-- an array or an object -/
theorem con {g : aG} {gV : aG} {b : Nat → Int32} {N n f d e pc pr v u k kd : Nat} {aV a : aA} (hN : N ≤ 200) (hg : g 6 = nI N) (hc : ∀ i, i < N → chr (b i)) (hn : 300 < n) (hd : d ≤ 6) (hkd : kd = 3 ∨ kd = 4) (hrv : d ≤ 5 → RVs n g b N gV (mV_readValue n f) (d + 1)) (hsk : sk b N pc = sk b N pr) (hpc : pc ≤ N) (hpr : pr ≤ N) (hv : v < 40) (hu : u ≤ pr) (hk : k ≤ pr) (hbV : ∀ i, i < N → aV 8 i = b i) (hb : ∀ i, i < N → a 0 i = b i) (he : e = 0 ∨ (e = 2 ∧ ¬ b (sk b N pr) = 93)) (hS : Sim aV a v u) (hnm : topd d a = 0 → a 1 0 = 4 → nmR aV a u v) (htv : v = 0 → ¬ topd d a = 0) (hs : sk b N pr < N) (hop : b (sk b N pr) = opn kd) : ∃ r gV' aV', mV_readValue n (f + 1) (nI d) (cG gV N pc v u) aV = some (r, gV', aV') ∧ ((r = 1 ∧ VOK n g b N gV d e pr v u k aV a gV' aV') ∨ (r = 0 ∧ VNO n g N gV d e pr v u k aV a gV' aV') ∨ (r = 1 ∧ VDG n g b N gV d e pr v u k aV a gV' aV')) := by
  have hge := sk_ge b N pr
  by_cases hd6 : d = 6
  · subst hd6
    have e7 : ¬ nI (6 + 1) ≤ 6 := by decide
    have x1 : mV_readParts n (mV_readValue n f) (nI v) (clo kd) (nI (6 + 1)) (cG gV N (sk b N pr) (v + 1) u) (va_up (va_up aV 3 (upd (aV 3) v 0)) 0 (upd (aV 0) v (nI kd))) = some (0, cG gV N (sk b N pr) (v + 1) u, va_up (va_up aV 3 (upd (aV 3) v 0)) 0 (upd (aV 0) v (nI kd))) := by
      rw [pts_e, if_neg e7]
    have x3 := dsp_c (a8 := va_up aV 3 (upd (aV 3) v 0)) (d := 6) hv hkd x1
    have y1 := val_c6 (g := g) (a := a) (s := sk b N pr) (u := u) (e := e) (n := n) hv hkd
    rw [← hop] at x3 y1
    exact sca_no hN hg hn hsk hpc hpr hv hk hbV hb he hs x3 y1 (by omega) rfl (aF.up ⟨by omega, by omega⟩)
  have hd5 : d ≤ 5 := by omega
  have e7 : nI (d + 1) ≤ 6 := nI_le (b := 6) (by omega) (by omega)
  -- the arrays with the new value
  obtain ⟨aK, haK⟩ : ∃ aK, aK = va_up (va_up aV 3 (upd (aV 3) v 0)) 0 (upd (aV 0) v (nI kd)) := ⟨_, rfl⟩
  obtain ⟨a1, ha1⟩ : ∃ a1, a1 = va_up (va_up (aI5 a v (topd d a)) 1 (upd (a 1) v (nI kd))) 9 (upd (a 9) d (nI v)) := ⟨_, rfl⟩
  have hbK : ∀ i, i < N → aK 8 i = b i := fun i hi => by rw [haK]; exact hbV i hi
  have hb1 : ∀ i, i < N → a1 0 i = b i := fun i hi => by rw [ha1]; exact hb i hi
  have kK : kpV aV aK v u := by rw [haK]; exact (kpV.rf.u (j := 3) (by omega) (Nat.le_refl v)).u (j := 0) (by omega) (Nat.le_refl v)
  have k1 : kpM a a1 v u d := by rw [ha1]; exact ((kpM.rf.u (j := 5) (by omega) (by omega) (Nat.le_refl v)).u (j := 1) (by omega) (by omega) (Nat.le_refl v)).o
  have K0 : aK 0 v = nI kd := by rw [haK]; exact upd_eq
  have K3 : aK 3 v = nI 0 := by rw [haK]; exact upd_eq
  have M1 : a1 1 v = nI kd := by rw [ha1]; exact upd_eq
  have M5 : a1 5 v = topd d a := by rw [ha1]; exact upd_eq
  have M9 : a1 9 d = nI v := by rw [ha1]; exact upd_eq
  have nK : aK 5 v = aV 5 v ∧ aK 6 v = aV 6 v := by rw [haK]; exact ⟨rfl, rfl⟩
  have nM : a1 6 v = a 6 v ∧ a1 7 v = a 7 v := by rw [ha1]; exact ⟨rfl, rfl⟩
  have hlt : ∀ i, i < u → aK 7 i = a1 8 i ∧ chr (a1 8 i) := by rw [haK, ha1]; exact hS.2.2
  have hSim : Sim aK a1 (v + 1) u := by
    obtain ⟨s1, s2, s3⟩ := hS
    refine ⟨fun i hi => ?_, fun i hi h1 h2 => ?_, hlt⟩
    · by_cases h : i = v
      · subst h
        exact ⟨kd, by omega, K0, M1, (fun h => by omega), fun h => by omega⟩
      · exact (s1 i (by omega)).mv (Nat.le_refl u) ⟨kK.1 0 (by omega) i (by omega), kK.1 1 (by omega) i (by omega), kK.1 2 (by omega) i (by omega), fun _ => kK.1 3 (by omega) i (by omega)⟩ ⟨k1.1 1 (by omega) (by omega) i (by omega), k1.1 2 (by omega) (by omega) i (by omega), k1.1 3 (by omega) (by omega) i (by omega), k1.1 4 (by omega) (by omega) i (by omega)⟩
    · by_cases h : i = v
      · subst h
        rw [M5] at h1
        have h0 : 0 < i := by
          rcases Nat.eq_zero_or_pos i with h0 | h0
          · exact absurd h1 (htv h0)
          · exact h0
        rw [k1.1 1 (by omega) (by omega) 0 h0] at h2
        exact (hnm h1 h2).mv (Nat.le_refl u) nK nM
      · rw [k1.1 5 (by omega) (by omega) i (by omega)] at h1
        rw [k1.1 1 (by omega) (by omega) 0 (by omega)] at h2
        exact (s2 i (by omega) h1 h2).mv (Nat.le_refl u) ⟨kK.1 5 (by omega) i (by omega), kK.1 6 (by omega) i (by omega)⟩ ⟨k1.1 6 (by omega) (by omega) i (by omega), k1.1 7 (by omega) (by omega) i (by omega)⟩
  have hPI : PI b N d v kd (topd d a) aV a u 0 (v + 1) u aK a1 := ⟨by omega, by omega, Nat.le_refl u, hbK, hb1, hSim, M9, K0, M1, K3, M5, ⟨0, rfl, rfl⟩, kK, k1, nK, nM⟩
  have y1 := val_c (g := g) (a := a) (s := sk b N pr) (u := u) (e := e) (n := n) hv hd5 hkd
  rw [← hop, ← ha1] at y1
  have hR1 := Runs.st (rb_o (k := k) hN hg hb hpr (by omega) hn hs (by rw [one_val he, y1, bd_s, okz_1, gd_T]))
  have hs1 := sk_le (b := b) (show sk b N pr + 1 ≤ N by omega)
  have hs2 := sk_ge b N (sk b N pr + 1)
  have sb1 := sbV (gV := gV) (aV := aK) (v := v + 1) (u := u) (n := n) hN hbK (show sk b N pr + 1 ≤ N by omega) (by omega)
  -- from readParts' end to readValue's
  have fin : ∀ (qr w' u' k' : Nat) (A a' : aA) (J : Nat), mV_readParts n (mV_readValue n f) (nI v) (clo kd) (nI (d + 1)) (cG gV N (sk b N pr) (v + 1) u) aK = some (1, cG gV N qr w' u', A) → sk b N pr < qr → qr ≤ N → u' ≤ qr → k' ≤ qr → Runs n k (rG g pr v u d e) a k' (rG g qr w' u' d 1) a' → PI b N d v kd (topd d a) aV a u J w' u' A a' → ∃ r gV' aV', mV_readValue n (f + 1) (nI d) (cG gV N pc v u) aV = some (r, gV', aV') ∧ ((r = 1 ∧ VOK n g b N gV d e pr v u k aV a gV' aV') ∨ (r = 0 ∧ VNO n g N gV d e pr v u k aV a gV' aV') ∨ (r = 1 ∧ VDG n g b N gV d e pr v u k aV a gV' aV')) := by
    intro qr w' u' k' A a' J x1 q1 q2 q3 q4 hR hP
    obtain ⟨p1, p2, p3, p4, p5, p6, p7, p8, p9, p10, p11, ⟨F, p12⟩, p13, p14, p15, p16⟩ := hP
    rw [haK] at x1
    have x3 := dsp_c (a8 := va_up aV 3 (upd (aV 3) v 0)) (d := d) hv hkd x1
    rw [← hop] at x3
    have hF := rv_f (w := w') (D := d) (k := f) (u := u) (n := n) hN hbV hpc hn (by rw [hsk]; exact hs) hv (show qr ≤ 202 by omega) okz_1 p13.2.2 (by rw [hsk]; exact x3)
    refine ⟨_, _, _, hF, .inl ⟨rfl, qr, w', u', k', a', rfl, by omega, q2, by omega, p1, p3, q3, q4, hR, ?_, p13.u (by omega) (Nat.le_refl v), p14, F + 1, ?_⟩⟩
    · exact p6
    · refine .inr ⟨w', 0, rfl, by omega, p11, upd_eq, .inl ⟨?_, J, p10, ?_⟩, Tr_nil F⟩
      · show A 0 v = 3 ∨ A 0 v = 4
        rw [p8]
        exact hkd.imp (fun h => by rw [h]; rfl) (fun h => by rw [h]; rfl)
      · exact Tr_c (aV := A) (a := a') _ _ _ _ _ (fun i h1 h2 => ⟨rfl, rfl, upd_ne (by omega), rfl⟩) p12
  have fno : ∀ (p' v' u' : Nat) (A : aA), mV_readParts n (mV_readValue n f) (nI v) (clo kd) (nI (d + 1)) (cG gV N (sk b N pr) (v + 1) u) aK = some (0, cG gV N p' v' u', A) → p' ≤ 202 → A 8 = aV 8 → Fls n k g (rG g pr v u d e) a → ∃ r gV' aV', mV_readValue n (f + 1) (nI d) (cG gV N pc v u) aV = some (r, gV', aV') ∧ ((r = 1 ∧ VOK n g b N gV d e pr v u k aV a gV' aV') ∨ (r = 0 ∧ VNO n g N gV d e pr v u k aV a gV' aV') ∨ (r = 1 ∧ VDG n g b N gV d e pr v u k aV a gV' aV')) := by
    intro p' v' u' A x1 q1 q2 hFl
    rw [haK] at x1
    have x3 := dsp_c (a8 := va_up aV 3 (upd (aV 3) v 0)) (d := d) hv hkd x1
    rw [← hop] at x3
    have hF := rv_f (w := v') (D := d) (k := f) (u := u) (n := n) hN hbV hpc hn (by rw [hsk]; exact hs) hv q1 okz_0 q2 (by rw [hsk]; exact x3)
    exact ⟨_, _, _, hF, .inr (.inl ⟨rfl, hFl, _, _, _, sk_202 hN q1, rfl, by rw [va_up_ne _ _ (by omega)]; exact q2⟩)⟩
  by_cases hcl : sk b N (sk b N pr + 1) < N ∧ b (sk b N (sk b N pr + 1)) = clo kd
  · have kc := skV (gV := gV) (aV := aK) (v := v + 1) (u := u) (n := n) hN hbK hcl.1 hcl.2
    have hone := one_sc (g := g) (a := a1) (p := sk b N (sk b N pr + 1)) (v := v + 1) (u := u) (d := d) (n := n) hkd
    rw [← hcl.2] at hone
    refine fin (sk b N (sk b N pr + 1) + 1) (v + 1) u (k + 1 + 1) aK a1 0 ?_ (by omega) (by omega) (by omega) (by omega) (hR1.tr (Runs.st (rb_o (k := k + 1) hN hg hb1 (by omega) (by omega) hn hcl.1 hone))) hPI
    rw [pts_e, if_pos e7]
    simp only [lt, cG_10, ad_L, cG_u10, sb1, bd_s, kc, one_ne_zero, reduceIte]
  · have hcl2 : sk b N (sk b N pr + 1) < N → ¬ b (sk b N (sk b N pr + 1)) = clo kd := fun h1 h2 => hcl ⟨h1, h2⟩
    have kc := skV0 (gV := gV) (aV := aK) (v := v + 1) (u := u) (n := n) hN hbK hs1 hcl2
    obtain ⟨r, G, A, l1, l2⟩ := PL (t := topd d a) (aV0 := aV) (a0 := a) (u0 := u) hN hg hc hn hd5 hv hkd (hrv hd5) 40 0 (fst4 kd) (sk b N (sk b N pr + 1)) (sk b N pr + 1) (v + 1) u (k + 1) aK a1 n (by omega) (by omega) sk_id hs1 (by omega) (by omega) (by omega) (by omega) hPI (.inr ⟨rfl, hcl2⟩)
    have x1 : mV_readParts n (mV_readValue n f) (nI v) (clo kd) (nI (d + 1)) (cG gV N (sk b N pr) (v + 1) u) aK = some (r, G, A) := by
      rw [pts_e, if_pos e7]
      simp only [lt, cG_10, ad_L, cG_u10, sb1, bd_s, kc, reduceIte]
      exact l1
    rcases l2 with ⟨rfl, qr, w', u', k', a', J, rfl, q1, q2, q3, q4, q5, q6⟩ | ⟨rfl, hFl, p', v', u', q1, rfl, q2⟩
    · exact fin qr w' u' k' A a' J x1 (by omega) q2 q3 q4 (hR1.tr q5) q6
    · exact fno p' v' u' A x1 q1 q2 (hR1.fl k1.2.2.2 hFl)
theorem rvAll {g : aG} {gV : aG} {b : Nat → Int32} {N n : Nat} (hN : N ≤ 200) (hg : g 6 = nI N) (hc : ∀ i, i < N → chr (b i)) (hn : 300 < n) : ∀ f d, d ≤ 6 → 7 ≤ d + f → RVs n g b N gV (mV_readValue n f) d := by
  intro f
  induction f with
  | zero => intro d h1 h2; omega
  | succ f ih =>
    intro d h1 h2 e pc pr v u k aV a hsk hpc hpr hv hu hu2 hk hbV hb he hS hnm htv
    have hle := sk_le (b := b) hpr
    by_cases hs : N ≤ sk b N pr
    · refine ⟨_, _, _, rv_n hN hbV hpc hn (.inl (by rw [hsk]; exact hs)) hv, .inr (.inl ⟨rfl, Fls.en (by omega) (by omega) ⟨by omega, by omega⟩ (rb_e (k := k) hN hg hb hpr (by omega) hn hs), _, _, _, sk_202 hN (by omega), rfl, rfl⟩)⟩
    have hs : sk b N pr < N := by omega
    have he2 : e = 0 ∨ (e = 2 ∧ ¬ b (sk b N pr) = 93) := he.imp id (fun h => ⟨h.1, h.2 hs⟩)
    by_cases h40 : v = 40
    · subst h40
      refine ⟨_, _, _, rv_n hN hbV hpc hn (.inr rfl) hv, .inr (.inl ⟨rfl, Fls.st (by omega) aF.rf (rb_o (k := k) hN hg hb hpr (by omega) hn hs (by rw [one_val he2, val_40, bd_s, okz_0, gd_T])), _, _, _, sk_202 hN (by omega), rfl, rfl⟩)⟩
    by_cases h91 : b (sk b N pr) = 91
    · exact con (kd := 3) hN hg hc hn h1 (.inl rfl) (fun h => ih (d + 1) (by omega) (by omega)) hsk hpc hpr (by omega) hu hk hbV hb he2 hS hnm htv hs h91
    by_cases h123 : b (sk b N pr) = 123
    · exact con (kd := 4) hN hg hc hn h1 (.inr rfl) (fun h => ih (d + 1) (by omega) (by omega)) hsk hpc hpr (by omega) hu hk hbV hb he2 hS hnm htv hs h123
    exact sca hN hg hc hn h1 hsk hpc hpr (by omega) hu hk hbV hb he2 hS hnm htv hs h91 h123
theorem rd_e (n : Nat) (g : aG) (a : aA) : mM_read n g a = jn (lp (rb n) n (1, 0, rG g 0 0 0 0 0, a)) tl := rfl
/-- a body is read by both, or by neither -/
theorem read_2 {g : aG} {a : aA} {gV : aG} {aV : aA} {b : Nat → Int32} {N n : Nat} (hN : N ≤ 200) (hg : g 6 = nI N) (hc : ∀ i, i < N → chr (b i)) (hn : 500 < n) (hbV : ∀ i, i < N → aV 8 i = b i) (hb : ∀ i, i < N → a 0 i = b i) : ∃ r gV' aV' g' a', mV_read n (nI N) gV aV = some (r, gV', aV') ∧ mM_read n g a = some (r, g', a') ∧ (∃ p v u d e, g' = rG g p v u d e) ∧ aF a a' ∧ (r = 0 ∨ (r = 1 ∧ ∃ v u, gV' 11 = nI v ∧ gV' 12 = nI u ∧ g' 8 = nI v ∧ 1 ≤ v ∧ v ≤ 40 ∧ u ≤ 200 ∧ Sim aV' a' v u ∧ ∃ F, Tr aV' a' F (-1) 0 v 1)) := by
  have e1 : ¬ (200 : Int32) < nI N := nI_nlt (b := N) (a := 200) hN (by omega)
  have e0 : va_up (va_up (va_up (va_up gV 9 (nI N)) 10 0) 11 0) 12 0 = cG gV N 0 0 0 := rfl
  obtain ⟨r, G, A, h1, h2⟩ := rvAll (gV := gV) hN hg hc (show 300 < n by omega) 8 0 (by omega) (by omega) 0 0 0 0 0 0 aV a rfl (by omega) (by omega) (by omega) (by omega) (by omega) (by omega) hbV hb (.inl rfl) ⟨(fun i hi => by omega), (fun i hi => by omega), fun i hi => by omega⟩ (fun h => absurd h topd_n) (fun _ => topd_n)
  have h1 : mV_readValue n 8 0 (cG gV N 0 0 0) aV = some (r, G, A) := h1
  have fl : Fls n 0 g (rG g 0 0 0 0 0) a → ∃ p v u d e a', aF a a' ∧ mM_read n g a = some (0, rG g p v u d e, a') := by
    intro ⟨j, hj, p, v, u, d, e, a', x1, x2⟩
    refine ⟨p, v, u, d, e, a', x1, ?_⟩
    have x3 := x2 (n - j)
    rw [show n - j + j = n by omega] at x3
    rw [rd_e]; exact x3
  rcases h2 with ⟨rfl, qr, v', u', k', a', hG, q1, q2, q3, q4, q5, q6, q7, hR, hS, kV, kM, F, hT⟩ | ⟨rfl, hF, p', v', u', y1, y2, y3⟩ | ⟨rfl, hF, p', v', u', y1, y2, y3, y4⟩
  · subst hG
    have hle := sk_le (b := b) q2
    have hba : ∀ i, i < N → a' 0 i = b i := fun i hi => by rw [kM.2.2.2 0 (.inl rfl)]; exact hb i hi
    by_cases hs : sk b N qr < N
    · obtain ⟨p, v, u, d, e, a2, x1, x2⟩ := fl (hR.fl kM.2.2.2 (Fls.st (by omega) aF.rf (rb_o (k := k') hN hg hba q2 (by omega) (by omega) hs beh0)))
      refine ⟨0, cG gV N (sk b N qr) v' u', A, _, _, ?_, x2, ⟨p, v, u, d, e, rfl⟩, x1, .inl rfl⟩
      · have e2 : ¬ nI (sk b N qr) = nI N := by rw [nI_eq (by omega) (by omega)]; omega
        simp only [mV_read, lt, e1, reduceIte, e0, h1, bd_s, one_ne_zero, cG_10, cG_9, e2]
    · have hse : sk b N qr = N := by omega
      refine ⟨1, cG gV N N v' u', A, rG g N v' u' 0 1, a', ?_, ?_, ⟨_, _, _, _, _, rfl⟩, kM.2.2.2, .inr ⟨rfl, v', u', rfl, rfl, rfl, by omega, q4, by omega, hS, F, ?_⟩⟩
      · rw [hse] at h1
        simp only [mV_read, lt, e1, reduceIte, e0, h1, bd_s, one_ne_zero, cG_10, cG_9]
      · have x3 := hR.2 (n - k')
        rw [show n - k' + (k' - 0) = n by omega] at x3
        rw [rd_e]
        have x4 : lp (rb n) n (1, 0, rG g 0 0 0 0 0, a) = lp (rb n) (n - k') (1, nI k', rG g qr v' u' 0 1, a') := x3
        rw [x4, lp_e (rb_e (k := k') hN hg hba q2 (by omega) (by omega) (by omega)) (by omega), jn_l, hse]
        have e5 : nI 1 = 1 := rfl
        have e6 : nI 0 = 0 := rfl
        show (if nI 1 = 1 then if nI 0 = 0 then some (1, rG g N v' u' 0 1, a') else some (0, rG g N v' u' 0 1, a') else some (0, rG g N v' u' 0 1, a')) = _
        rw [if_pos e5, if_pos e6]
      · rw [topd, if_pos rfl] at hT
        exact hT
  · subst y2
    obtain ⟨p, v, u, d, e, a2, x1, x2⟩ := fl hF
    refine ⟨0, cG gV N p' v' u', A, _, _, ?_, x2, ⟨p, v, u, d, e, rfl⟩, x1, .inl rfl⟩
    simp only [mV_read, lt, e1, reduceIte, e0, h1, bd_s]
  · subst y3
    obtain ⟨p, v, u, d, e, a2, x1, x2⟩ := fl hF
    refine ⟨0, cG gV N p' v' u', A, _, _, ?_, x2, ⟨p, v, u, d, e, rfl⟩, x1, .inl rfl⟩
    have e2 : ¬ nI p' = nI N := by rw [nI_eq (by omega) (by omega)]; omega
    simp only [mV_read, lt, e1, reduceIte, e0, h1, bd_s, one_ne_zero, cG_10, cG_9, e2]
