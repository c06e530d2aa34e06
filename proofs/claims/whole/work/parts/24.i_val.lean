/-! a value on both sides -/
def dsp (n k : Nat) (v1 : Int32) (g1 g6 : aG) (a8 : aA) (x10 : Int32) : Option ((Int32 × aG × aA) ⊕ (Int32 × aG × aA)) := (if x10 = 34 then (bd (mV_readString n (g1 11) g6 a8) (fun q76 => some (.inl (q76.1, q76.2.1, q76.2.2)))) else (if x10 = 91 then (gd (inb (g1 11) 40) (lt (va_up a8 0 (upd (a8 0) (g1 11).toNatClampNeg 3)) (fun a66 => bd (mV_readParts n (mV_readValue n k) (g1 11) 93 (v1 + 1) g6 a66) (fun q71 => some (.inl (q71.1, q71.2.1, q71.2.2)))))) else (if x10 = 123 then (gd (inb (g1 11) 40) (lt (va_up a8 0 (upd (a8 0) (g1 11).toNatClampNeg 4)) (fun a59 => bd (mV_readParts n (mV_readValue n k) (g1 11) 125 (v1 + 1) g6 a59) (fun q64 => some (.inl (q64.1, q64.2.1, q64.2.2)))))) else (jn (α := aG × aA) (if x10 = 45 then (some (.inl (g6, a8))) else (bd (mE_isDigit n x10) (fun x37 => if x37 = 0 then (gd (inb (g1 11) 40) (lt (va_up a8 0 (upd (a8 0) (g1 11).toNatClampNeg 0)) (fun a42 => bd (mV_readWord n 0 g6 a42) (fun q46 => if q46.1 = 0 then (bd (mV_readWord n 1 q46.2 a42) (fun q51 => if q51.1 = 0 then (bd (mV_readWord n 2 q51.2 a42) (fun q56 => if q56.1 = 0 then (some (.inr (.inl (0, q56.2, a42)))) else (some (.inr (.inl (1, q56.2, a42)))))) else (some (.inr (.inl (1, q51.2, a42)))))) else (some (.inr (.inl (1, q46.2, a42)))))))) else (some (.inl (g6, a8)))))) (fun q30 => bd (mV_readNumber n (g1 11) q30.1 q30.2) (fun q35 => some (.inl (q35.1, q35.2.1, q35.2.2))))))))
theorem rv_e (n k : Nat) (v1 : Int32) (gV : aG) (aV : aA) : mV_readValue n (k + 1) v1 gV aV = bd (mV_skipBlanks n gV aV) (fun g1 => if 40 ≤ (g1 11) then (some ((0, g1, aV))) else (if (g1 10) < (g1 9) then (lt (va_up g1 11 ((g1 11) + 1)) (fun g6 => gd (inb (g1 11) 40) (lt (va_up aV 3 (upd (aV 3) (g1 11).toNatClampNeg 0)) (fun a8 => gd (inb (g6 10) 200) (lt (a8 8 (g6 10).toNatClampNeg) (fun x10 => jn (α := Int32 × aG × aA) (dsp n k v1 g1 g6 a8 x10) (fun q16 => gd (inb (g1 11) 40) (lt (va_up q16.2.2 4 (upd (q16.2.2 4) (g1 11).toNatClampNeg (q16.2.1 11))) (fun a18 => bd (mV_skipBlanks n q16.2.1 a18) (fun g19 => gd (okz q16.1) (some ((q16.1, g19, a18))))))))))))) else (some ((0, g1, aV))))) := rfl
def topd (d : Nat) (a : aA) : Int32 := if d = 0 then -1 else a 9 (d - 1)
/-- from the first character to the end of readValue -/
theorem rv_f {gV : aG} {aV : aA} {b : Nat → Int32} {N p v u n k D w u' q : Nat} {r : Int32} {aX : aA} (hN : N ≤ 200) (hb : ∀ i, i < N → aV 8 i = b i) (hp : p ≤ N) (hn : 300 < n) (hs : sk b N p < N) (hv : v < 40) (hq : q ≤ 202) (hr : okz r = true) (hX : aX 8 = aV 8) (h : dsp n k (nI D) (cG gV N (sk b N p) v u) (cG gV N (sk b N p) (v + 1) u) (va_up aV 3 (upd (aV 3) v 0)) (b (sk b N p)) = some (.inl (r, cG gV N q w u', aX))) : mV_readValue n (k + 1) (nI D) (cG gV N p v u) aV = some (r, cG gV N (sk b N q) w u', va_up aX 4 (upd (aX 4) v (nI w))) := by
  have e1 : ¬ (40 : Int32) ≤ nI v := nI_ge (b := 40) hv (by omega)
  have e2 : nI (sk b N p) < nI N := nI_lt hs (by omega)
  have e3 : inb (nI v) 40 = true := inb_T hv (by omega)
  have e4 : inb (nI (sk b N p)) 200 = true := inb_T (by omega) (by omega)
  have e5 : (nI v).toNatClampNeg = v := nI_clamp (by omega)
  have e6 : (nI (sk b N p)).toNatClampNeg = sk b N p := nI_clamp (by omega)
  have e7 : aV 8 (sk b N p) = b (sk b N p) := hb _ hs
  have e8 : (va_up aV 3 (upd (aV 3) v 0)) 8 = aV 8 := va_up_ne _ _ (by omega)
  have e9 := sbV9 (b := b) (gV := gV) (aV := va_up aX 4 (upd (aX 4) v (nI w))) (v := w) (u := u') (n := n) hN (fun i hi => by rw [va_up_ne _ _ (by omega), hX]; exact hb i hi) hq (by omega)
  rw [rv_e, sbV hN hb hp (by omega)]
  simp only [bd_s, cG_11, cG_10, cG_9, e1, e2, e3, e4, e5, e6, e7, e8, ad_L, cG_u11, lt, gd_T, reduceIte, h, jn_l, e9, hr]
theorem rv_n {gV : aG} {aV : aA} {b : Nat → Int32} {N p v u n k D : Nat} (hN : N ≤ 200) (hb : ∀ i, i < N → aV 8 i = b i) (hp : p ≤ N) (hn : 300 < n) (hs : N ≤ sk b N p ∨ v = 40) (hv : v ≤ 40) : mV_readValue n (k + 1) (nI D) (cG gV N p v u) aV = some (0, cG gV N (sk b N p) v u, aV) := by
  rw [rv_e, sbV hN hb hp (by omega)]
  by_cases h40 : v = 40
  · subst h40
    have e1 : (40 : Int32) ≤ nI 40 := Int32.le_refl _
    simp only [bd_s, cG_11, e1, reduceIte]
  · have e1 : ¬ (40 : Int32) ≤ nI v := nI_ge (b := 40) (by omega) (by omega)
    have e2 : ¬ nI (sk b N p) < nI N := nI_nlt (by omega) (by have := sk_le (b := b) hp; omega)
    simp only [bd_s, cG_11, cG_10, cG_9, e1, e2, reduceIte]
/-- what one value leaves: read alike; refused by both; or a digit behind it, and refused by the reference -/
def VOK (n : Nat) (g : aG) (b : Nat → Int32) (N : Nat) (gV : aG) (d e pr v u k : Nat) (aV a : aA) (gV' : aG) (aV' : aA) : Prop := ∃ qr v' u' k' a', gV' = cG gV N (sk b N qr) v' u' ∧ pr < qr ∧ qr ≤ N ∧ v < v' ∧ v' ≤ 40 ∧ u ≤ u' ∧ u' ≤ qr ∧ k' ≤ qr ∧ Runs n k (rG g pr v u d e) a k' (rG g qr v' u' d 1) a' ∧ Sim aV' a' v' u' ∧ kpV aV aV' v u ∧ kpM a a' v u d ∧ ∃ F, Tr aV' a' F (topd d a) v v' 1
def VNO (n : Nat) (g : aG) (N : Nat) (gV : aG) (d e pr v u k : Nat) (aV a : aA) (gV' : aG) (aV' : aA) : Prop := Fls n k g (rG g pr v u d e) a ∧ ∃ p' v' u', p' ≤ 202 ∧ gV' = cG gV N p' v' u' ∧ aV' 8 = aV 8
def VDG (n : Nat) (g : aG) (b : Nat → Int32) (N : Nat) (gV : aG) (d e pr v u k : Nat) (aV a : aA) (gV' : aG) (aV' : aA) : Prop := Fls n k g (rG g pr v u d e) a ∧ ∃ p' v' u', p' < N ∧ dgt (b p') ∧ gV' = cG gV N p' v' u' ∧ aV' 8 = aV 8
def RVs (n : Nat) (g : aG) (b : Nat → Int32) (N : Nat) (gV : aG) (rv : Int32 → aG → aA → Option (Int32 × aG × aA)) (d : Nat) : Prop := ∀ (e pc pr v u k : Nat) (aV a : aA), sk b N pc = sk b N pr → pc ≤ N → pr ≤ N → v ≤ 40 → u ≤ pr → u ≤ pc → k ≤ pr → (∀ i, i < N → aV 8 i = b i) → (∀ i, i < N → a 0 i = b i) → (e = 0 ∨ (e = 2 ∧ (sk b N pr < N → ¬ b (sk b N pr) = 93))) → Sim aV a v u → (topd d a = 0 → a 1 0 = 4 → nmR aV a u v) → (v = 0 → ¬ topd d a = 0) → ∃ r gV' aV', rv (nI d) (cG gV N pc v u) aV = some (r, gV', aV') ∧ ((r = 1 ∧ VOK n g b N gV d e pr v u k aV a gV' aV') ∨ (r = 0 ∧ VNO n g N gV d e pr v u k aV a gV' aV') ∨ (r = 1 ∧ VDG n g b N gV d e pr v u k aV a gV' aV'))
/-- a value without parts is in place on both sides -/
theorem leaf_S {aV aX a a' : aA} {v u u' : Nat} {t : Int32} (hS : Sim aV a v u) (hu : u ≤ u') (k1 : kpV aV aX v u) (k2 : kpM a a' v u 0) (n1 : aX 5 v = aV 5 v ∧ aX 6 v = aV 6 v) (n2 : a' 6 v = a 6 v ∧ a' 7 v = a 7 v) (h5 : a' 5 v = t) (hn : t = 0 → a 1 0 = 4 → nmR aV a u v) (ht : v = 0 → ¬ t = 0) (hv : vR aX a' u' v) (h03 : ¬ aX 0 v = 3) (h04 : ¬ aX 0 v = 4) (hl : ∀ i, i < u' → aX 7 i = a' 8 i ∧ chr (a' 8 i)) : Sim (va_up aX 4 (upd (aX 4) v (nI (v + 1)))) a' (v + 1) u' ∧ Tr (va_up aX 4 (upd (aX 4) v (nI (v + 1)))) a' 1 t v (v + 1) 1 := by
  obtain ⟨s1, s2, s3⟩ := hS
  refine ⟨⟨fun i hi => ?_, fun i hi h1 h2 => ?_, hl⟩, .inr ⟨v + 1, 0, rfl, by omega, h5, ?_, .inr ⟨h03, h04, rfl⟩, rfl, rfl⟩⟩
  · by_cases h : i = v
    · subst h; exact hv
    · exact (s1 i (by omega)).mv hu ⟨k1.1 0 (by omega) i (by omega), k1.1 1 (by omega) i (by omega), k1.1 2 (by omega) i (by omega), fun _ => k1.1 3 (by omega) i (by omega)⟩ ⟨k2.1 1 (by omega) (by omega) i (by omega), k2.1 2 (by omega) (by omega) i (by omega), k2.1 3 (by omega) (by omega) i (by omega), k2.1 4 (by omega) (by omega) i (by omega)⟩
  · by_cases h : i = v
    · subst h
      rw [h5] at h1
      have h0 : 0 < i := by
        rcases Nat.eq_zero_or_pos i with h0 | h0
        · exact absurd h1 (ht h0)
        · exact h0
      rw [k2.1 1 (by omega) (by omega) 0 h0] at h2
      exact (hn h1 h2).mv hu n1 n2
    · rw [k2.1 5 (by omega) (by omega) i (by omega)] at h1
      rw [k2.1 1 (by omega) (by omega) 0 (by omega)] at h2
      exact (s2 i (by omega) h1 h2).mv hu ⟨k1.1 5 (by omega) i (by omega), k1.1 6 (by omega) i (by omega)⟩ ⟨k2.1 6 (by omega) (by omega) i (by omega), k2.1 7 (by omega) (by omega) i (by omega)⟩
  · rw [va_up_self, upd_ap, if_pos rfl]
/-! the reference's values -/
theorem val_40 {g : aG} {a : aA} {p u d e n : Nat} {c : Int32} : mM_value n c (rG g p 40 u d e) a = some (0, rG g p 40 u d e, a) := by
  have e1 : nI 40 = 40 := rfl
  rw [mM_value, rG_8, if_pos e1]
theorem val_t {g : aG} {a : aA} {p v u d e : Nat} (hd : d ≤ 6) (β : Type) : (if (rG g p v u d e 19) = 0 then (some (.inl (-1)) : Option (Int32 ⊕ β)) else gd (inb ((rG g p v u d e 19) - 1) 7) (lt (a 9 ((rG g p v u d e 19) - 1).toNatClampNeg) (fun x77 => some (.inl x77)))) = some (.inl (topd d a)) := by
  rw [rG_19]
  by_cases h : d = 0
  · subst h
    have e1 : nI 0 = 0 := rfl
    rw [if_pos e1]; rfl
  · rw [if_neg (nI_ne0 (by omega) (by omega)), show nI d - 1 = nI (d - 1) from sb_L (by omega), inb_T (by omega) (by omega), nI_clamp (by omega), gd_T, topd, if_neg h]; rfl
