/-! stage B: the models as programs on numbers -/
theorem gd_T {α : Type} {x : Option α} : gd true x = x := rfl
theorem bd_s {α β : Type} {a : α} {f : α → Option β} : bd (some a) f = f a := rfl
theorem jn_l {α β : Type} {a : α} {f : α → Option β} : jn (some (.inl a)) f = f a := rfl
theorem jn_r {α β : Type} {b : β} {f : α → Option β} : jn (some (.inr b)) f = some b := rfl
theorem bd_i {α β : Type} {c : Prop} [Decidable c] {x y : Option α} {f : α → Option β} : bd (if c then x else y) f = if c then bd x f else bd y f := by split <;> rfl
theorem jn_i {α β : Type} {c : Prop} [Decidable c] {x y : Option (α ⊕ β)} {f : α → Option β} : jn (if c then x else y) f = if c then jn x f else jn y f := by split <;> rfl
theorem jn_b {α β γ : Type} {x : Option γ} {F : γ → Option (α ⊕ β)} {f : α → Option β} : jn (bd x F) f = bd x (fun q => jn (F q) f) := by cases x <;> rfl
theorem bd_b {α β γ : Type} {x : Option γ} {F : γ → Option α} {f : α → Option β} : bd (bd x F) f = bd x (fun q => bd (F q) f) := by cases x <;> rfl
theorem va_ap {α : Type} (f : Nat → α) (k j : Nat) (v : α) : va_up f k v j = if j = k then v else f j := rfl
theorem upd_ap (f : Nat → Int32) (k j : Nat) (x : Int32) : upd f k x j = if j = k then x else f j := rfl
theorem inb_T {k n : Nat} (h : k < n) (hn : n < 2 ^ 31) : inb (nI k) n = true := inb_n h hn
theorem le_L {a b : Nat} (ha : a < 2 ^ 31) (hb : (OfNat.ofNat b : Nat) < 2 ^ 31) : (nI a ≤ (no_index (OfNat.ofNat b) : Int32)) ↔ a ≤ (OfNat.ofNat b : Nat) := nI_leI ha hb
theorem L_le {a b : Nat} (ha : a < 2 ^ 31) (hb : (OfNat.ofNat b : Nat) < 2 ^ 31) : ((no_index (OfNat.ofNat b) : Int32) ≤ nI a) ↔ (OfNat.ofNat b : Nat) ≤ a := nI_leI hb ha
theorem lt_L {a b : Nat} (ha : a < 2 ^ 31) (hb : (OfNat.ofNat b : Nat) < 2 ^ 31) : (nI a < (no_index (OfNat.ofNat b) : Int32)) ↔ a < (OfNat.ofNat b : Nat) := nI_ltI ha hb
theorem L_lt {a b : Nat} (ha : a < 2 ^ 31) (hb : (OfNat.ofNat b : Nat) < 2 ^ 31) : ((no_index (OfNat.ofNat b) : Int32) < nI a) ↔ (OfNat.ofNat b : Nat) < a := nI_ltI hb ha
theorem eq_L {a b : Nat} (ha : a < 2 ^ 31) (hb : (OfNat.ofNat b : Nat) < 2 ^ 31) : (nI a = (no_index (OfNat.ofNat b) : Int32)) ↔ a = (OfNat.ofNat b : Nat) := nI_eq ha hb
theorem L_eq {a b : Nat} (ha : a < 2 ^ 31) (hb : (OfNat.ofNat b : Nat) < 2 ^ 31) : ((no_index (OfNat.ofNat b) : Int32) = nI a) ↔ (OfNat.ofNat b : Nat) = a := nI_eq hb ha
theorem ad_L {a b : Nat} : nI a + (no_index (OfNat.ofNat b) : Int32) = nI (a + (OfNat.ofNat b : Nat)) := nI_add a b
theorem mu_L {a b : Nat} : (no_index (OfNat.ofNat b) : Int32) * nI a = nI ((OfNat.ofNat b : Nat) * a) := (Int32.ofNat_mul b a).symm
theorem nI_sb {a b : Nat} (h : b ≤ a) : nI a - nI b = nI (a - b) := by
  have h1 : nI a = nI (a - b) + nI b := by rw [nI_add, Nat.sub_add_cancel h]
  rw [h1, Int32.add_sub_cancel]
theorem sb_L {a b : Nat} (h : (OfNat.ofNat b : Nat) ≤ a) : nI a - (no_index (OfNat.ofNat b) : Int32) = nI (a - (OfNat.ofNat b : Nat)) := nI_sb h
theorem nI_cl0 {b : Nat} (h : (OfNat.ofNat b : Nat) < 2 ^ 31) : ((no_index (OfNat.ofNat b) : Int32)).toNatClampNeg = (OfNat.ofNat b : Nat) := nI_clamp h
theorem one_ne_zero : ¬ ((1 : Int32) = 0) := by decide
theorem zero_ne_one : ¬ ((0 : Int32) = 1) := by decide
theorem t_1 {a : Nat} (h : a < 100) : nI a ≤ 200 ∧ ¬ nI a < 0 ∧ (nI a = 7 ↔ a = 7) ∧ (nI a + 5 = nI (a + 5)) ∧ 60 * nI a + 3 = nI (60 * a + 3) ∧ inb (nI a) 100 = true ∧ (3 : Int32).toNatClampNeg = 3 ∧ (nI (a + 5) - 3) = nI (a + 2) := by
  simp (disch := omega) only [le_L, L_le, lt_L, L_lt, eq_L, L_eq, ad_L, nI_add, nI_sb, sb_L, mu_L, nI_leI, nI_ltI, nI_eq, nI_clamp, inb_T, nI_cl0, lt, jn_b, bd_b, bd_s, bd_i, jn_l, jn_r, jn_i, gd_T, va_ap, upd_ap, reduceIte, Nat.reduceEqDiff, Nat.reduceAdd, Nat.reduceSub, Nat.reduceMul, Nat.reduceLT, Nat.reduceLeDiff, reduceCtorEq, Int32.reduceLT, Int32.reduceLE, one_ne_zero, zero_ne_one, not_true_eq_false, not_false_eq_true, true_and, and_true, if_true, if_false, ite_self, Nat.add_zero, Nat.zero_add]
  omega
/-! ranges -/
def chr (x : Int32) : Prop := ∃ c : Nat, 1 ≤ c ∧ c < 128 ∧ x = nI c
def rg (x : Int32) : Prop := ∃ (b : Bool) (w : Nat), w < 10 ^ 6 ∧ (b = true → 1 ≤ w) ∧ x = sg b w
def bol (x : Int32) : Prop := x = 0 ∨ x = 1
/-- a text of N letters: the class's row and the reference's at off -/
def txR (gT : aG) (aT : aA) (f : Nat → Int32) (off : Nat) (sz : Int32) : Prop := ∃ N : Nat, N ≤ 60 ∧ gT 1 = nI N ∧ sz = nI N ∧ ∀ i, i < N → aT 0 i = f (off + i) ∧ chr (aT 0 i)
def IvA (gN : aG) (aN : aA) (g : aG) (a : aA) : Prop := ∃ kn : Nat, kn ≤ 60 ∧ gN 5 = nI kn ∧ g 38 = nI kn ∧ ∀ k, k < kn → aN 0 k = a 22 k ∧ aN 1 k = a 23 k ∧ aN 2 k = a 24 k ∧ aN 3 k = a 25 k ∧ rg (a 22 k) ∧ bol (a 23 k) ∧ bol (a 24 k) ∧ rg (a 25 k)
def docR (r : aDS) (a : aA) (d : Nat) : Prop := (∃ T : Nat, 1 ≤ T ∧ T ≤ 4 ∧ r.2.1 2 = nI T ∧ a 10 d = nI T ∧ ∀ i, i < T → r.2.2.1 0 i = a 11 (4 * d + i) ∧ chr (r.2.2.1 0 i)) ∧ r.2.1 3 = a 12 d ∧ txR r.2.2.2.1 r.2.2.2.2 (a 14) (60 * d) (a 13 d)
def IvD (gS : aG) (dP : aP) (g : aG) (a : aA) : Prop := ∃ nd : Nat, nd ≤ 3 ∧ gS 2 = nI nd ∧ g 22 = nI nd ∧ (∀ d, d < 3 → ∃ N : Nat, N ≤ 60 ∧ (dP d).2.2.2.1 1 = nI N) ∧ ∀ d, d < nd → docR (dP d) a d
def askR (r : aDS) (a : aA) (w : Nat) : Prop := r.2.1 1 = a 16 w ∧ rg (a 16 w) ∧ (∃ kd : Nat, kd ≤ 3 ∧ r.2.1 2 = nI kd ∧ a 17 w = nI kd ∧ (kd = 1 → r.2.1 3 = a 18 w) ∧ (kd = 2 → r.2.1 4 = a 18 w ∧ r.2.1 5 = a 19 w)) ∧ txR r.2.2.2.1 r.2.2.2.2 (a 21) (60 * w) (a 20 w)
def IvQ (gQ : aG) (dO : aP) (g : aG) (a : aA) : Prop := ∃ nw : Nat, nw ≤ 8 ∧ gQ 1 = nI nw ∧ g 31 = nI nw ∧ ∀ w, w < nw → askR (dO w) a w
def hdR (gJ : aG) (g : aG) : Prop := gJ 1 = 0 ∧ ∃ dg sz : Nat, dg ≤ 3 ∧ sz < 10 ^ dg ∧ gJ 3 = nI dg ∧ g 3 = nI dg ∧ gJ 4 = nI sz ∧ g 4 = nI sz ∧ gJ 5 = 0 ∧ g 5 = 0
def bdR (gJ : aG) (aV : aA) (g : aG) (a : aA) : Prop := gJ 1 = 1 ∧ ∃ A F : Nat, F < A ∧ A ≤ 200 ∧ gJ 4 = nI A ∧ gJ 5 = nI F ∧ g 5 = nI (A - F) ∧ g 6 = nI F ∧ g 3 = 0 ∧ g 4 = 0 ∧ ∀ i, i < F → aV 8 i = a 0 i ∧ chr (a 0 i)
def IvF (gE gJ : aG) (aV : aA) (g : aG) (a : aA) : Prop := ∃ st : Nat, st ≤ 4 ∧ gE 5 = nI st ∧ g 0 = nI st ∧ gE 6 = (if st = 3 then g 1 else -1) ∧ gE 7 = g 2 ∧ gE 8 = g 30 ∧ (st < 3 → gJ 2 = 0 ∧ (hdR gJ g ∨ bdR gJ aV g a))
def Inv : aI := fun gE gJ _ aV gN aN gS _ _ dP gQ dO g a => IvF gE gJ aV g a ∧ IvA gN aN g a ∧ IvD gS dP g a ∧ IvQ gQ dO g a
theorem Inv_0 (adP adO : Nat → aAd) : Inv gE0 (fun _ => 0) (fun _ => 0) (fun _ _ => 0) (fun _ => 0) (fun _ _ => 0) (fun _ => 0) (fun _ => 0) (fun _ _ => 0) (zD adP) (fun _ => 0) (zD adO) (fun _ => 0) (fun _ _ => 0) := by
  refine ⟨⟨0, by omega, rfl, rfl, rfl, rfl, rfl, fun _ => ⟨rfl, .inl ⟨rfl, 0, 0, by omega, by omega, rfl, rfl, rfl, rfl, rfl, rfl⟩⟩⟩, ⟨0, by omega, rfl, rfl, fun k h => by omega⟩, ⟨0, by omega, rfl, rfl, fun d _ => ⟨0, by omega, rfl⟩, fun d h => by omega⟩, ⟨0, by omega, rfl, rfl, fun d h => by omega⟩⟩
/-- the code field alone: the invariant does not see it -/
theorem Inv_c {gE gJ gV : aG} {aV : aA} {gN : aG} {aN : aA} {gS gZ : aG} {aZ : aA} {dP : aP} {gQ : aG} {dO : aP} {g : aG} {a : aA} (h : Inv gE gJ gV aV gN aN gS gZ aZ dP gQ dO g a) (x : Int32) : Inv gE gJ gV aV gN aN gS gZ aZ dP gQ dO (va_up g 45 x) a := h
theorem L_0 {gE gJ gV : aG} {aV : aA} {gN : aG} {aN : aA} {gS gZ : aG} {aZ : aA} {dP : aP} {gQ : aG} {dO : aP} {g : aG} {a : aA} (h : Inv gE gJ gV aV gN aN gS gZ aZ dP gQ dO g a) : L_state Inv gE gJ gV aV gN aN gS gZ aZ dP gQ dO g a ∧ L_code Inv gE gJ gV aV gN aN gS gZ aZ dP gQ dO g a ∧ L_waiting Inv gE gJ gV aV gN aN gS gZ aZ dP gQ dO g a ∧ L_responses Inv gE gJ gV aV gN aN gS gZ aZ dP gQ dO g a ∧ L_ignored Inv gE gJ gV aV gN aN gS gZ aZ dP gQ dO g a ∧ L_documents Inv gE gJ gV aV gN aN gS gZ aZ dP gQ dO g a := by
  have h9 := h
  obtain ⟨⟨st, hs, h1, h2, h3, h4, h5, -⟩, ⟨kn, -, k1, k2, -⟩, ⟨nd, -, d1, d2, -, -⟩, ⟨nw, -, w1, w2, -⟩⟩ := h
  refine ⟨⟨0, 0, _, _, rfl, ?_, Inv_c h9 0⟩, ⟨0, 0, _, _, rfl, ?_, Inv_c h9 0⟩, ⟨0, 0, _, _, rfl, ?_, Inv_c h9 0⟩, ⟨0, 0, _, _, rfl, ?_, Inv_c h9 0⟩, ⟨0, 0, _, _, rfl, ?_, Inv_c h9 0⟩, ⟨0, 0, _, _, rfl, ?_, Inv_c h9 0⟩⟩
  · simp [mM_state, lt, va_ap, h1, h2]
  · have e : (nI st = 3) ↔ st = 3 := nI_eq (b := 3) (by omega) (by omega)
    simp only [mM_code, lt, va_ap, h3, h2, reduceIte, Nat.reduceEqDiff, e]
    split <;> simp_all [va_ap]
  · simp [mM_waiting, lt, va_ap, w1, w2]
  · simp [mM_responses, lt, va_ap, k1, k2]
  · simp [mM_ignored, lt, va_ap, h5]
  · simp [mM_documents, lt, va_ap, d1, d2]
