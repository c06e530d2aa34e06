/-! words of the tables that stay, and nest words -/
def gW : List Cond := lw_tbl.filter goodWord
theorem gW_in {w : Cond} (h : w ∈ lw_tbl) (hg : goodWord w = true) : w ∈ gW := List.mem_filter.mpr ⟨h, hg⟩
theorem gW_t {w : Cond} (h : w ∈ tables_1) (hg : goodWord w = true) : w ∈ gW := gW_in (List.mem_append_right _ (List.mem_append_left _ h)) hg
theorem gW_s {w : Cond} (h : w ∈ lw_sb) (hg : goodWord w = true) : w ∈ gW := gW_in (List.mem_append_right _ (List.mem_append_right _ h)) hg
theorem gW_p {w : Cond} (h : w ∈ k2_sels lw_privs) (hg : goodWord w = true) : w ∈ gW := gW_in (List.mem_append_left _ h) hg
theorem gW_g {ws : List Cond} (h : ∀ w ∈ ws, w ∈ gW) : GoodIn gW ws := fun w hw => ⟨h w hw, good_of_word (List.mem_filter.mp (h w hw)).2⟩
def nWd : Cond → Bool
  | .fieldLinkNest _ _ _ _ _ _ => true
  | .methodLinkNest _ _ _ _ => true
  | _ => false
def NW (U : State) : Prop := ∀ w ∈ tables_1, nWd w = true → va_Nw w U
theorem NW.warm {s U : State} (h : NW s) (hW : s.WarmedH U.vm) : NW U := by
  intro w hw hn
  have h1 := h w hw hn
  cases w <;> first | (simp [nWd] at hn; done) | exact va_Nw.warmF hW h1 | exact va_Nw.warmM hW h1
theorem NW.same {s U : State} (h : NW s) (e : s.vm = U.vm) : NW U := by
  intro w hw hn
  have h1 := h w hw hn
  cases w <;> first | (simp [nWd] at hn; done) | exact va_Nw.same rfl e h1
/-! models: what a walk of a method asks of numbers, as a program without a heap -/
def inb (i : Int32) (n : Nat) : Bool := decide (¬ (i < 0 ∨ n ≤ i.toNatClampNeg))
theorem inb_in {i : Int32} {n : Nat} (h : inb i n = true) : vp_in i n := by
  unfold vp_in
  exact of_decide_eq_true h
def okz (x : Int32) : Bool := decide (x = 0 ∨ x = 1)
theorem okz_n {x : Int32} (h : okz x = true) : narrow .boolean (.int x) = .int x ∧ fits .boolean (.int x) = true := by
  rcases of_decide_eq_true h with rfl | rfl <;> decide +kernel
def okc (x : Int32) : Bool := decide (0 ≤ x ∧ x ≤ 65535)
theorem okc_n {x : Int32} (h : okc x = true) : narrow .char (.int x) = .int x ∧ fits .char (.int x) = true := by
  obtain ⟨h1, h2⟩ := of_decide_eq_true h
  obtain ⟨j, hj, rfl⟩ := nI_of (x := x) (Int32.not_lt.mpr h1)
  refine pk_charN ?_
  have h3 : (nI j).toInt ≤ (65535 : Int32).toInt := Int32.le_iff_toInt_le.mp h2
  rw [nI_toInt hj] at h3
  have h4 : (65535 : Int32).toInt = 65535 := by decide
  omega
def gd {α : Type} (b : Bool) (x : Option α) : Option α := if b = true then x else none
theorem gd_u {α : Type} {b : Bool} {x : Option α} {o : α} (h : gd b x = some o) : b = true ∧ x = some o := by
  unfold gd at h
  split at h
  · exact ⟨by assumption, h⟩
  · cases h
def lt {α β : Type} (a : α) (f : α → β) : β := f a
theorem lt_u {α β : Type} {a : α} {f : α → Option β} {o : β} (h : lt a f = some o) (b : α) (e : b = a) : f b = some o := by
  subst e
  exact h
theorem it_t {α : Type} {c : Prop} [Decidable c] {a b : Option α} {o : α} (h : (if c then a else b) = some o) (hc : c) : a = some o := by
  rw [if_pos hc] at h
  exact h
theorem it_f {α : Type} {c : Prop} [Decidable c] {a b : Option α} {o : α} (h : (if c then a else b) = some o) (hc : ¬ c) : b = some o := by
  rw [if_neg hc] at h
  exact h
def bd {α β : Type} (x : Option α) (f : α → Option β) : Option β := match x with
  | none => none
  | some a => f a
theorem bd_u {α β : Type} {x : Option α} {f : α → Option β} {o : β} (h : bd x f = some o) : ∃ a, x = some a ∧ f a = some o := by
  cases x with
  | none => cases h
  | some a => exact ⟨a, rfl, h⟩
def jn {α β : Type} (x : Option (α ⊕ β)) (f : α → Option β) : Option β := match x with
  | none => none
  | some (.inl a) => f a
  | some (.inr b) => some b
theorem jn_u {α β : Type} {x : Option (α ⊕ β)} {f : α → Option β} {o : β} (h : jn x f = some o) : ∃ q, x = some q ∧ (∀ a, q = .inl a → f a = some o) ∧ (∀ b, q = .inr b → b = o) := by
  cases x with
  | none => cases h
  | some q =>
    refine ⟨q, rfl, fun a e => ?_, fun b e => ?_⟩
    · subst e; exact h
    · subst e; exact Option.some.inj h
def rz {α β : Type} (x : Option β) : Option (α ⊕ β) := match x with
  | none => none
  | some b => some (.inr b)
theorem rz_u {α β : Type} {x : Option β} {q : α ⊕ β} (h : rz x = some q) : ∃ b, x = some b ∧ q = .inr b := by
  cases x with
  | none => cases h
  | some b => exact ⟨b, rfl, (Option.some.inj h).symm⟩
/-! the world of an object whose fields are ints (none) and arrays of its own (some j) -/
abbrev aG : Type := Nat → Int32
abbrev aA : Type := Nat → Nat → Int32
def oF (ks : List (Option Nat)) (L : Nat → Nat) (g : aG) : List Value := ks.zipIdx.map (fun q => match q.1 with | none => .int (g q.2) | some j => .ref (L j))
def oA (sp : List (Nat × Nat)) (tk : Nat → ClassId) (L : Nat → Nat) (ar : aA) : va_W := sp.zipIdx.map (fun q => (L q.2, .inl (tk q.1.1, q.1.2, .inl (ar q.2))))
def oW (ci h : Nat) (ks : List (Option Nat)) (sp : List (Nat × Nat)) (tk : Nat → ClassId) (L : Nat → Nat) (g : aG) (ar : aA) (rw : va_W) : va_W := (h, .inr (ci, oF ks L g)) :: (oA sp tk L ar ++ rw)
theorem oF_len {ks : List (Option Nat)} {L : Nat → Nat} {g : aG} : (oF ks L g).length = ks.length := by simp [oF]
theorem oF_get {ks : List (Option Nat)} {L : Nat → Nat} {g : aG} {k : Nat} (h : ks[k]? = some none) : (oF ks L g)[k]? = some (.int (g k)) := by
  simp [oF, List.getElem?_map, List.getElem?_zipIdx, h]
theorem oF_ref {ks : List (Option Nat)} {L : Nat → Nat} {g : aG} {k j : Nat} (h : ks[k]? = some (some j)) : (oF ks L g)[k]? = some (.ref (L j)) := by
  simp [oF, List.getElem?_map, List.getElem?_zipIdx, h]
theorem oF_set {ks : List (Option Nat)} {L : Nat → Nat} {g : aG} {k : Nat} {x : Int32} (h : ks[k]? = some none) : (oF ks L g).set k (.int x) = oF ks L (va_up g k x) := by
  apply List.ext_getElem?
  intro i
  by_cases hi : k = i
  · subst hi
    rw [oF_get h, va_up_self, List.getElem?_set_self (by rw [oF_len]; exact (List.getElem?_eq_some_iff.mp h).1)]
  · rw [List.getElem?_set_ne hi]
    cases hk : ks[i]? with
    | none =>
      rw [List.getElem?_eq_none (by rw [oF_len]; exact List.getElem?_eq_none_iff.mp hk), List.getElem?_eq_none (by rw [oF_len]; exact List.getElem?_eq_none_iff.mp hk)]
    | some q =>
      cases q with
      | none => rw [oF_get hk, oF_get hk, va_up_ne _ _ (Ne.symm hi)]
      | some j => rw [oF_ref hk, oF_ref hk]
theorem oA_len {sp : List (Nat × Nat)} {tk : Nat → ClassId} {L : Nat → Nat} {ar : aA} : (oA sp tk L ar).length = sp.length := by simp [oA]
theorem oA_g {sp : List (Nat × Nat)} {tk : Nat → ClassId} {L : Nat → Nat} {ar : aA} {j t n : Nat} (h : sp[j]? = some (t, n)) : (oA sp tk L ar)[j]? = some (L j, .inl (tk t, n, .inl (ar j))) := by
  simp [oA, List.getElem?_map, List.getElem?_zipIdx, h]
theorem oA_s {sp : List (Nat × Nat)} {tk : Nat → ClassId} {L : Nat → Nat} {ar : aA} {j t n : Nat} {f : Nat → Int32} (h : sp[j]? = some (t, n)) : (oA sp tk L ar).set j (L j, .inl (tk t, n, .inl f)) = oA sp tk L (va_up ar j f) := by
  apply List.ext_getElem?
  intro i
  by_cases hi : j = i
  · subst hi
    rw [oA_g h, va_up_self, List.getElem?_set_self (by rw [oA_len]; exact (List.getElem?_eq_some_iff.mp h).1)]
  · rw [List.getElem?_set_ne hi]
    cases hk : sp[i]? with
    | none =>
      rw [List.getElem?_eq_none (by rw [oA_len]; exact List.getElem?_eq_none_iff.mp hk), List.getElem?_eq_none (by rw [oA_len]; exact List.getElem?_eq_none_iff.mp hk)]
    | some q => rw [oA_g hk, oA_g hk, va_up_ne _ _ (Ne.symm hi)]
section OW
variable {ci h : Nat} {ks : List (Option Nat)} {sp : List (Nat × Nat)} {tk : Nat → ClassId} {L : Nat → Nat} {g : aG} {ar : aA} {rw : va_W}
theorem oW_0 : (oW ci h ks sp tk L g ar rw)[0]? = some (h, .inr (ci, oF ks L g)) := rfl
theorem oW_g {j t n : Nat} (hs : sp[j]? = some (t, n)) : (oW ci h ks sp tk L g ar rw)[j + 1]? = some (L j, .inl (tk t, n, .inl (ar j))) := by
  show (oA sp tk L ar ++ rw)[j]? = _
  rw [List.getElem?_append_left (by rw [oA_len]; exact (List.getElem?_eq_some_iff.mp hs).1)]
  exact oA_g hs
theorem oW_s0 {k : Nat} {x : Int32} (hk : ks[k]? = some none) : (oW ci h ks sp tk L g ar rw).set 0 (h, .inr (ci, (oF ks L g).set k (.int x))) = oW ci h ks sp tk L (va_up g k x) ar rw := by
  rw [oF_set hk]
  rfl
theorem oW_s {j t n : Nat} {f : Nat → Int32} (hs : sp[j]? = some (t, n)) : (oW ci h ks sp tk L g ar rw).set (j + 1) (L j, .inl (tk t, n, .inl f)) = oW ci h ks sp tk L g (va_up ar j f) rw := by
  show (h, _) :: (oA sp tk L ar ++ rw).set j _ = _
  rw [List.set_append_left _ _ (by rw [oA_len]; exact (List.getElem?_eq_some_iff.mp hs).1), oA_s hs]
  rfl
end OW
