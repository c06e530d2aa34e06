/-! an object under construction: its int fields 0, its first k arrays made -/
def oFn (ks : List (Option Nat)) (L : Nat → Nat) (k : Nat) : List Value := ks.map (fun q => match q with | none => .int 0 | some j => if j < k then .ref (L j) else .null)
def oN (ci h : Nat) (ks : List (Option Nat)) (sp : List (Nat × Nat)) (tk : Nat → ClassId) (L : Nat → Nat) (rw : va_W) (k : Nat) : va_W := (h, .inr (ci, oFn ks L k)) :: (oA (sp.take k) tk L (fun _ _ => 0) ++ rw)
theorem oFn_set {ks : List (Option Nat)} {L : Nat → Nat} {k fi q : Nat} (hk : ks[fi]? = some (some k)) (hu : ∀ i, ks[i]? = some (some k) → i = fi) : (oFn ks L k).set fi (.ref q) = oFn ks (va_up L k q) (k + 1) := by
  apply List.ext_getElem?
  intro i
  by_cases hi : fi = i
  · subst hi
    have hlt : fi < (oFn ks L k).length := by
      unfold oFn
      rw [List.length_map]
      exact (List.getElem?_eq_some_iff.mp hk).1
    rw [List.getElem?_set_self hlt]
    unfold oFn
    rw [List.getElem?_map, hk]
    simp [va_up]
  · rw [List.getElem?_set_ne hi]
    unfold oFn
    rw [List.getElem?_map, List.getElem?_map]
    cases hj : ks[i]? with
    | none => rfl
    | some x =>
      cases x with
      | none => rfl
      | some j =>
        have hne : j ≠ k := fun e => hi (by subst e; exact (hu i hj).symm)
        simp only [Option.map_some, va_up_ne _ _ hne]
        by_cases h : j < k
        · rw [if_pos h, if_pos (by omega)]
        · rw [if_neg h, if_neg (by omega)]
theorem oA_take {sp : List (Nat × Nat)} {tk : Nat → ClassId} {L : Nat → Nat} {k t n q : Nat} (hs : sp[k]? = some (t, n)) : oA (sp.take (k + 1)) tk (va_up L k q) (fun _ _ => 0) = oA (sp.take k) tk L (fun _ _ => 0) ++ [(q, .inl (tk t, n, .inl (fun _ => 0)))] := by
  have hl : k < sp.length := (List.getElem?_eq_some_iff.mp hs).1
  have hlen : (oA (sp.take k) tk L (fun _ _ => 0)).length = k := by rw [oA_len, List.length_take]; omega
  apply List.ext_getElem?
  intro i
  rcases Nat.lt_trichotomy i k with h | h | h
  · rw [List.getElem?_append_left (by omega)]
    obtain ⟨x, hx⟩ : ∃ x, sp[i]? = some x := ⟨_, List.getElem?_eq_getElem (by omega)⟩
    obtain ⟨a, b⟩ := x
    rw [oA_g (j := i) (t := a) (n := b) (by rw [List.getElem?_take, if_pos (by omega)]; exact hx), oA_g (j := i) (t := a) (n := b) (by rw [List.getElem?_take, if_pos h]; exact hx), va_up_ne _ _ (by omega)]
  · subst h
    rw [List.getElem?_append_right (by omega), hlen, Nat.sub_self, oA_g (j := i) (t := t) (n := n) (by rw [List.getElem?_take, if_pos (by omega)]; exact hs), va_up_self]
    rfl
  · rw [List.getElem?_eq_none (by rw [oA_len, List.length_take]; omega), List.getElem?_eq_none (by rw [List.length_append, hlen]; simp; omega)]
theorem oFn_full {ks : List (Option Nat)} {L : Nat → Nat} {k : Nat} (h : ∀ q ∈ ks, ∀ j, q = some j → j < k) : oFn ks L k = oF ks L (fun _ => 0) := by
  apply List.ext_getElem?
  intro i
  cases hj : ks[i]? with
  | none =>
    have e1 : (oF ks L (fun _ => 0))[i]? = none := List.getElem?_eq_none (by rw [oF_len]; exact List.getElem?_eq_none_iff.mp hj)
    rw [e1]
    unfold oFn
    rw [List.getElem?_map, hj]
    rfl
  | some x =>
    cases x with
    | none =>
      rw [oF_get hj]
      unfold oFn
      rw [List.getElem?_map, hj]
      rfl
    | some j =>
      rw [oF_ref hj]
      unfold oFn
      rw [List.getElem?_map, hj]
      simp only [Option.map_some, if_pos (h _ (List.mem_of_getElem? hj) j rfl)]
theorem oN_full {ci h : Nat} {ks : List (Option Nat)} {sp : List (Nat × Nat)} {tk : Nat → ClassId} {L : Nat → Nat} {rw : va_W} {k : Nat} (hk : ∀ q ∈ ks, ∀ j, q = some j → j < k) (hl : sp.length ≤ k) : oN ci h ks sp tk L rw k = oW ci h ks sp tk L (fun _ => 0) (fun _ _ => 0) rw := by
  unfold oN oW
  rw [oFn_full hk, List.take_of_length_le hl]
section AR
variable {p : Program} {l : Launch} {e : Env} {R : Room} {s : State} {m : MethodId} {args : Array Value} {below : List Frame} {meth : Method} {c : Code} {H : Heap} {locs : List Loc} {cells slots : Nat} {Q : State → Prop}
variable {cc : ByteArray} {pc : Nat} {ls : Array Slot} {rest : List Value} {dC : Nat → ClassId} {dI : Nat → Nat → Nat} {tk : Nat → ClassId} {A : Nat → Prop} {own C : String} {T : u_T} {N index ci h : Nat} {tf : Nat → FieldType} {ks : List (Option Nat)} {sp : List (Nat × Nat)} {L : Nat → Nat} {rw : va_W}
/-- newarray and the store of the array in its final field -/
theorem ro_arr {at_ : ArrayType} {ty : FieldType} {x : Int32} (t n k fi : Nat) (hx : p.tables.exec = Jvm.exec) (hb : c.code = cc) (hown : s.vm.findClass own = some m.cls) (hin : meth.name = "<init>") (hG : ∀ w ∈ gW, w.before args s = true) (hg : Gl dC dI tk A s) (hC : Cls ci C T N tf) (hst : St dC dI A s.heap H locs (oN ci h ks sp tk L rw k)) (hsk : sp[k]? = some (t, n)) (hkf : ks[fi]? = some (some k)) (hu : ∀ i, ks[i]? = some (some k) → i = fi)
    (hat : newarray.typeOf at_ = ty) (hw : Cond.arrayClass (newarray.typeOf at_) ∈ gW) (ht : (tyL tk)[t]? = some (tk t, ty)) (hra : ∀ (U : State) (cA : ClassId), va_RA U cA ty → U.vm.findClass ("[" ++ ty.toString) = some cA) (ha : ∀ cA : ClassId, vp_cell cA (n, .inl (fun _ => 0)) = arrV cA n (fun _ => defaultValue ty)) (hn : ¬ x < 0) (hN : x.toNatClampNeg = n) (hby : n * componentBytes ty ≤ 536870912) (hcells : cells + 1 ≤ R.cells) (hslots : slots + n ≤ R.slots) (hd1 : decode cc pc = .ok (.newarray at_, 2))
    (hk : fi < N) (hT : (T fi).1 = own) (hoC : own = C) (hfin : (T fi).2.2.2 = true) (hnr : ∀ q : Nat, narrow (tf fi) (.ref q) = .ref q) (hfr : ∀ q : Nat, fits (tf fi) (.ref q) = true) (hl : Cond.fieldLink own index C (T fi).2.1 (T fi).2.2.1 ∈ gW) (hd2 : decode cc (pc + 2) = .ok (.putfield index, 3))
    (kk : ∀ (L1 : Nat → Nat) (H1 : Heap) (locs1 : List Loc), St dC dI A s.heap H1 locs1 (oN ci h ks sp tk L1 rw (k + 1)) → W p l e R s m args below meth c H1 locs1 (cells + 1) (slots + n) Q (F0 m (pc + 5) ls rest)) : W p l e R s m args below meth c H locs cells slots Q (F0 m pc ls (.int x :: .ref h :: rest)) := by
  refine ro_newa t n hx hb hG hg hst hat hw ht hra ha hn hN hby hcells hslots hd1 (fun q H1 hst1 => ?_)
  have hst2 : St dC dI A s.heap H1 locs ((h, .inr (ci, oFn ks L k)) :: ((oA (sp.take k) tk L (fun _ _ => 0) ++ rw) ++ [(q, .inl (tk t, n, .inl (fun _ => 0)))])) := hst1
  refine ro_putF hx hb hown hin hG hg hC hst2 fi hk hT hoC hfin (hnr q) (hfr q) (by unfold oFn; rw [List.length_map]; exact (List.getElem?_eq_some_iff.mp hkf).1) hl hd2 (fun H2 locs2 hst3 => ?_)
  refine kk (va_up L k q) H2 locs2 ?_
  unfold oN
  rw [oA_take hsk]
  rw [oFn_set hkf hu] at hst3
  refine hst3.pm (List.Perm.cons _ ?_)
  rw [List.append_assoc, List.append_assoc]
  exact List.Perm.append_left _ List.perm_append_comm
end AR
