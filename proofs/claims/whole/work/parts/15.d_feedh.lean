abbrev spV8 : List (Nat × Nat) := [(0, 40), (0, 40), (0, 40), (0, 40), (0, 40), (0, 40), (0, 40), (1, 200)]
theorem va_upE {f : aA} {k : Nat} : va_up f k (f k) = f := by
  funext j
  unfold va_up
  split
  · rename_i h; rw [h]
  · rfl
section FV
variable {dC : Nat → ClassId} {dI : Nat → Nat → Nat} {tk : Nat → ClassId} {A : Nat → Prop} {H0 H : Heap} {locs : List Loc} {rw : va_W} {h1 h2 : Nat} {L1 L2 : Nat → Nat} {g1 g2 : aG} {a1 a2 aF : aA}
theorem fv_perm {j v b : Nat × va_E} {Z r : va_W} : (j :: (v :: ((Z ++ [b]) ++ r))).Perm (j :: (b :: (v :: (Z ++ r)))) := by
  refine List.Perm.cons j ?_
  rw [List.append_assoc]
  refine ((List.perm_middle (l₁ := v :: Z) (l₂ := r) (a := b))).trans ?_
  exact List.Perm.refl _
/-- the body's array goes from the values' part to the frame's -/
theorem fv_in (hs : L2 8 = L1 0) (h : St dC dI A H0 H locs (oW 2 h1 ksJ spJ tk L1 g1 a1 (oW 3 h2 ksV spV tk L2 g2 a2 rw))) : St dC dI A H0 H locs (oW 2 h1 ksF spF tk L1 g1 (fun _ => a2 8) (oW 3 h2 ksV spV8 tk L2 g2 a2 rw)) := by
  have h3 : St dC dI A H0 H locs ((h1, .inr (2, oF ksF L1 g1)) :: ((h2, .inr (3, oF ksV L2 g2)) :: ((oA spV8 tk L2 a2 ++ [(L2 8, .inl (tk 1, 200, .inl (a2 8)))]) ++ rw))) := h
  have h4 := h3.pm fv_perm
  rw [hs] at h4
  exact h4
theorem fv_out (hs : L2 8 = L1 0) (h : St dC dI A H0 H locs (oW 2 h1 ksF spF tk L1 g1 aF (oW 3 h2 ksV spV8 tk L2 g2 a1 rw))) : St dC dI A H0 H locs (oW 2 h1 ksJ spJ tk L1 g1 a2 (oW 3 h2 ksV spV tk L2 g2 (va_up a1 8 (aF 0)) rw)) := by
  have h3 : St dC dI A H0 H locs ((h1, .inr (2, oF ksF L1 g1)) :: ((L1 0, .inl (tk 1, 200, .inl (aF 0))) :: ((h2, .inr (3, oF ksV L2 g2)) :: (oA spV8 tk L2 a1 ++ rw)))) := h
  rw [← hs] at h3
  have h4 := h3.pm fv_perm.symm
  exact h4
end FV
