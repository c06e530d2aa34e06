theorem sw_out3 {x : Int32} (h0 : ¬ x = 0) (h1 : ¬ x = 1) (h2 : ¬ x = 2) : x.toInt < 0 ∨ 2 < x.toInt := by
  have k0 : ¬ x.toInt = 0 := fun z => h0 (Int32.toInt.inj (z.trans (by decide)))
  have k1 : ¬ x.toInt = 1 := fun z => h1 (Int32.toInt.inj (z.trans (by decide)))
  have k2 : ¬ x.toInt = 2 := fun z => h2 (Int32.toInt.inj (z.trans (by decide)))
  omega
theorem cpok_u {sp dp n : Int32} {n0 n1 : Nat} (h : cpok sp dp n n0 n1 = true) : (¬ sp < 0) ∧ (¬ dp < 0) ∧ (¬ n < 0) ∧ sp.toNatClampNeg + n.toNatClampNeg ≤ n0 ∧ dp.toNatClampNeg + n.toNatClampNeg ≤ n1 := by
  obtain ⟨h1, h2, h3, h4, h5⟩ := of_decide_eq_true h
  exact ⟨Int32.not_lt.mpr h1, Int32.not_lt.mpr h2, Int32.not_lt.mpr h3, h4, h5⟩
theorem oW_g2 {c1 c2 h1 h2 : Nat} {k1 k2 : List (Option Nat)} {s1 s2 : List (Nat × Nat)} {tk : Nat → ClassId} {L1 L2 : Nat → Nat} {g1 g2 : aG} {a1 a2 : aA} {rw : va_W} {j t n : Nat} (hs : s2[j]? = some (t, n)) : (oW c1 h1 k1 s1 tk L1 g1 a1 (oW c2 h2 k2 s2 tk L2 g2 a2 rw))[s1.length + (j + 1) + 1]? = some (L2 j, .inl (tk t, n, .inl (a2 j))) := by
  show (oA s1 tk L1 a1 ++ oW c2 h2 k2 s2 tk L2 g2 a2 rw)[s1.length + (j + 1)]? = _
  rw [List.getElem?_append_right (by rw [oA_len]; omega), oA_len, show s1.length + (j + 1) - s1.length = j + 1 by omega]
  exact oW_g hs
section RC
variable {p : Program} {l : Launch} {e : Env} {R : Room} {s : State} {m : MethodId} {args : Array Value} {below : List Frame} {meth : Method} {c : Code} {H : Heap} {locs : List Loc} {cells slots : Nat} {Q : State → Prop}
variable {cc : ByteArray} {pc : Nat} {ls : Array Slot} {rest : List Value} {dC : Nat → ClassId} {dI : Nat → Nat → Nat} {tk : Nat → ClassId} {A : Nat → Prop} {own : String} {index : Nat}
theorem ro_cpy1 {ci h : Nat} {ks : List (Option Nat)} {sp : List (Nat × Nat)} {L : Nat → Nat} {g : aG} {ar : aA} {rw : va_W} (hx : p.tables.exec = Jvm.exec) (hb : c.code = cc) (hml : c.maxLocals = ls.size) (hown : s.vm.findClass own = some m.cls) (hG : ∀ w ∈ gW, w.before args s = true) (hg : Gl dC dI tk A s) (hst : St dC dI A s.heap H locs (oW ci h ks sp tk L g ar rw)) {s0 dp n : Int32} {n0 n1 : Nat} (j0 j1 : Nat) (hs0 : sp[j0]? = some (1, n0)) (hs1 : sp[j1]? = some (1, n1)) (hok : cpok s0 dp n n0 n1 = true) (hfit : okcs (ar j0) s0.toNatClampNeg n.toNatClampNeg = true) (hl : Cond.methodLink own index arraycopyName ∈ gW)
    (hfr : 1 ≤ R.frames) (hlo : (rest.map fun v => v.category).sum + (nativeFrameWords "java/lang/System" "arraycopy" 5 + 11) ≤ R.locals) (hdg : decode cc pc = .ok (.invokestatic index, 3))
    (kk : ∀ (a1 : aA) (H1 : Heap) (locs1 : List Loc), a1 = va_up ar j1 (va_cpy (ar j0) (ar j1) s0.toNatClampNeg dp.toNatClampNeg n.toNatClampNeg) → St dC dI A s.heap H1 locs1 (oW ci h ks sp tk L g a1 rw) → W p l e R s m args below meth c H1 locs1 cells slots Q (F0 m (pc + 3) ls rest)) : W p l e R s m args below meth c H locs cells slots Q (F0 m pc ls (.int n :: .int dp :: .ref (L j1) :: .int s0 :: .ref (L j0) :: rest)) := by
  obtain ⟨h1, h2, h3, h4, h5⟩ := cpok_u hok
  refine va_copyi hx hb hml hown (hG _ hl) (hG _ k_543) (hG _ k_542) (hG _ k_18) hg.2.1 hst.1 hst.2.1 hst.2.2 (j0 + 1) (j1 + 1) 1 1 (oW_g hs0) (oW_g hs1) rfl rfl rfl h1 h2 h3 h4 h5 (okcs_u hfit) hfr hlo hdg (fun H1 locs1 q1 q2 q3 => ?_)
  rw [oW_s hs1] at q1 q2
  exact kk _ H1 locs1 rfl ⟨q1, q2, q3⟩
theorem ro_cpy2 {c1 c2 h1 h2 : Nat} {k1 k2 : List (Option Nat)} {s1 s2 : List (Nat × Nat)} {L1 L2 : Nat → Nat} {g1 g2 : aG} {a1 a2 : aA} {rw : va_W} (hx : p.tables.exec = Jvm.exec) (hb : c.code = cc) (hml : c.maxLocals = ls.size) (hown : s.vm.findClass own = some m.cls) (hG : ∀ w ∈ gW, w.before args s = true) (hg : Gl dC dI tk A s) (hst : St dC dI A s.heap H locs (oW c1 h1 k1 s1 tk L1 g1 a1 (oW c2 h2 k2 s2 tk L2 g2 a2 rw))) {s0 dp n : Int32} {n0 n1 : Nat} (j0 j1 : Nat) (hs0 : s2[j0]? = some (1, n0)) (hs1 : s1[j1]? = some (1, n1)) (hok : cpok s0 dp n n0 n1 = true) (hfit : okcs (a2 j0) s0.toNatClampNeg n.toNatClampNeg = true) (hl : Cond.methodLink own index arraycopyName ∈ gW)
    (hfr : 1 ≤ R.frames) (hlo : (rest.map fun v => v.category).sum + (nativeFrameWords "java/lang/System" "arraycopy" 5 + 11) ≤ R.locals) (hdg : decode cc pc = .ok (.invokestatic index, 3))
    (kk : ∀ (x1 : aA) (H1 : Heap) (locs1 : List Loc), x1 = va_up a1 j1 (va_cpy (a2 j0) (a1 j1) s0.toNatClampNeg dp.toNatClampNeg n.toNatClampNeg) → St dC dI A s.heap H1 locs1 (oW c1 h1 k1 s1 tk L1 g1 x1 (oW c2 h2 k2 s2 tk L2 g2 a2 rw)) → W p l e R s m args below meth c H1 locs1 cells slots Q (F0 m (pc + 3) ls rest)) : W p l e R s m args below meth c H locs cells slots Q (F0 m pc ls (.int n :: .int dp :: .ref (L1 j1) :: .int s0 :: .ref (L2 j0) :: rest)) := by
  obtain ⟨e1, e2, e3, e4, e5⟩ := cpok_u hok
  refine va_copyi hx hb hml hown (hG _ hl) (hG _ k_543) (hG _ k_542) (hG _ k_18) hg.2.1 hst.1 hst.2.1 hst.2.2 (s1.length + (j0 + 1) + 1) (j1 + 1) 1 1 (oW_g2 hs0) (oW_g hs1) rfl rfl rfl e1 e2 e3 e4 e5 (okcs_u hfit) hfr hlo hdg (fun H1 locs1 q1 q2 q3 => ?_)
  rw [oW_s hs1] at q1 q2
  exact kk _ H1 locs1 rfl ⟨q1, q2, q3⟩
end RC
