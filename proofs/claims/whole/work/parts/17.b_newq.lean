section NQ
variable {p : Program} {l : Launch} {e : Env} {R : Room} {s : State} {m : MethodId} {args : Array Value} {below : List Frame} {meth : Method} {c : Code} {H : Heap} {locs : List Loc} {cells slots : Nat} {Q : State → Prop}
variable {cc : ByteArray} {pc : Nat} {ls : Array Slot} {rest : List Value} {dC : Nat → ClassId} {dI : Nat → Nat → Nat} {tk : Nat → ClassId} {A : Nat → Prop} {ws : va_W} {own C : String} {index : Nat}
/-- anewarray -/
theorem ro_newq {x : Int32} (t n : Nat) (hx : p.tables.exec = Jvm.exec) (hb : c.code = cc) (hown : s.vm.findClass own = some m.cls) (hG : ∀ w ∈ gW, w.before args s = true) (hg : Gl dC dI tk A s) (hao : va_AO C s) (hst : St dC dI A s.heap H locs ws) (hcl : Cond.classLink own index C ∈ gW) (ht : (tyL tk)[t]? = some (tk t, .object C)) (hn : ¬ x < 0) (hN : x.toNatClampNeg = n) (hby : n * 4 ≤ 536870912) (hcells : cells + 1 ≤ R.cells) (hslots : slots + n ≤ R.slots) (hdg : decode cc pc = .ok (.anewarray index, 3))
    (kk : ∀ (q : Nat) (H1 : Heap), St dC dI A s.heap H1 locs (rA t q n tk (fun _ => none) ws) → W p l e R s m args below meth c H1 locs (cells + 1) (slots + n) Q (F0 m (pc + 3) ls (.ref q :: rest))) : W p l e R s m args below meth c H locs cells slots Q (F0 m pc ls (.int x :: rest)) := by
  refine va_newq hx hb hown (hG _ hcl) hao hg.2.1 hst.1 hst.2.1 hst.2.2 hg.1 hn hN hby hcells hslots hdg (fun q cA H1 qK qP qD qS => ?_)
  have h1 : va_RA s cA (.object C) := (qK.2 (tyL tk).length (cA, .object C) (by rw [List.getElem?_append_right (Nat.le_refl _)]; simp)).2
  have h2 : va_RA s (tk t) (.object C) := (hg.2.1.2 t _ ht).2
  obtain ⟨_, _, _, _, _, e1⟩ := h1
  obtain ⟨_, _, _, _, _, e2⟩ := h2
  cases Option.some.inj (e1.symm.trans e2)
  have h3 : St dC dI A s.heap H1 locs (ws ++ [(q, .inl (tk t, n, .inr (.inr (.inr (.inr (fun _ => none))))))]) := ⟨qP, qD, qS⟩
  exact kk q H1 (h3.pm List.perm_append_comm)
end NQ
/-- a row more in a pool -/
theorem pW_grow {c1 : Nat} {k1 : List (Option Nat)} {s1 : List (Nat × Nat)} {rj : Nat} {tk : Nat → ClassId} {dS : aP} {k : Nat} {rw : va_W} {x : aDS} {dC : Nat → ClassId} {dI : Nat → Nat → Nat} {A : Nat → Prop} {H0 H : Heap} {locs : List Loc} (h : St dC dI A H0 H locs (pX c1 k1 s1 rj tk x ++ pW c1 k1 s1 rj tk dS k rw)) : St dC dI A H0 H locs (pW c1 k1 s1 rj tk (va_up dS k x) (k + 1) rw) := by
  have e1 : pF c1 k1 s1 rj tk (va_up dS k x) (k + 1) = pF c1 k1 s1 rj tk dS k ++ pX c1 k1 s1 rj tk x := by
    unfold pF
    rw [List.range_succ, List.flatMap_append, List.flatMap_singleton, va_up_self]
    congr 1
    rw [List.flatMap_def, List.flatMap_def]
    congr 1
    apply List.map_congr_left
    intro i hi
    have := List.mem_range.mp hi
    show pX c1 k1 s1 rj tk (va_up dS k x i) = _
    rw [va_up_ne _ _ (by omega)]
  unfold pW at h ⊢
  rw [e1, List.append_assoc]
  exact h.pm pm_2
