def swp (dS : aP) (a b : Nat) : aP := va_up (va_up dS a (dS b)) b (dS a)
theorem swp_a {dS : aP} {a b : Nat} (h : a ≠ b) : swp dS a b a = dS b := by
  unfold swp
  rw [va_up_ne _ _ h, va_up_self]
theorem swp_b {dS : aP} {a b : Nat} : swp dS a b b = dS a := by
  unfold swp
  rw [va_up_self]
theorem swp_o {dS : aP} {a b j : Nat} (h1 : j ≠ a) (h2 : j ≠ b) : swp dS a b j = dS j := by
  unfold swp
  rw [va_up_ne _ _ h2, va_up_ne _ _ h1]
section SW
variable {c1 : Nat} {k1 : List (Option Nat)} {s1 : List (Nat × Nat)} {rj : Nat} {tk : Nat → ClassId} {dS : aP} {n a b : Nat}
theorem swp_perm (ha : a < n) (hb : b < n) (hab : a ≠ b) : (pF c1 k1 s1 rj tk dS n).Perm (pF c1 k1 s1 rj tk (swp dS a b) n) := by
  have hr : (List.range n).Perm (a :: b :: ((List.range n).erase a).erase b) := by
    refine (List.perm_cons_erase (List.mem_range.mpr ha)).trans (List.Perm.cons a ?_)
    exact List.perm_cons_erase ((List.mem_erase_of_ne (Ne.symm hab)).mpr (List.mem_range.mpr hb))
  have hrest : (((List.range n).erase a).erase b).flatMap (fun i => pX c1 k1 s1 rj tk (dS i)) = (((List.range n).erase a).erase b).flatMap (fun i => pX c1 k1 s1 rj tk (swp dS a b i)) := by
    rw [List.flatMap_def, List.flatMap_def]
    congr 1
    apply List.map_congr_left
    intro i hi
    have nd : ((List.range n).erase a).Nodup := List.nodup_range.erase a
    have h2 : i ≠ b := fun e => by
      subst e
      exact (List.Nodup.not_mem_erase nd) hi
    have h1 : i ≠ a := fun e => by
      subst e
      exact (List.Nodup.not_mem_erase (List.nodup_range)) (List.mem_of_mem_erase hi)
    show pX c1 k1 s1 rj tk (dS i) = pX c1 k1 s1 rj tk (swp dS a b i)
    rw [swp_o h1 h2]
  have e1 := hr.flatMap_right (fun i => pX c1 k1 s1 rj tk (dS i))
  have e2 := hr.flatMap_right (fun i => pX c1 k1 s1 rj tk (swp dS a b i))
  rw [List.flatMap_cons, List.flatMap_cons] at e1 e2
  rw [← hrest] at e2
  simp only [swp_a hab, swp_b] at e2
  exact e1.trans (pm_2.trans e2.symm)
theorem swp_W {dC : Nat → ClassId} {dI : Nat → Nat → Nat} {A : Nat → Prop} {H0 H : Heap} {locs : List Loc} {rw : va_W} (h : St dC dI A H0 H locs (pW c1 k1 s1 rj tk dS n rw)) (ha : a < n) (hb : b < n) (hab : a ≠ b) : St dC dI A H0 H locs (pW c1 k1 s1 rj tk (swp dS a b) n rw) := h.pm ((swp_perm ha hb hab).append_right rw)
theorem p_mem {rw : va_W} {d : Nat} (hd : d < n) : ((dS d).1.1, .inr (c1, oF k1 (dS d).1.2.1 (dS d).2.1)) ∈ pW c1 k1 s1 rj tk dS n rw := by
  refine List.mem_append_left _ (List.mem_flatMap.mpr ⟨d, List.mem_range.mpr hd, ?_⟩)
  exact List.mem_append_left _ List.mem_cons_self
end SW
theorem oW_m {ci h : Nat} {ks : List (Option Nat)} {sp : List (Nat × Nat)} {tk : Nat → ClassId} {L : Nat → Nat} {g : aG} {ar : aA} {rw : va_W} {q : Nat × va_E} (hq : q ∈ rw) : q ∈ oW ci h ks sp tk L g ar rw := List.mem_cons_of_mem _ (List.mem_append_right _ hq)
theorem inb_s {x : Int32} {n : Nat} (h : inb x n = true) (hn : n < 2 ^ 30) : (x + 1).toNatClampNeg = x.toNatClampNeg + 1 := by
  obtain ⟨j, hj, rfl⟩ := vp_in_of (inb_in h) (by omega)
  rw [nI_1, nI_clamp (by omega), nI_clamp (by omega)]
def QR (dC : Nat → ClassId) (dI : Nat → Nat → Nat) (A : Nat → Prop) (r0 : Nat) (ws1 : va_W) : Array Value → State → Outcome → State → Prop := va_Qr (fun (_ : Unit) => True) (fun _ a t => a = r0 ∧ Po dC dI A ws1 t) A
def CtR (l : Launch) (dC : Nat → ClassId) (dI : Nat → Nat → Nat) (tk : Nat → ClassId) (A : Nat → Prop) (y : MethodName) (b : ByteArray) (mL : Nat) (ret : Option FieldType) (fr lo : Nat) (av : List Value) (ws : va_W) (r0 : Nat) (ws1 : va_W) : Prop := Met l y (Cond.code y b mL ret :: gW) (rmo fr lo) (va_Pc av (Pr dC dI tk A ws)) (QR dC dI A r0 ws1) 0 0 A
section RR
variable {p : Program} {l : Launch} {e : Env} {R : Room} {s : State} {m : MethodId} {args : Array Value} {below : List Frame} {meth : Method} {c : Code} {H : Heap} {locs : List Loc} {cells slots : Nat} {Q : State → Prop}
variable {cc : ByteArray} {pc : Nat} {ls : Array Slot} {rest : List Value} {dC : Nat → ClassId} {dI : Nat → Nat → Nat} {tk : Nat → ClassId} {A : Nat → Prop} {ws ws1 : va_W} {own C : String} {index : Nat}
theorem rt_r {v r0 : Nat} {nm : String} (hx : p.tables.exec = Jvm.exec) (hb : c.code = cc) (hr : meth.sig.returnType = some (.object nm)) (hlk : meth.locks = false) (hst : St dC dI A s.heap H locs ws1) (he : v = r0) (hdg : decode cc pc = .ok (.areturn, 1)) :
    W p l e R s m args below meth c H locs cells slots (MQ below (QR dC dI A r0 ws1) args s cells slots A) (F0 m pc ls [.ref v]) :=
  W.aret hx hb hr (Or.inl ⟨nm, rfl⟩) (Or.inr ⟨v, rfl⟩) (fun t ht _ => ⟨⟨(), v, rfl, trivial, he, by rw [ht]; exact hst.1, hst.2.1⟩, hst.2.2.F ht⟩) hst.2.2.2.2 hdg hlk
theorem cl_vr {y : MethodName} {bytes : ByteArray} {mL nL n fr lo : Nat} {ret : Option FieldType} {b q0 ci : Nat} {T : u_T} {N : Nat} {fs : List Value} {As : List Value} {st0 : List Value} {r0 : Nat} (hx : p.tables.exec = Jvm.exec) (hb : c.code = cc) (hml : c.maxLocals = nL) (hown : s.vm.findClass own = some m.cls) (hG : ∀ w ∈ gW, w.before args s = true) (hg : Gl dC dI tk A s) (hM : CtR l dC dI tk A y bytes mL ret fr lo (.ref b :: As) ws r0 ws1)
    (cw : CallW R s args own C index y bytes mL ret (Cond.code y bytes mL ret :: gW) (rmo fr lo) 0 0 n) (hst : St dC dI A s.heap H locs ws) (hc : mCl[ci]? = some (C, T, N)) (he : ws[q0]? = some (b, .inr (ci, fs))) (hn : As.length = n) (hsize : ls.size = nL) (hstack : st0 = As.reverse ++ .ref b :: rest) (hW : (rest.map fun v => v.category).sum ≤ 8) (hf : cells ≤ R.cells ∧ slots ≤ R.slots) (hdg : decode cc pc = .ok (.invokevirtual index, 3))
    (kk : ∀ (H1 : Heap) (locs1 : List Loc), St dC dI A s.heap H1 locs1 ws1 → W p l e R s m args below meth c H1 locs1 cells slots Q (F0 m (pc + 3) ls (.ref r0 :: rest))) : W p l e R s m args below meth c H locs cells slots Q (F0 m pc ls st0) := by
  refine va_callr (va_runV (As := As) (rest := rest) ⟨hx, hb, hml, hown, hG⟩ hM cw (pr_V hg hst hc he) rfl hn hsize hstack (lv_room hW) hdg hf) hst.2.2 (fun q _ h => h) (fun q h => h) (fun u ra t H1 locs1 ht hvm hw hB hz1 hk1 hS => ?_)
  obtain ⟨rfl, hB⟩ := hB
  exact kk H1 locs1 ⟨by rw [← ht]; exact hB.1, hB.2, hS⟩
theorem ro_aast {t hr n v ci : Nat} {f : Nat → Option Nat} {rw : va_W} {T : u_T} {N : Nat} {vs : List Value} {i : Int32} (hx : p.tables.exec = Jvm.exec) (hb : c.code = cc) (hg : Gl dC dI tk A s) (hst : St dC dI A s.heap H locs (rA t hr n tk f rw)) (ht : (tyL tk)[t]? = some (tk t, .object C)) (hc : mCl[ci]? = some (C, T, N)) (hmem : (v, .inr (ci, vs)) ∈ rw) (hin : inb i n = true) (hdg : decode cc pc = .ok (.aastore, 1))
    (kk : ∀ (f1 : Nat → Option Nat) (H1 : Heap) (locs1 : List Loc), f1 = va_up f i.toNatClampNeg (some v) → St dC dI A s.heap H1 locs1 (rA t hr n tk f1 rw) → W p l e R s m args below meth c H1 locs1 cells slots Q (F0 m (pc + 1) ls rest)) : W p l e R s m args below meth c H locs cells slots Q (F0 m pc ls (.ref v :: .int i :: .ref hr :: rest)) := by
  obtain ⟨k, hk⟩ := List.getElem?_of_mem hmem
  refine va_astq (r := (C, T, N)) hx hb hg.2.1 hst.1 hst.2.1 hst.2.2 0 t (k + 1) ci rfl ht hk hc (inb_in hin) hdg (fun H1 locs1 q1 q2 q3 => ?_)
  exact kk _ H1 locs1 rfl ⟨q1, q2, q3⟩
end RR
