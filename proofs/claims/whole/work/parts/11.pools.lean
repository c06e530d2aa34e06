/-! pools: objects with a Text of their own each, by their slot; arrays of references -/
abbrev aAd : Type := Nat × (Nat → Nat) × (Nat → Nat)
abbrev aDS : Type := aAd × aG × aA × aG × aA
abbrev aP : Type := Nat → aDS
def rX (t hr n : Nat) (tk : Nat → ClassId) (f : Nat → Option Nat) : va_W := [(hr, .inl (tk t, n, .inr (.inr (.inr (.inr f)))))]
def rA (t hr n : Nat) (tk : Nat → ClassId) (f : Nat → Option Nat) (rw : va_W) : va_W := rX t hr n tk f ++ rw
def pX (c1 : Nat) (k1 : List (Option Nat)) (s1 : List (Nat × Nat)) (rj : Nat) (tk : Nat → ClassId) (x : aDS) : va_W := oX c1 x.1.1 k1 s1 tk x.1.2.1 x.2.1 x.2.2.1 ++ oX 6 (x.1.2.1 rj) ksT spT tk x.1.2.2 x.2.2.2.1 x.2.2.2.2
def pF (c1 : Nat) (k1 : List (Option Nat)) (s1 : List (Nat × Nat)) (rj : Nat) (tk : Nat → ClassId) (dS : aP) (n : Nat) : va_W := (List.range n).flatMap (fun i => pX c1 k1 s1 rj tk (dS i))
def pG (c1 : Nat) (k1 : List (Option Nat)) (s1 : List (Nat × Nat)) (rj : Nat) (tk : Nat → ClassId) (dS : aP) (n d : Nat) : va_W := ((List.range n).erase d).flatMap (fun i => pX c1 k1 s1 rj tk (dS i))
def pW (c1 : Nat) (k1 : List (Option Nat)) (s1 : List (Nat × Nat)) (rj : Nat) (tk : Nat → ClassId) (dS : aP) (n : Nat) (rw : va_W) : va_W := pF c1 k1 s1 rj tk dS n ++ rw
def pO (c1 : Nat) (k1 : List (Option Nat)) (s1 : List (Nat × Nat)) (rj : Nat) (tk : Nat → ClassId) (dS : aP) (n d : Nat) (rw : va_W) : va_W := pG c1 k1 s1 rj tk dS n d ++ rw
section PP
variable {c1 : Nat} {k1 : List (Option Nat)} {s1 : List (Nat × Nat)} {rj : Nat} {tk : Nat → ClassId} {dS : aP} {n d : Nat} {rw : va_W} {dC : Nat → ClassId} {dI : Nat → Nat → Nat} {A : Nat → Prop} {H0 H : Heap} {locs : List Loc}
theorem pG_up (x : aDS) : pG c1 k1 s1 rj tk (va_up dS d x) n d = pG c1 k1 s1 rj tk dS n d := by
  unfold pG
  rw [List.flatMap_def, List.flatMap_def]
  congr 1
  apply List.map_congr_left
  intro i hi
  have hne : i ≠ d := fun e => by
    subst e
    exact (List.Nodup.not_mem_erase (List.nodup_range)) hi
  show pX c1 k1 s1 rj tk (va_up dS d x i) = _
  rw [va_up_ne _ _ hne]
theorem p_perm (hd : d < n) : (pW c1 k1 s1 rj tk dS n rw).Perm (oW c1 (dS d).1.1 k1 s1 tk (dS d).1.2.1 (dS d).2.1 (dS d).2.2.1 (oW 6 ((dS d).1.2.1 rj) ksT spT tk (dS d).1.2.2 (dS d).2.2.2.1 (dS d).2.2.2.2 (pO c1 k1 s1 rj tk dS n d rw))) := by
  have h1 : (pF c1 k1 s1 rj tk dS n).Perm (pX c1 k1 s1 rj tk (dS d) ++ pG c1 k1 s1 rj tk dS n d) := by
    have h2 := (List.perm_cons_erase (List.mem_range.mpr hd)).flatMap_right (fun i => pX c1 k1 s1 rj tk (dS i))
    rw [List.flatMap_cons] at h2
    exact h2
  have h3 := h1.append_right rw
  simp only [pX, List.append_assoc] at h3
  exact h3
theorem foc (h : St dC dI A H0 H locs (pW c1 k1 s1 rj tk dS n rw)) (hd : d < n) : St dC dI A H0 H locs (oW c1 (dS d).1.1 k1 s1 tk (dS d).1.2.1 (dS d).2.1 (dS d).2.2.1 (oW 6 ((dS d).1.2.1 rj) ksT spT tk (dS d).1.2.2 (dS d).2.2.2.1 (dS d).2.2.2.2 (pO c1 k1 s1 rj tk dS n d rw))) := h.pm (p_perm hd)
theorem unf0 (h : St dC dI A H0 H locs (oW c1 (dS d).1.1 k1 s1 tk (dS d).1.2.1 (dS d).2.1 (dS d).2.2.1 (oW 6 ((dS d).1.2.1 rj) ksT spT tk (dS d).1.2.2 (dS d).2.2.2.1 (dS d).2.2.2.2 (pO c1 k1 s1 rj tk dS n d rw)))) (hd : d < n) : St dC dI A H0 H locs (pW c1 k1 s1 rj tk dS n rw) := h.pm (p_perm hd).symm
theorem unf1 {g g2 : aG} {a a2 : aA} (h : St dC dI A H0 H locs (oW c1 (dS d).1.1 k1 s1 tk (dS d).1.2.1 g a (oW 6 ((dS d).1.2.1 rj) ksT spT tk (dS d).1.2.2 g2 a2 (pO c1 k1 s1 rj tk dS n d rw)))) (hd : d < n) : St dC dI A H0 H locs (pW c1 k1 s1 rj tk (va_up dS d ((dS d).1, g, a, g2, a2)) n rw) := by
  refine unf0 (d := d) ?_ hd
  rw [va_up_self]
  unfold pO at h ⊢
  rw [pG_up]
  exact h
theorem gr1 {a b r : va_W} (h : St dC dI A H0 H locs (a ++ (b ++ r))) : St dC dI A H0 H locs (b ++ (a ++ r)) := h.pm pm_2
theorem gr2 {a b x r : va_W} (h : St dC dI A H0 H locs (a ++ (b ++ (x ++ r)))) : St dC dI A H0 H locs (x ++ (a ++ (b ++ r))) := h.pm ((List.Perm.append_left _ pm_2).trans pm_2)
theorem gr3 {a b x y r : va_W} (h : St dC dI A H0 H locs (a ++ (b ++ (x ++ (y ++ r))))) : St dC dI A H0 H locs (y ++ (a ++ (b ++ (x ++ r)))) := h.pm ((List.Perm.append_left _ ((List.Perm.append_left _ pm_2).trans pm_2)).trans pm_2)
theorem gr4 {a b x y z r : va_W} (h : St dC dI A H0 H locs (a ++ (b ++ (x ++ (y ++ (z ++ r)))))) : St dC dI A H0 H locs (z ++ (a ++ (b ++ (x ++ (y ++ r))))) := h.pm ((List.Perm.append_left _ ((List.Perm.append_left _ ((List.Perm.append_left _ pm_2).trans pm_2)).trans pm_2)).trans pm_2)
theorem gr5 {a b x y z u r : va_W} (h : St dC dI A H0 H locs (a ++ (b ++ (x ++ (y ++ (z ++ (u ++ r))))))) : St dC dI A H0 H locs (u ++ (a ++ (b ++ (x ++ (y ++ (z ++ r)))))) := h.pm ((List.Perm.append_left _ ((List.Perm.append_left _ ((List.Perm.append_left _ ((List.Perm.append_left _ pm_2).trans pm_2)).trans pm_2)).trans pm_2)).trans pm_2)
end PP
theorem inb_lt {x : Int32} {n : Nat} (h : inb x n = true) : x.toNatClampNeg < n := Nat.not_le.mp fun q => of_decide_eq_true h (Or.inr q)
section RAs
variable {p : Program} {l : Launch} {e : Env} {R : Room} {s : State} {m : MethodId} {args : Array Value} {below : List Frame} {meth : Method} {c : Code} {H : Heap} {locs : List Loc} {cells slots : Nat} {Q : State → Prop}
variable {cc : ByteArray} {pc : Nat} {ls : Array Slot} {rest : List Value} {dC : Nat → ClassId} {dI : Nat → Nat → Nat} {tk : Nat → ClassId} {A : Nat → Prop}
theorem ro_aald {t hr n : Nat} {f : Nat → Option Nat} {rw : va_W} {C : String} {i : Int32} {a : Nat} (hx : p.tables.exec = Jvm.exec) (hb : c.code = cc) (hg : Gl dC dI tk A s) (hst : St dC dI A s.heap H locs (rA t hr n tk f rw)) (ht : (tyL tk)[t]? = some (tk t, .object C)) (hin : inb i n = true) (hf : f i.toNatClampNeg = some a) (hdg : decode cc pc = .ok (.aaload, 1))
    (kk : W p l e R s m args below meth c H locs cells slots Q (F0 m (pc + 1) ls (.ref a :: rest))) : W p l e R s m args below meth c H locs cells slots Q (F0 m pc ls (.int i :: .ref hr :: rest)) := by
  refine va_aldq hx hb hg.2.1 hst.1 0 t rfl ht (inb_in hin) hdg ?_
  rw [hf]
  exact kk
end RAs
