section LW
variable {p : Program} {l : Launch} {e : Env} {R : Room} {s : State} {m : MethodId} {args : Array Value} {below : List Frame} {meth : Method} {c : Code} {H : Heap} {locs : List Loc} {cells slots : Nat} {Q : State → Prop}
variable {cc : ByteArray} {pc : Nat} {ls : Array Slot} {rest : List Value}
/-- ldc_w of a String constant -/
theorem va_ldcSw (hexec : p.tables.exec = Jvm.exec) (hb : c.code = cc) {own tx : String} {index q : Nat} (hown : s.vm.findClass own = some m.cls) (hZ : vk_R own index tx q s) (hdg : decode cc pc = .ok (.ldc_w index, 3))
    (k : W p l e R s m args below meth c H locs cells slots Q (F0 m (pc + 3) ls (.ref q :: rest))) : W p l e R s m args below meth c H locs cells slots Q (F0 m pc ls rest) := by
  intro T hT X
  obtain ⟨t, a1, b1⟩ := k T hT X
  refine ⟨t, ?_, b1⟩
  obtain ⟨kc, cf, i, a', hk, hcf, hcp, -, hr, hev'⟩ := Cond.stringRef_spec hown hZ.1
  cases hZ.2.symm.trans hev'
  obtain ⟨k', hk', he⟩ := X.warmed.alike.2.2 _ _ hk
  have hr' : k'.resolved[index]? = some (some (.string q)) := by
    rcases X.warmed.entry hk hk' index with h | ⟨h, -⟩
    · rw [h]; exact hr
    · rw [hr] at h; cases h
  have hdg' : decode c.code pc = .ok (.ldc_w index, 3) := by rw [hb]; exact hdg
  jvm_step X.here [hexec, hdg', Op.ldc_w.wp_string (e := e) (s := T) (f := F0 m pc ls rest) X.here.top hk' (by rw [he]; exact hcf) hcp hr']
  exact a1
end LW
theorem cJ : Cls 2 RF FF 6 tF := cF
theorem lk_out2 {x : Int32} {o1 o2 d : Int} (h1 : ¬ x = 1) (h2 : ¬ x = 2) : Op.lookupswitch.offset [(1, o1), (2, o2)] d x.toInt = d := by
  have k1 : ¬ (1 : Int) = x.toInt := fun z => h1 (Int32.toInt.inj (z.symm.trans (by decide)))
  have k2 : ¬ (2 : Int) = x.toInt := fun z => h2 (Int32.toInt.inj (z.symm.trans (by decide)))
  rw [Op.lookupswitch.offset_cons, if_neg k1, Op.lookupswitch.offset_cons, if_neg k2]
  rfl
theorem addRow_lt {gQ g : aG} {r : Nat} (h : mQ_addRow gQ = some (r, g)) : r < 8 := by
  unfold mQ_addRow lt at h
  obtain ⟨hn, h⟩ := gd_u h
  cases Option.some.inj h
  exact inb_lt hn
theorem takeOut_lt {n : Nat} {v : Int32} {gQ g : aG} {dO d : aP} {r : Nat} (h : mQ_takeOut n v gQ dO = some (r, g, d)) : r < 8 := by
  unfold mQ_takeOut at h
  obtain ⟨-, h⟩ := gd_u h
  have h := lt_u h _ rfl
  obtain ⟨d9, -, h⟩ := bd_u h
  obtain ⟨hn, h⟩ := gd_u h
  cases Option.some.inj h
  exact inb_lt hn
