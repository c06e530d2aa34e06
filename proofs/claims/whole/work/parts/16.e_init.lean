section MK
variable {p : Program} {l : Launch} {e : Env} {R : Room} {s : State} {m : MethodId} {args : Array Value} {below : List Frame} {meth : Method} {c : Code} {H : Heap} {locs : List Loc} {cells slots : Nat} {Q : State → Prop}
variable {cc : ByteArray} {pc : Nat} {ls : Array Slot} {rest : List Value} {dC : Nat → ClassId} {dI : Nat → Nat → Nat} {tk : Nat → ClassId} {A : Nat → Prop} {ws : va_W} {own C host : String} {T : u_T} {N index ci : Nat} {ty : Nat → FieldType} {ks : List (Option Nat)} {sp : List (Nat × Nat)}
/-- new: the cell, all its fields empty, stands first in the world -/
theorem ro_newO (L0 : Nat → Nat) (hx : p.tables.exec = Jvm.exec) (hb : c.code = cc) (hown : s.vm.findClass own = some m.cls) (hG : ∀ w ∈ gW, w.before args s = true) (hg : Gl dC dI tk A s) (hC : Cls ci C T N ty) (hst : St dC dI A s.heap H locs ws) (hcl : Cond.classLink own index C ∈ gW) (hinst : Cond.instantiable C N ∈ gW) (hini : Cond.initialized C ∈ gW) (hfs : ∀ j, j < N → defaultValue (ty j) = vp_V (oFn ks L0 0) j) (hcells : cells + 1 ≤ R.cells) (hslots : slots + N ≤ R.slots) (hdg : decode cc pc = .ok (.new index, 3))
    (kk : ∀ (q : Nat) (H1 : Heap), St dC dI A s.heap H1 locs (oN ci q ks sp tk L0 ws 0) → W p l e R s m args below meth c H1 locs (cells + 1) (slots + N) Q (F0 m (pc + 3) ls (.ref q :: rest))) : W p l e R s m args below meth c H locs cells slots Q (F0 m pc ls rest) := by
  refine va_new (D := (dC, dI)) hx hb hG hC.2.1 ty hC.2.2.1 hown (hG _ hcl) (hG _ hinst) (hG _ hini) hg.2.1 hst.1 hst.2.1 hst.2.2 hg.1 hC.1 hfs hcells hslots hdg (fun q H1 qP qD qS => ?_)
  have h1 : St dC dI A s.heap H1 locs (ws ++ [(q, .inr (ci, oFn ks L0 0))]) := ⟨qP, qD, qS⟩
  exact kk q H1 (h1.pm List.perm_append_comm)
/-- a private constructor of a nest mate, without parameters -/
theorem cl_in {S : Type} {y : MethodName} {bytes : ByteArray} {mL nL fr lo mc ms b : Nat} {wf : S → va_W} (hx : p.tables.exec = Jvm.exec) (hb : c.code = cc) (hml : c.maxLocals = nL) (hown : s.vm.findClass own = some m.cls) (hG : ∀ w ∈ gW, w.before args s = true) (hg : Gl dC dI tk A s) (hM : Met l y (Cond.code y bytes mL none :: gW) (rmn fr lo mc ms) (va_Pc [.ref b] (Pr dC dI tk A ws)) (va_Qv (fun (_ : S) => True) (fun u t => Po dC dI A (wf u) t) A) mc ms A)
    (hl : Cond.methodLinkNest own index y host ∈ tables_1) (h2 : Cond.instanceMethod y ∈ gW) (h4 : Cond.initialized y.cls ∈ gW) (h5 : Cond.code y bytes mL none ∈ gW) (hy : y.name = "<init>") (hd : y.cls ≠ "java/lang/invoke/MethodHandle" ∧ y.cls ≠ "java/lang/invoke/VarHandle" ∧ (parseMethodDescriptor y.desc).map (fun d => d.parameters.length) = some 0) (hR : (rmn fr lo mc ms).frames + 1 ≤ R.frames ∧ 8 + (mL + 11) + (rmn fr lo mc ms).locals ≤ R.locals)
    (hst : St dC dI A s.heap H locs ws) (hsize : ls.size = nL) (hW : (rest.map fun v => v.category).sum ≤ 8) (hf : cells + mc ≤ R.cells ∧ slots + ms ≤ R.slots) (hdg : decode cc pc = .ok (.invokespecial index, 3))
    (kk : ∀ (u : S) (H1 : Heap) (locs1 : List Loc), St dC dI A s.heap H1 locs1 (wf u) → W p l e R s m args below meth c H1 locs1 (cells + mc) (slots + ms) Q (F0 m (pc + 3) ls rest)) : W p l e R s m args below meth c H locs cells slots Q (F0 m pc ls (.ref b :: rest)) := by
  refine va_callv (va_runIN (As := []) (rest := rest) (host := host) ⟨hx, hb, hml, hown, hG⟩ hM ⟨va_cnB 0 hG (gW_g fun w hw => ?_) rfl rfl rfl (hg.nw _ hl rfl) (hG _ h4) hd hR, hy, hG _ h2⟩ (pr_S hg hst) rfl rfl hsize rfl (lv_room hW) hdg hf) hst.2.2 (fun q _ h => h) (fun q h => h) (fun u t H1 locs1 ht hvm hw hB hz1 hk1 hS => ?_)
  · rcases List.mem_cons.mp hw with rfl | hw
    · exact h5
    · exact hw
  · exact kk u H1 locs1 ⟨by rw [← ht]; exact hB.1, hB.2, hS⟩
end MK
theorem d_K_init_0 : decode prog_3_method_1_code 0 = .ok (.aload_n 0, 1) := by decide +kernel
theorem d_K_init_1 : decode prog_3_method_1_code 1 = .ok (.invokespecial 3, 3) := by decide +kernel
theorem d_K_init_4 : decode prog_3_method_1_code 4 = .ok (.aload_n 0, 1) := by decide +kernel
theorem d_K_init_5 : decode prog_3_method_1_code 5 = .ok (.new 9, 3) := by decide +kernel
theorem d_K_init_8 : decode prog_3_method_1_code 8 = .ok (.dup, 1) := by decide +kernel
theorem d_K_init_9 : decode prog_3_method_1_code 9 = .ok (.invokespecial 11, 3) := by decide +kernel
theorem d_K_init_12 : decode prog_3_method_1_code 12 = .ok (.putfield 12, 3) := by decide +kernel
theorem d_K_init_15 : decode prog_3_method_1_code 15 = .ok (.return_, 1) := by decide +kernel
set_option maxHeartbeats 4000000 in
set_option maxRecDepth 100000 in
theorem cK_init (l : Launch) (dC : Nat → ClassId) (dI : Nat → Nat → Nat) (tk : Nat → ClassId) (A : Nat → Prop) (h : Nat) (L0 : Nat → Nat) (rw : va_W) : Met l ⟨"EditorServer$Asked", "<init>", "()V"⟩ (Cond.code ⟨"EditorServer$Asked", "<init>", "()V"⟩ prog_3_method_1_code 1 none :: gW) (rmn 2 50 2 62) (va_Pc [.ref h] (Pr dC dI tk A (oN 8 h ksK spK tk L0 rw 0))) (va_Qv (fun (_ : (Nat → Nat) × (Nat → Nat)) => True) (fun u t => Po dC dI A ((fun u : (Nat → Nat) × (Nat → Nat) => oW 8 h ksK spK tk u.1 (fun _ => 0) (fun _ _ => 0) (oW 6 (u.1 0) ksT spT tk u.2 (fun _ => 0) (fun _ _ => 0) rw)) u) t) A) 2 62 A := by
  refine entN (by decide) (Nat.le_of_ble_eq_true rfl) ?_
  intro p e s m args below meth c hx hb hr hml hown hlk hin hG hg hst ls hl
  have hl : lv_has ls 1 [(0, .ref h)] := hl
  refine lv_aload_n hx hb d_K_init_0 rfl (lv_at hl 0 rfl) ?_
  refine W.objInit hx hb hown (hG _ k_187) (hG _ k_33) (hG _ k_34) rfl (by rw [hml]; exact hl.1) rfl d_K_init_1 (Nat.le_of_ble_eq_true rfl) (Nat.le_of_ble_eq_true rfl) ?_
  refine W.eq (g2 := F0 m 4 ls []) rfl ?_
  refine lv_aload_n hx hb d_K_init_4 rfl (lv_at hl 0 rfl) ?_
  refine ro_newO (ks := ksT) (sp := spT) (fun _ => 0) hx hb hown hG hg cT hst k_188 k_120 k_5 (by decide) (by decide) (by decide) d_K_init_5 (fun q H hst => ?_)
  refine W.cs (cells' := 1) (slots' := 2) rfl rfl ?_
  refine lv_dup hx hb d_K_init_8 rfl ?_
  refine cl_in hx hb hml hown hG hg (cT_init l dC dI tk A q (fun _ => 0) _) t_189 k_122 k_5 k_123 rfl (by decide +kernel) ⟨by decide, by decide⟩ hst hl.1 (Nat.le_of_ble_eq_true rfl) ⟨by decide, by decide⟩ d_K_init_9 (fun LT H locs hst => ?_)
  refine W.cs (cells' := 2) (slots' := 62) rfl rfl ?_
  have hst : St dC dI A s.heap H locs ((h, .inr (8, oFn ksK L0 0)) :: (oX 6 q ksT spT tk LT (fun _ => 0) (fun _ _ => 0) ++ (oA (spK.take 0) tk L0 (fun _ _ => 0) ++ rw))) := gr1 (a := (oX 6 q ksT spT tk LT (fun _ => 0) (fun _ _ => 0))) (b := [(h, .inr (8, oFn ksK L0 0))]) (r := (oA (spK.take 0) tk L0 (fun _ _ => 0) ++ rw)) hst
  refine ro_putF hx hb hown hin hG hg cK hst 0 (by decide) rfl rfl rfl rfl rfl (Nat.le_of_ble_eq_true rfl) k_190 d_K_init_12 (fun H locs hst => ?_)
  have hst : St dC dI A s.heap H locs ((h, .inr (8, oFn ksK (va_up L0 0 q) 1)) :: (oX 6 q ksT spT tk LT (fun _ => 0) (fun _ _ => 0) ++ (oA (spK.take 0) tk L0 (fun _ _ => 0) ++ rw))) := by rw [← oFn_set (fi := 0) rfl (uq (by decide))]; exact hst
  rw [oFn_full (fl (by decide))] at hst
  have hst : St dC dI A s.heap H locs ((oX 6 q ksT spT tk LT (fun _ => 0) (fun _ _ => 0)) ++ ((oX 8 h ksK spK tk (va_up L0 0 q) (fun _ => 0) (fun _ _ => 0)) ++ rw)) := gr1 (a := [(h, .inr (8, oF ksK (va_up L0 0 q) (fun _ => 0)))]) (b := (oX 6 q ksT spT tk LT (fun _ => 0) (fun _ _ => 0))) (r := (oA (spK.take 0) tk L0 (fun _ _ => 0) ++ rw)) hst
  have hst : St dC dI A s.heap H locs ((fun u : (Nat → Nat) × (Nat → Nat) => oW 8 h ksK spK tk u.1 (fun _ => 0) (fun _ _ => 0) (oW 6 (u.1 0) ksT spT tk u.2 (fun _ => 0) (fun _ _ => 0) rw)) (va_up L0 0 q, LT)) := gr1 hst
  exact rt_vn (u := (va_up L0 0 q, LT)) (wf := (fun u : (Nat → Nat) × (Nat → Nat) => oW 8 h ksK spK tk u.1 (fun _ => 0) (fun _ _ => 0) (oW 6 (u.1 0) ksT spT tk u.2 (fun _ => 0) (fun _ _ => 0) rw))) hx hb hr hlk hst d_K_init_15
theorem d_D_init_0 : decode prog_4_method_1_code 0 = .ok (.aload_n 0, 1) := by decide +kernel
theorem d_D_init_1 : decode prog_4_method_1_code 1 = .ok (.invokespecial 1, 3) := by decide +kernel
theorem d_D_init_4 : decode prog_4_method_1_code 4 = .ok (.aload_n 0, 1) := by decide +kernel
theorem d_D_init_5 : decode prog_4_method_1_code 5 = .ok (.iconst 4, 1) := by decide +kernel
theorem d_D_init_6 : decode prog_4_method_1_code 6 = .ok (.newarray .char, 2) := by decide +kernel
theorem d_D_init_8 : decode prog_4_method_1_code 8 = .ok (.putfield 9, 3) := by decide +kernel
theorem d_D_init_11 : decode prog_4_method_1_code 11 = .ok (.aload_n 0, 1) := by decide +kernel
theorem d_D_init_12 : decode prog_4_method_1_code 12 = .ok (.new 13, 3) := by decide +kernel
theorem d_D_init_15 : decode prog_4_method_1_code 15 = .ok (.dup, 1) := by decide +kernel
theorem d_D_init_16 : decode prog_4_method_1_code 16 = .ok (.invokespecial 15, 3) := by decide +kernel
theorem d_D_init_19 : decode prog_4_method_1_code 19 = .ok (.putfield 16, 3) := by decide +kernel
theorem d_D_init_22 : decode prog_4_method_1_code 22 = .ok (.return_, 1) := by decide +kernel
set_option maxHeartbeats 4000000 in
set_option maxRecDepth 100000 in
theorem cD_init (l : Launch) (dC : Nat → ClassId) (dI : Nat → Nat → Nat) (tk : Nat → ClassId) (A : Nat → Prop) (h : Nat) (L0 : Nat → Nat) (rw : va_W) : Met l ⟨"EditorServer$Document", "<init>", "()V"⟩ (Cond.code ⟨"EditorServer$Document", "<init>", "()V"⟩ prog_4_method_1_code 1 none :: gW) (rmn 2 50 3 66) (va_Pc [.ref h] (Pr dC dI tk A (oN 5 h ksD spD tk L0 rw 0))) (va_Qv (fun (_ : (Nat → Nat) × (Nat → Nat)) => True) (fun u t => Po dC dI A ((fun u : (Nat → Nat) × (Nat → Nat) => oW 5 h ksD spD tk u.1 (fun _ => 0) (fun _ _ => 0) (oW 6 (u.1 1) ksT spT tk u.2 (fun _ => 0) (fun _ _ => 0) rw)) u) t) A) 3 66 A := by
  refine entN (by decide) (Nat.le_of_ble_eq_true rfl) ?_
  intro p e s m args below meth c hx hb hr hml hown hlk hin hG hg hst ls hl
  have hl : lv_has ls 1 [(0, .ref h)] := hl
  refine lv_aload_n hx hb d_D_init_0 rfl (lv_at hl 0 rfl) ?_
  refine W.objInit hx hb hown (hG _ k_141) (hG _ k_33) (hG _ k_34) rfl (by rw [hml]; exact hl.1) rfl d_D_init_1 (Nat.le_of_ble_eq_true rfl) (Nat.le_of_ble_eq_true rfl) ?_
  refine W.eq (g2 := F0 m 4 ls []) rfl ?_
  refine lv_aload_n hx hb d_D_init_4 rfl (lv_at hl 0 rfl) ?_
  refine lv_iconst (v := 4) hx hb d_D_init_5 (by decide) ?_
  refine ro_arr (at_ := .char) (ty := .char) 1 4 0 0 hx hb hown hin hG hg cD hst rfl rfl (uq (by decide)) rfl k_63 rfl (fun _ _ h9 => h9) (fun _ => rfl) (by decide) (by decide) (by decide) (by decide) (by decide) d_D_init_6 (by decide) rfl rfl rfl (fun _ => rfl) (fun _ => rfl) k_144 d_D_init_8 (fun L1 H locs hst => ?_)
  refine W.cs (cells' := 1) (slots' := 4) rfl rfl ?_
  refine lv_aload_n hx hb d_D_init_11 rfl (lv_at hl 0 rfl) ?_
  refine ro_newO (ks := ksT) (sp := spT) (fun _ => 0) hx hb hown hG hg cT hst k_142 k_120 k_5 (by decide) (by decide) (by decide) d_D_init_12 (fun q H hst => ?_)
  refine W.cs (cells' := 2) (slots' := 6) rfl rfl ?_
  refine lv_dup hx hb d_D_init_15 rfl ?_
  refine cl_in hx hb hml hown hG hg (cT_init l dC dI tk A q (fun _ => 0) _) t_143 k_122 k_5 k_123 rfl (by decide +kernel) ⟨by decide, by decide⟩ hst hl.1 (Nat.le_of_ble_eq_true rfl) ⟨by decide, by decide⟩ d_D_init_16 (fun LT H locs hst => ?_)
  refine W.cs (cells' := 3) (slots' := 66) rfl rfl ?_
  have hst : St dC dI A s.heap H locs ((h, .inr (5, oFn ksD L1 1)) :: (oX 6 q ksT spT tk LT (fun _ => 0) (fun _ _ => 0) ++ (oA (spD.take 1) tk L1 (fun _ _ => 0) ++ rw))) := gr1 (a := (oX 6 q ksT spT tk LT (fun _ => 0) (fun _ _ => 0))) (b := [(h, .inr (5, oFn ksD L1 1))]) (r := (oA (spD.take 1) tk L1 (fun _ _ => 0) ++ rw)) hst
  refine ro_putF hx hb hown hin hG hg cD hst 1 (by decide) rfl rfl rfl rfl rfl (Nat.le_of_ble_eq_true rfl) k_146 d_D_init_19 (fun H locs hst => ?_)
  have hst : St dC dI A s.heap H locs ((h, .inr (5, oFn ksD (va_up L1 1 q) 2)) :: (oX 6 q ksT spT tk LT (fun _ => 0) (fun _ _ => 0) ++ (oA (spD.take 1) tk L1 (fun _ _ => 0) ++ rw))) := by rw [← oFn_set (fi := 1) rfl (uq (by decide))]; exact hst
  rw [oFn_full (fl (by decide))] at hst
  have hst : St dC dI A s.heap H locs ((oX 6 q ksT spT tk LT (fun _ => 0) (fun _ _ => 0)) ++ ((oX 5 h ksD spD tk (va_up L1 1 q) (fun _ => 0) (fun _ _ => 0)) ++ rw)) := gr1 (a := [(h, .inr (5, oF ksD (va_up L1 1 q) (fun _ => 0)))]) (b := (oX 6 q ksT spT tk LT (fun _ => 0) (fun _ _ => 0))) (r := (oA (spD.take 1) tk L1 (fun _ _ => 0) ++ rw)) hst
  have hst : St dC dI A s.heap H locs ((fun u : (Nat → Nat) × (Nat → Nat) => oW 5 h ksD spD tk u.1 (fun _ => 0) (fun _ _ => 0) (oW 6 (u.1 1) ksT spT tk u.2 (fun _ => 0) (fun _ _ => 0) rw)) (va_up L1 1 q, LT)) := gr1 hst
  exact rt_vn (u := (va_up L1 1 q, LT)) (wf := (fun u : (Nat → Nat) × (Nat → Nat) => oW 5 h ksD spD tk u.1 (fun _ => 0) (fun _ _ => 0) (oW 6 (u.1 1) ksT spT tk u.2 (fun _ => 0) (fun _ _ => 0) rw))) hx hb hr hlk hst d_D_init_22
