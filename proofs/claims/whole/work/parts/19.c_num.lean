/-! decimal digits -/
def dgs : Nat → Nat → List Int32
  | 0, _ => []
  | f + 1, w => if w < 10 then [nI (48 + w)] else dgs f (w / 10) ++ [nI (48 + w % 10)]
theorem dgs_e (f w : Nat) : dgs (f + 1) w = if w < 10 then [nI (48 + w)] else dgs f (w / 10) ++ [nI (48 + w % 10)] := rfl
theorem dgs_f : ∀ (f w : Nat), 1 ≤ f → w < 10 ^ f → dgs (f + 1) w = dgs f w := by
  intro f
  induction f with
  | zero => intro w h; omega
  | succ f ih =>
    intro w _ hw
    rw [dgs_e (f + 1) w, dgs_e f w]
    by_cases h : w < 10
    · rw [if_pos h, if_pos h]
    · rw [if_neg h, if_neg h]
      have hf : 1 ≤ f := by
        cases f with
        | zero => omega
        | succ k => omega
      rw [ih (w / 10) hf (by rw [Nat.pow_succ] at hw; omega)]
theorem dgs_s {w : Nat} (h : w < 10 ^ 9) (h1 : 10 ≤ w) : dgs 10 w = dgs 10 (w / 10) ++ [nI (48 + w % 10)] := by
  rw [dgs, if_neg (by omega), dgs_f 9 (w / 10) (by decide) (by omega)]
theorem dgs_0 {w : Nat} (h : w < 10) : dgs 10 w = [nI (48 + w)] := by rw [dgs, if_pos h]
theorem dgs_l : ∀ (i w : Nat), 1 ≤ i → i ≤ 9 → (i = 1 ∨ 10 ^ (i - 1) ≤ w) → w < 10 ^ i → (dgs 10 w).length = i := by
  intro i
  induction i with
  | zero => intro w h; omega
  | succ i ih =>
    intro w _ h9 h1 h2
    cases i with
    | zero =>
      rw [dgs_0 (by omega)]
      rfl
    | succ k =>
      have hk : 10 ^ (k + 1) ≤ w := by rcases h1 with h1 | h1; omega; exact h1
      have e1 : 10 ^ (k + 1) = 10 ^ k * 10 := Nat.pow_succ ..
      have e2 : 10 ^ (k + 1 + 1) = 10 ^ (k + 1) * 10 := Nat.pow_succ ..
      have p1 : 0 < 10 ^ k := Nat.pow_pos (by decide)
      have hw9 : w < 10 ^ 9 := Nat.lt_of_lt_of_le h2 (Nat.pow_le_pow_right (by decide) h9)
      rw [dgs_s hw9 (by omega), List.length_append, ih (w / 10) (by omega) (by omega) (by
        cases k with
        | zero => left; rfl
        | succ j => right; show 10 ^ (j + 1) ≤ w / 10; omega) (by omega)]
      rfl
def sg (b : Bool) (w : Nat) : Int32 := if b = true then -(nI w) else nI w
def dTw (b : Bool) (w : Nat) : List Int32 := (if b = true then [45] else []) ++ dgs 10 w
def sgn (b : Bool) : Nat := if b = true then 1 else 0
theorem dTw_len (b : Bool) (w : Nat) : (dTw b w).length = sgn b + (dgs 10 w).length := by
  unfold dTw sgn
  cases b <;> simp [Nat.add_comm]
theorem dTw_100 {b : Bool} {w : Nat} (h : w < 10 ^ 9) (h1 : 100 ≤ w) : dTw b w = dTw b (w / 100) ++ [nI (48 + w % 100 / 10), nI (48 + w % 100 % 10)] := by
  unfold dTw
  rw [dgs_s h (by omega), dgs_s (w := w / 10) (by omega) (by omega), Nat.div_div_eq_div_mul, show w / 10 % 10 = w % 100 / 10 by omega, show w % 10 = w % 100 % 10 by omega, List.append_assoc, List.append_assoc]
  rfl
theorem nN_toInt {a : Nat} (h : a < 2 ^ 31) : (-(nI a)).toInt = -(a : Int) := by
  rw [Int32.toInt_neg, nI_toInt h]
  exact Int.bmod_eq_of_le (by omega) (by omega)
theorem nN_le {a b : Nat} (ha : a < 2 ^ 31) (hb : b < 2 ^ 31) : -(nI a) ≤ -(nI b) ↔ b ≤ a := by
  rw [Int32.le_iff_toInt_le, nN_toInt ha, nN_toInt hb]
  omega
theorem nN_lt {a b : Nat} (ha : a < 2 ^ 31) (hb : b < 2 ^ 31) : -(nI a) < -(nI b) ↔ b < a := by
  rw [Int32.lt_iff_toInt_lt, nN_toInt ha, nN_toInt hb]
  omega
theorem nN_div {a : Nat} (ha : a < 2 ^ 31) : -(nI a) / 100 = -(nI (a / 100)) := by
  apply Int32.toInt_inj.mp
  rw [Int32.toInt_div, nN_toInt ha, nN_toInt (by omega), show (100 : Int32).toInt = 100 from rfl, Int.neg_tdiv, Int.tdiv_eq_ediv_of_nonneg (by omega)]
  rw [show ((a / 100 : Nat) : Int) = (a : Int) / 100 by omega]
  exact Int.bmod_eq_of_le (by omega) (by omega)
theorem nN_rem {a : Nat} : -(nI (a / 100)) * 100 - -(nI a) = nI (a % 100) := by
  have e : nI a = nI (a / 100) * 100 + nI (a % 100) := by
    rw [show (100 : Int32) = nI 100 from rfl, pk_mul, nI_add]
    congr 1
    omega
  rw [Int32.sub_eq_add_neg, Int32.neg_neg, e, Int32.neg_mul, ← Int32.add_assoc, Int32.add_left_neg, Int32.zero_add]
theorem d_iz_0 : decode prog_17_method_13_code 0 = .ok (.iconst 1, 1) := by decide +kernel
theorem d_iz_1 : decode prog_17_method_13_code 1 = .ok (.istore_n 1, 1) := by decide +kernel
theorem d_iz_2 : decode prog_17_method_13_code 2 = .ok (.iload_n 0, 1) := by decide +kernel
theorem d_iz_3 : decode prog_17_method_13_code 3 = .ok (.ifCond .lt 8, 3) := by decide +kernel
theorem d_iz_6 : decode prog_17_method_13_code 6 = .ok (.iconst 0, 1) := by decide +kernel
theorem d_iz_7 : decode prog_17_method_13_code 7 = .ok (.istore_n 1, 1) := by decide +kernel
theorem d_iz_8 : decode prog_17_method_13_code 8 = .ok (.iload_n 0, 1) := by decide +kernel
theorem d_iz_9 : decode prog_17_method_13_code 9 = .ok (.ineg, 1) := by decide +kernel
theorem d_iz_10 : decode prog_17_method_13_code 10 = .ok (.istore_n 0, 1) := by decide +kernel
theorem d_iz_11 : decode prog_17_method_13_code 11 = .ok (.bipush (-10), 2) := by decide +kernel
theorem d_iz_13 : decode prog_17_method_13_code 13 = .ok (.istore_n 2, 1) := by decide +kernel
theorem d_iz_14 : decode prog_17_method_13_code 14 = .ok (.iconst 1, 1) := by decide +kernel
theorem d_iz_15 : decode prog_17_method_13_code 15 = .ok (.istore_n 3, 1) := by decide +kernel
theorem d_iz_16 : decode prog_17_method_13_code 16 = .ok (.iload_n 3, 1) := by decide +kernel
theorem d_iz_17 : decode prog_17_method_13_code 17 = .ok (.bipush 10, 2) := by decide +kernel
theorem d_iz_19 : decode prog_17_method_13_code 19 = .ok (.if_icmp .ge 23, 3) := by decide +kernel
theorem d_iz_22 : decode prog_17_method_13_code 22 = .ok (.iload_n 0, 1) := by decide +kernel
theorem d_iz_23 : decode prog_17_method_13_code 23 = .ok (.iload_n 2, 1) := by decide +kernel
theorem d_iz_24 : decode prog_17_method_13_code 24 = .ok (.if_icmp .le 7, 3) := by decide +kernel
theorem d_iz_27 : decode prog_17_method_13_code 27 = .ok (.iload_n 3, 1) := by decide +kernel
theorem d_iz_28 : decode prog_17_method_13_code 28 = .ok (.iload_n 1, 1) := by decide +kernel
theorem d_iz_29 : decode prog_17_method_13_code 29 = .ok (.iadd, 1) := by decide +kernel
theorem d_iz_30 : decode prog_17_method_13_code 30 = .ok (.ireturn, 1) := by decide +kernel
theorem d_iz_31 : decode prog_17_method_13_code 31 = .ok (.bipush 10, 2) := by decide +kernel
theorem d_iz_33 : decode prog_17_method_13_code 33 = .ok (.iload_n 2, 1) := by decide +kernel
theorem d_iz_34 : decode prog_17_method_13_code 34 = .ok (.imul, 1) := by decide +kernel
theorem d_iz_35 : decode prog_17_method_13_code 35 = .ok (.istore_n 2, 1) := by decide +kernel
theorem d_iz_36 : decode prog_17_method_13_code 36 = .ok (.iinc 3 1, 3) := by decide +kernel
theorem d_iz_39 : decode prog_17_method_13_code 39 = .ok (.goto (-23), 3) := by decide +kernel
theorem d_iz_42 : decode prog_17_method_13_code 42 = .ok (.bipush 10, 2) := by decide +kernel
theorem d_iz_44 : decode prog_17_method_13_code 44 = .ok (.iload_n 1, 1) := by decide +kernel
theorem d_iz_45 : decode prog_17_method_13_code 45 = .ok (.iadd, 1) := by decide +kernel
theorem d_iz_46 : decode prog_17_method_13_code 46 = .ok (.ireturn, 1) := by decide +kernel
set_option maxHeartbeats 1000000 in
theorem c_iz (l : Launch) (dC : Nat → ClassId) (dI : Nat → Nat → Nat) (tk : Nat → ClassId) (A : Nat → Prop) (ws : va_W) (b : Bool) (w : Nat) (hw : w < 10 ^ 9) (hb1 : b = true → 1 ≤ w) : CtI l dC dI tk A ⟨"java/lang/Integer", "stringSize", "(I)I"⟩ prog_17_method_13_code 4 (some .int) 0 0 [.int (sg b w)] ws (nI (dTw b w).length) ws := by
  refine ent (by decide) (Nat.le_of_ble_eq_true rfl) ?_
  intro p e s m args below meth c hx hb hr hml hown hlk hG hg hst ls hl
  have hl : lv_has ls 4 [(0, .int (sg b w))] := hl
  have key : ∀ (d i : Nat), i + d = 9 → 1 ≤ i → (i = 1 ∨ 10 ^ (i - 1) ≤ w) → ∀ ls : Array Slot, lv_has ls 4 [(0, .int (-(nI w))), (1, .int (nI (sgn b))), (2, .int (-(nI (10 ^ i)))), (3, .int (nI i))] → W p l e (rmo 0 0) s m args below meth c s.heap [] 0 0 (MQ below (QI dC dI A (nI (dTw b w).length) ws) args s 0 0 A) (F0 m 16 ls []) := by
    intro d
    induction d with
    | zero =>
        intro i hi h1 h2 ls hl
        have p10 : 10 ^ i ≤ 10 ^ 9 := Nat.pow_le_pow_right (by decide) (by omega)
        have p1 : 10 ^ i < 2 ^ 31 := Nat.lt_of_le_of_lt p10 (by decide)
        refine lv_iload_n hx hb d_iz_16 rfl (lv_at hl 3 rfl) ?_
        refine lv_bipush (v := 10) hx hb d_iz_17 (by decide) ?_
        refine lv_icmp_ge (tgt := 42) hx hb d_iz_19 (by decide) (fun h9 => absurd h9 (show ¬ nI 10 ≤ nI i from nI_ge (by omega) (by decide))) (fun _ => ?_)
        refine lv_iload_n hx hb d_iz_22 rfl (lv_at hl 0 rfl) ?_
        refine lv_iload_n hx hb d_iz_23 rfl (lv_at hl 2 rfl) ?_
        obtain rfl : i = 9 := by omega
        refine lv_icmp_le (tgt := 31) hx hb d_iz_24 (by decide) (fun h9 => absurd h9 (fun h9 => absurd ((nN_le (by omega) (by decide)).mp h9) (by omega))) (fun _ => ?_)
        refine lv_iload_n hx hb d_iz_27 rfl (lv_at hl 3 rfl) ?_
        refine lv_iload_n hx hb d_iz_28 rfl (lv_at hl 1 rfl) ?_
        refine lv_iadd hx hb d_iz_29 ?_
        exact rt_i hx hb hr hlk rfl hst (by rw [nI_add, dTw_len, dgs_l _ w h1 (by omega) h2 (by omega), Nat.add_comm]) d_iz_30
    | succ d ih =>
        intro i hi h1 h2 ls hl
        have p10 : 10 ^ i ≤ 10 ^ 9 := Nat.pow_le_pow_right (by decide) (by omega)
        have p1 : 10 ^ i < 2 ^ 31 := Nat.lt_of_le_of_lt p10 (by decide)
        refine lv_iload_n hx hb d_iz_16 rfl (lv_at hl 3 rfl) ?_
        refine lv_bipush (v := 10) hx hb d_iz_17 (by decide) ?_
        refine lv_icmp_ge (tgt := 42) hx hb d_iz_19 (by decide) (fun h9 => absurd h9 (show ¬ nI 10 ≤ nI i from nI_ge (by omega) (by decide))) (fun _ => ?_)
        refine lv_iload_n hx hb d_iz_22 rfl (lv_at hl 0 rfl) ?_
        refine lv_iload_n hx hb d_iz_23 rfl (lv_at hl 2 rfl) ?_
        by_cases hc : 10 ^ i ≤ w
        · refine lv_icmp_le (tgt := 31) hx hb d_iz_24 (by decide) (fun _ => ?_) (fun h9 => absurd ((nN_le (by omega) p1).mpr hc) h9)
          refine lv_bipush (v := 10) hx hb d_iz_31 (by decide) ?_
          refine lv_iload_n hx hb d_iz_33 rfl (lv_at hl 2 rfl) ?_
          refine lv_imul hx hb d_iz_34 ?_
          refine W.eq (g2 := F0 m 35 ls [.int (-(nI (10 ^ (i + 1))))]) (by rw [show 10 * -(nI (10 ^ i)) = -(nI (10 ^ (i + 1))) by rw [show (10 : Int32) = nI 10 from rfl, Int32.mul_neg, pk_mul, Nat.pow_succ, Nat.mul_comm]]) ?_
          refine lv_istore_n (lv' := [(2, .int (-(nI (10 ^ (i + 1))))), (0, .int (-(nI w))), (1, .int (nI (sgn b))), (3, .int (nI i))]) hx hb d_iz_35 rfl hl (by decide) rfl (fun ls hl => ?_)
          refine lv_iinc (k := 3) (v := ((nI i) + 1)) (lv' := [(3, .int ((nI i) + 1)), (2, .int (-(nI (10 ^ (i + 1))))), (0, .int (-(nI w))), (1, .int (nI (sgn b)))]) hx hb d_iz_36 hl rfl (by rfl) (by decide) rfl (fun ls hl => ?_)
          refine lv_goto (tgt := 16) hx hb d_iz_39 (by decide) ?_
          rw [nI_1] at hl
          exact ih (i + 1) (by omega) (by omega) (Or.inr hc) ls (lv_sub hl [2, 3, 1, 0] rfl)
        · refine lv_icmp_le (tgt := 31) hx hb d_iz_24 (by decide) (fun h9 => absurd ((nN_le (by omega) p1).mp h9) hc) (fun _ => ?_)
          refine lv_iload_n hx hb d_iz_27 rfl (lv_at hl 3 rfl) ?_
          refine lv_iload_n hx hb d_iz_28 rfl (lv_at hl 1 rfl) ?_
          refine lv_iadd hx hb d_iz_29 ?_
          exact rt_i hx hb hr hlk rfl hst (by rw [nI_add, dTw_len, dgs_l _ w h1 (by omega) h2 (by omega), Nat.add_comm]) d_iz_30
  have fin : ∀ ls : Array Slot, lv_has ls 4 [(0, .int (-(nI w))), (1, .int (nI (sgn b)))] → W p l e (rmo 0 0) s m args below meth c s.heap [] 0 0 (MQ below (QI dC dI A (nI (dTw b w).length) ws) args s 0 0 A) (F0 m 11 ls []) := by
    intro ls hl
    refine lv_bipush (v := (-10)) hx hb d_iz_11 (by decide) ?_
    refine lv_istore_n (lv' := [(2, .int (-10)), (0, .int (-(nI w))), (1, .int (nI (sgn b)))]) hx hb d_iz_13 rfl hl (by decide) rfl (fun ls hl => ?_)
    refine lv_iconst (v := 1) hx hb d_iz_14 (by decide) ?_
    refine lv_istore_n (lv' := [(3, .int 1), (2, .int (-10)), (0, .int (-(nI w))), (1, .int (nI (sgn b)))]) hx hb d_iz_15 rfl hl (by decide) rfl (fun ls hl => ?_)
    exact key 8 1 rfl (Nat.le_refl 1) (Or.inl rfl) ls (lv_sub hl [2, 3, 1, 0] rfl)
  refine lv_iconst (v := 1) hx hb d_iz_0 (by decide) ?_
  refine lv_istore_n (lv' := [(1, .int 1), (0, .int (sg b w))]) hx hb d_iz_1 rfl hl (by decide) rfl (fun ls hl => ?_)
  refine lv_iload_n hx hb d_iz_2 rfl (lv_at hl 1 rfl) ?_
  cases b with
  | true =>
    have hneg : sg true w < 0 := by show -(nI w) < 0; rw [Int32.lt_iff_toInt_lt, nN_toInt (by omega), Int32.toInt_zero]; have := hb1 rfl; omega
    refine lv_if_lt (tgt := 11) hx hb d_iz_3 (by decide) (fun _ => ?_) (fun h9 => absurd hneg h9)
    exact fin ls (lv_sub hl [1, 0] rfl)
  | false =>
    have hneg : ¬ sg false w < 0 := nI_pos (by omega)
    refine lv_if_lt (tgt := 11) hx hb d_iz_3 (by decide) (fun h9 => absurd h9 hneg) (fun _ => ?_)
    refine lv_iconst (v := 0) hx hb d_iz_6 (by decide) ?_
    refine lv_istore_n (lv' := [(1, .int 0), (0, .int (sg false w))]) hx hb d_iz_7 rfl hl (by decide) rfl (fun ls hl => ?_)
    refine lv_iload_n hx hb d_iz_8 rfl (lv_at hl 1 rfl) ?_
    refine lv_ineg hx hb d_iz_9 ?_
    refine lv_istore_n (lv' := [(0, .int (-(sg false w))), (1, .int 0)]) hx hb d_iz_10 rfl hl (by decide) rfl (fun ls hl => ?_)
    exact fin ls (lv_sub hl [0, 1] rfl)
/-- the digits of w stand in front of place P -/
def gcP (b : Bool) (w P : Nat) (a a2 : Nat → Int32) : Prop := sb_Fit a2 ∧ (∀ j, j < P - (dTw b w).length → a2 j = a j) ∧ (∀ j, P ≤ j → a2 j = a j) ∧ ∀ j, j < (dTw b w).length → a2 (P - (dTw b w).length + j) = (dTw b w).getD j 0
theorem gcP_100 {b : Bool} {w P : Nat} {a a2 : Nat → Int32} (h : w < 10 ^ 9) (h1 : 100 ≤ w) (hP : (dTw b w).length ≤ P) (hg : gcP b (w / 100) (P - 2) (upd (upd a (P - 1) (nI (48 + w % 100 % 10))) (P - 2) (nI (48 + w % 100 / 10))) a2) : gcP b w P a a2 := by
  have e := dTw_100 (b := b) h h1
  have el : (dTw b w).length = (dTw b (w / 100)).length + 2 := by rw [e, List.length_append]; rfl
  obtain ⟨g1, g2, g3, g4⟩ := hg
  refine ⟨g1, fun j hj => ?_, fun j hj => ?_, fun j hj => ?_⟩
  · rw [g2 j (by omega), pk_un (by omega), pk_un (by omega)]
  · rw [g3 j (by omega), pk_un (by omega), pk_un (by omega)]
  · have hr : (dTw b w).getD j 0 = (dTw b (w / 100) ++ [nI (48 + w % 100 / 10), nI (48 + w % 100 % 10)]).getD j 0 := by rw [← e]
    rw [hr, List.getD_eq_getElem?_getD]
    by_cases hlt : j < (dTw b (w / 100)).length
    · rw [List.getElem?_append_left hlt, ← List.getD_eq_getElem?_getD, ← g4 j hlt]
      congr 1
      omega
    · rw [List.getElem?_append_right (by omega)]
      rcases (by omega : j - (dTw b (w / 100)).length = 0 ∨ j - (dTw b (w / 100)).length = 1) with e9 | e9
      · rw [e9, g3 _ (by omega), show P - (dTw b w).length + j = P - 2 by omega, pk_us]
        rfl
      · rw [e9, g3 _ (by omega), show P - (dTw b w).length + j = P - 1 by omega, pk_un (by omega), pk_us]
        rfl
theorem nI_dec {k : Nat} (h : 1 ≤ k) : nI k + (-1) = nI (k - 1) := by
  rw [← pk_sub h, Int32.sub_eq_add_neg]
  rfl
theorem gcP_end1f {v R2 : Nat} {a : Nat → Int32} (hv : v < 10 ^ 9) (hf : sb_Fit a) (hR : 1 ≤ R2) (h10 : v < 10) : gcP false v R2 a (upd a (R2 - 1) (nI (48 + v % 10))) := by
  have e : dTw false v = [nI (48 + v % 10)] := by unfold dTw; rw [dgs_0 h10, Nat.mod_eq_of_lt h10]; rfl
  unfold gcP
  rw [e]
  refine ⟨sb_fitU hf (asc_b _ (by omega)).2.2.1, fun j hj => pk_un (by have : j < R2 - 1 := hj; omega), fun j hj => pk_un (by omega), fun j hj => ?_⟩
  obtain rfl : j = 0 := by have : j < 1 := hj; omega
  exact pk_us
theorem gcP_end2f {v R2 : Nat} {a : Nat → Int32} (hv : v < 10 ^ 9) (hf : sb_Fit a) (hR : 2 ≤ R2 ∧ v < 100) (h10 : 10 ≤ v) : gcP false v R2 a (upd (upd a (R2 - 1) (nI (48 + v % 10))) (R2 - 1 - 1) (nI (48 + v / 10))) := by
  have e : dTw false v = [nI (48 + v / 10), nI (48 + v % 10)] := by unfold dTw; rw [dgs_s hv h10, dgs_0 (by omega)]; rfl
  unfold gcP
  rw [e]
  refine ⟨sb_fitU (sb_fitU hf (asc_b _ (by omega)).2.2.1) (asc_b _ (by omega)).2.2.1, fun j hj => ?_, fun j hj => ?_, fun j hj => ?_⟩
  · have h9 : j < R2 - 2 := hj
    rw [pk_un (by omega), pk_un (by omega)]
  · rw [pk_un (by omega), pk_un (by omega)]
  · have h9 : j < 2 := hj
    show upd (upd a (R2 - 1) (nI (48 + v % 10))) (R2 - 1 - 1) (nI (48 + v / 10)) (R2 - 2 + j) = _
    rcases (by omega : j = 0 ∨ j = 1) with rfl | rfl
    · rw [show R2 - 2 + 0 = R2 - 1 - 1 by omega, pk_us]
      rfl
    · rw [pk_un (by omega), show R2 - 2 + 1 = R2 - 1 by omega, pk_us]
      rfl
theorem gcP_neg {v R2 : Nat} {a a2 : Nat → Int32} (hP : (dTw false v).length + 1 ≤ R2) (h : gcP false v R2 a a2) : gcP true v R2 a (upd a2 (R2 - (dTw false v).length - 1) 45) := by
  have e : dTw true v = 45 :: dTw false v := rfl
  obtain ⟨g1, g2, g3, g4⟩ := h
  unfold gcP
  rw [e, List.length_cons]
  refine ⟨sb_fitU g1 (by decide +kernel), fun j hj => ?_, fun j hj => ?_, fun j hj => ?_⟩
  · rw [pk_un (by omega), g2 j (by omega)]
  · rw [pk_un (by omega), g3 j hj]
  · cases j with
    | zero =>
      rw [show R2 - ((dTw false v).length + 1) + 0 = R2 - (dTw false v).length - 1 by omega, pk_us]
      rfl
    | succ j =>
      rw [pk_un (by omega), show R2 - ((dTw false v).length + 1) + (j + 1) = R2 - (dTw false v).length + j by omega, g4 j (by omega)]
      rfl
theorem gcP_end1t {v R2 : Nat} {a : Nat → Int32} (hv : v < 10 ^ 9) (hb : true = true → 1 ≤ v) (hf : sb_Fit a) (hR : 2 ≤ R2) (h10 : v < 10) : gcP true v R2 a (upd (upd a (R2 - 1) (nI (48 + v % 10))) (R2 - 1 - 1) 45) := by
  have e : (dTw false v).length = 1 := by unfold dTw; rw [dgs_0 h10]; rfl
  have h := gcP_neg (by omega) (gcP_end1f (R2 := R2) hv hf (by omega) h10)
  rw [e] at h
  exact h
theorem gcP_end2t {v R2 : Nat} {a : Nat → Int32} (hv : v < 10 ^ 9) (hb : true = true → 1 ≤ v) (hf : sb_Fit a) (hR : 3 ≤ R2 ∧ v < 100) (h10 : 10 ≤ v) : gcP true v R2 a (upd (upd (upd a (R2 - 1) (nI (48 + v % 10))) (R2 - 1 - 1) (nI (48 + v / 10))) (R2 - 1 - 1 - 1) 45) := by
  have e : (dTw false v).length = 2 := by unfold dTw; rw [dgs_s hv h10, dgs_0 (by omega)]; rfl
  have h := gcP_neg (by omega) (gcP_end2f (R2 := R2) hv hf ⟨by omega, hR.2⟩ h10)
  rw [e, show R2 - 2 - 1 = R2 - 1 - 1 - 1 by omega] at h
  exact h
theorem d_ig_0 : decode prog_17_method_12_code 0 = .ok (.iload_n 1, 1) := by decide +kernel
theorem d_ig_1 : decode prog_17_method_12_code 1 = .ok (.istore 5, 2) := by decide +kernel
theorem d_ig_3 : decode prog_17_method_12_code 3 = .ok (.iload_n 0, 1) := by decide +kernel
theorem d_ig_4 : decode prog_17_method_12_code 4 = .ok (.ifCond .ge 7, 3) := by decide +kernel
theorem d_ig_7 : decode prog_17_method_12_code 7 = .ok (.iconst 1, 1) := by decide +kernel
theorem d_ig_8 : decode prog_17_method_12_code 8 = .ok (.goto 4, 3) := by decide +kernel
theorem d_ig_11 : decode prog_17_method_12_code 11 = .ok (.iconst 0, 1) := by decide +kernel
theorem d_ig_12 : decode prog_17_method_12_code 12 = .ok (.istore 6, 2) := by decide +kernel
theorem d_ig_14 : decode prog_17_method_12_code 14 = .ok (.iload 6, 2) := by decide +kernel
theorem d_ig_16 : decode prog_17_method_12_code 16 = .ok (.ifCond .ne 6, 3) := by decide +kernel
theorem d_ig_19 : decode prog_17_method_12_code 19 = .ok (.iload_n 0, 1) := by decide +kernel
theorem d_ig_20 : decode prog_17_method_12_code 20 = .ok (.ineg, 1) := by decide +kernel
theorem d_ig_21 : decode prog_17_method_12_code 21 = .ok (.istore_n 0, 1) := by decide +kernel
theorem d_ig_22 : decode prog_17_method_12_code 22 = .ok (.iload_n 0, 1) := by decide +kernel
theorem d_ig_23 : decode prog_17_method_12_code 23 = .ok (.bipush (-100), 2) := by decide +kernel
theorem d_ig_25 : decode prog_17_method_12_code 25 = .ok (.if_icmp .gt 47, 3) := by decide +kernel
theorem d_ig_28 : decode prog_17_method_12_code 28 = .ok (.iload_n 0, 1) := by decide +kernel
theorem d_ig_29 : decode prog_17_method_12_code 29 = .ok (.bipush 100, 2) := by decide +kernel
theorem d_ig_31 : decode prog_17_method_12_code 31 = .ok (.idiv, 1) := by decide +kernel
theorem d_ig_32 : decode prog_17_method_12_code 32 = .ok (.istore_n 3, 1) := by decide +kernel
theorem d_ig_33 : decode prog_17_method_12_code 33 = .ok (.iload_n 3, 1) := by decide +kernel
theorem d_ig_34 : decode prog_17_method_12_code 34 = .ok (.bipush 100, 2) := by decide +kernel
theorem d_ig_36 : decode prog_17_method_12_code 36 = .ok (.imul, 1) := by decide +kernel
theorem d_ig_37 : decode prog_17_method_12_code 37 = .ok (.iload_n 0, 1) := by decide +kernel
theorem d_ig_38 : decode prog_17_method_12_code 38 = .ok (.isub, 1) := by decide +kernel
theorem d_ig_39 : decode prog_17_method_12_code 39 = .ok (.istore 4, 2) := by decide +kernel
theorem d_ig_41 : decode prog_17_method_12_code 41 = .ok (.iload_n 3, 1) := by decide +kernel
theorem d_ig_42 : decode prog_17_method_12_code 42 = .ok (.istore_n 0, 1) := by decide +kernel
theorem d_ig_43 : decode prog_17_method_12_code 43 = .ok (.aload_n 2, 1) := by decide +kernel
theorem d_ig_44 : decode prog_17_method_12_code 44 = .ok (.iinc 5 (-1), 3) := by decide +kernel
theorem d_ig_47 : decode prog_17_method_12_code 47 = .ok (.iload 5, 2) := by decide +kernel
theorem d_ig_49 : decode prog_17_method_12_code 49 = .ok (.getstatic 83, 3) := by decide +kernel
theorem d_ig_52 : decode prog_17_method_12_code 52 = .ok (.iload 4, 2) := by decide +kernel
theorem d_ig_54 : decode prog_17_method_12_code 54 = .ok (.baload, 1) := by decide +kernel
theorem d_ig_55 : decode prog_17_method_12_code 55 = .ok (.bastore, 1) := by decide +kernel
theorem d_ig_56 : decode prog_17_method_12_code 56 = .ok (.aload_n 2, 1) := by decide +kernel
theorem d_ig_57 : decode prog_17_method_12_code 57 = .ok (.iinc 5 (-1), 3) := by decide +kernel
theorem d_ig_60 : decode prog_17_method_12_code 60 = .ok (.iload 5, 2) := by decide +kernel
theorem d_ig_62 : decode prog_17_method_12_code 62 = .ok (.getstatic 87, 3) := by decide +kernel
theorem d_ig_65 : decode prog_17_method_12_code 65 = .ok (.iload 4, 2) := by decide +kernel
theorem d_ig_67 : decode prog_17_method_12_code 67 = .ok (.baload, 1) := by decide +kernel
theorem d_ig_68 : decode prog_17_method_12_code 68 = .ok (.bastore, 1) := by decide +kernel
theorem d_ig_69 : decode prog_17_method_12_code 69 = .ok (.goto (-47), 3) := by decide +kernel
theorem d_ig_72 : decode prog_17_method_12_code 72 = .ok (.aload_n 2, 1) := by decide +kernel
theorem d_ig_73 : decode prog_17_method_12_code 73 = .ok (.iinc 5 (-1), 3) := by decide +kernel
theorem d_ig_76 : decode prog_17_method_12_code 76 = .ok (.iload 5, 2) := by decide +kernel
theorem d_ig_78 : decode prog_17_method_12_code 78 = .ok (.getstatic 83, 3) := by decide +kernel
theorem d_ig_81 : decode prog_17_method_12_code 81 = .ok (.iload_n 0, 1) := by decide +kernel
theorem d_ig_82 : decode prog_17_method_12_code 82 = .ok (.ineg, 1) := by decide +kernel
theorem d_ig_83 : decode prog_17_method_12_code 83 = .ok (.baload, 1) := by decide +kernel
theorem d_ig_84 : decode prog_17_method_12_code 84 = .ok (.bastore, 1) := by decide +kernel
theorem d_ig_85 : decode prog_17_method_12_code 85 = .ok (.iload_n 0, 1) := by decide +kernel
theorem d_ig_86 : decode prog_17_method_12_code 86 = .ok (.bipush (-9), 2) := by decide +kernel
theorem d_ig_88 : decode prog_17_method_12_code 88 = .ok (.if_icmp .ge 16, 3) := by decide +kernel
theorem d_ig_91 : decode prog_17_method_12_code 91 = .ok (.aload_n 2, 1) := by decide +kernel
theorem d_ig_92 : decode prog_17_method_12_code 92 = .ok (.iinc 5 (-1), 3) := by decide +kernel
theorem d_ig_95 : decode prog_17_method_12_code 95 = .ok (.iload 5, 2) := by decide +kernel
theorem d_ig_97 : decode prog_17_method_12_code 97 = .ok (.getstatic 87, 3) := by decide +kernel
theorem d_ig_100 : decode prog_17_method_12_code 100 = .ok (.iload_n 0, 1) := by decide +kernel
theorem d_ig_101 : decode prog_17_method_12_code 101 = .ok (.ineg, 1) := by decide +kernel
theorem d_ig_102 : decode prog_17_method_12_code 102 = .ok (.baload, 1) := by decide +kernel
theorem d_ig_103 : decode prog_17_method_12_code 103 = .ok (.bastore, 1) := by decide +kernel
theorem d_ig_104 : decode prog_17_method_12_code 104 = .ok (.iload 6, 2) := by decide +kernel
theorem d_ig_106 : decode prog_17_method_12_code 106 = .ok (.ifCond .eq 12, 3) := by decide +kernel
theorem d_ig_109 : decode prog_17_method_12_code 109 = .ok (.aload_n 2, 1) := by decide +kernel
theorem d_ig_110 : decode prog_17_method_12_code 110 = .ok (.iinc 5 (-1), 3) := by decide +kernel
theorem d_ig_113 : decode prog_17_method_12_code 113 = .ok (.iload 5, 2) := by decide +kernel
theorem d_ig_115 : decode prog_17_method_12_code 115 = .ok (.bipush 45, 2) := by decide +kernel
theorem d_ig_117 : decode prog_17_method_12_code 117 = .ok (.bastore, 1) := by decide +kernel
theorem d_ig_118 : decode prog_17_method_12_code 118 = .ok (.iload 5, 2) := by decide +kernel
theorem d_ig_120 : decode prog_17_method_12_code 120 = .ok (.ireturn, 1) := by decide +kernel
set_option maxHeartbeats 4000000 in
theorem c_ig (l : Launch) (dC : Nat → ClassId) (dI : Nat → Nat → Nat) (tk : Nat → ClassId) (A : Nat → Prop) (q1 c1 : Nat) (a1 : Nat → Int32) (hf : sb_Fit a1) (rw : va_W) (b : Bool) (w P : Nat) (hw : w < 10 ^ 9) (hb1 : b = true → 1 ≤ w) (hP : (dTw b w).length ≤ P) (hPc : P ≤ c1) (hc1 : c1 ≤ 34) : CtM l dC dI tk A ⟨"java/lang/Integer", "getChars", "(II[B)I"⟩ prog_17_method_12_code 7 (some .int) 0 0 0 0 [.int (sg b w), .int (nI P), .ref q1] ((q1, .inl (tk 3, c1, .inl a1)) :: rw) (QIp dC dI A (fun a2 : Nat → Int32 => gcP b w P a1 a2) (nI (P - (dTw b w).length)) (fun a2 => (q1, .inl (tk 3, c1, .inl a2)) :: rw)) := by
  refine entN (by decide) (Nat.le_of_ble_eq_true rfl) ?_
  intro p e s m args below meth c hx hb hr hml hown hlk hin hG hg hst ls hl
  have hl : lv_has ls 7 [(0, .int (sg b w)), (1, .int (nI P)), (2, .ref q1)] := hl
  obtain ⟨z1, z2, z3, z4⟩ := (⟨hg.2.2.2.2.2.2.1, hg.2.2.2.2.2.2.2.1, hg.2.2.2.2.2.2.2.2.1, hg.2.2.2.2.2.2.2.2.2.1⟩ : _ ∧ _ ∧ _ ∧ _)
  have key : ∀ (N v R2 : Nat) (a : Nat → Int32), v ≤ N → v < 10 ^ 9 → (b = true → 1 ≤ v) → (dTw b v).length ≤ R2 → R2 ≤ c1 → sb_Fit a → R2 - (dTw b v).length = P - (dTw b w).length → (∀ a2, gcP b v R2 a a2 → gcP b w P a1 a2) → ∀ (H : Heap) (locs : List Loc) (ls : Array Slot), lv_has ls 7 [(0, .int (-(nI v))), (2, .ref q1), (5, .int (nI R2)), (6, .int (nI (sgn b)))] → St dC dI A s.heap H locs ((q1, .inl (tk 3, c1, .inl a)) :: rw) → W p l e (rmn 0 0 0 0) s m args below meth c H locs 0 0 (MQ below (QIp dC dI A (fun a2 : Nat → Int32 => gcP b w P a1 a2) (nI (P - (dTw b w).length)) (fun a2 => (q1, .inl (tk 3, c1, .inl a2)) :: rw)) args s 0 0 A) (F0 m 22 ls []) := by
    intro N
    induction N with
    | zero =>
        intro v R2 a hvN hv hb2 hR hRc hfa hst2 hK H locs ls hl hst
        have hLv := dTw_len b v
        refine lv_iload_n hx hb d_ig_22 rfl (lv_at hl 0 rfl) ?_
        refine lv_bipush (v := (-100)) hx hb d_ig_23 (by decide) ?_
        by_cases h100 : 100 ≤ v
        · refine lv_icmp_gt (tgt := 72) hx hb d_ig_25 (by decide) (fun h9 => absurd ((nN_lt (a := 100) (b := v) (by decide) (by omega)).mp h9) (by omega)) (fun _ => ?_)
          exact absurd h100 (by omega)
        · refine lv_icmp_gt (tgt := 72) hx hb d_ig_25 (by decide) (fun _ => ?_) (fun h9 => absurd ((nN_lt (a := 100) (b := v) (by decide) (by omega)).mpr (by omega)) h9)
          have dl : (dTw b v).length = sgn b + (dgs 10 v).length := dTw_len b v
          have dpos : 1 ≤ (dgs 10 v).length := by
            by_cases h9 : v < 10
            · rw [dgs_0 h9]; exact Nat.le_refl 1
            · rw [dgs_s hv (by omega), List.length_append]; exact Nat.le_add_left 1 _
          refine lv_aload_n hx hb d_ig_72 rfl (lv_at hl 1 rfl) ?_
          refine lv_iinc (k := 2) (v := (nI (R2 - 1))) (lv' := [(5, .int (nI (R2 - 1))), (0, .int (-(nI v))), (2, .ref q1), (6, .int (nI (sgn b)))]) hx hb d_ig_73 hl rfl (nI_dec (by omega)) (by decide) rfl (fun ls hl => ?_)
          refine lv_iload hx hb d_ig_76 (lv_at hl 0 rfl) ?_
          refine va_gets hx hb z1 hst.2.2 hown (hG _ k_933) (fun _ h9 => h9) d_ig_78 ?_
          refine lv_iload_n hx hb d_ig_81 rfl (lv_at hl 1 rfl) ?_
          refine lv_ineg hx hb d_ig_82 ?_
          refine W.eq (g2 := F0 m 83 ls [.int (nI v), .ref (dI 1002 0), .int (nI (R2 - 1)), .ref q1]) (by rw [Int32.neg_neg]) ?_
          refine va_tb hx hb z2 hst.2.2 (inb_in (inb_n (n := 100) (k := v) (by omega) (by decide))) (v := .int (nI (48 + v % 10))) (by rw [nI_clamp (by omega)]) d_ig_83 ?_
          refine sb_bast hx hb hg hst (inb_n (by omega) (by omega)) d_ig_84 (fun H locs hst => ?_)
          rw [nI_clamp (by omega), (asc_b (48 + v % 10) (by omega)).2.1] at hst
          refine lv_iload_n hx hb d_ig_85 rfl (lv_at hl 1 rfl) ?_
          refine lv_bipush (v := (-9)) hx hb d_ig_86 (by decide) ?_
          by_cases h10 : 10 ≤ v
          · refine lv_icmp_ge (tgt := 104) hx hb d_ig_88 (by decide) (fun h9 => absurd ((nN_le (a := 9) (b := v) (by decide) (by omega)).mp h9) (by omega)) (fun _ => ?_)
            have dl2 : dgs 10 v = [nI (48 + v / 10), nI (48 + v % 10)] := by rw [dgs_s hv h10, dgs_0 (by omega)]; rfl
            have dl3 : (dgs 10 v).length = 2 := by rw [dl2]; rfl
            refine lv_aload_n hx hb d_ig_91 rfl (lv_at hl 2 rfl) ?_
            refine lv_iinc (k := 0) (v := (nI ((R2 - 1) - 1))) (lv' := [(5, .int (nI ((R2 - 1) - 1))), (0, .int (-(nI v))), (2, .ref q1), (6, .int (nI (sgn b)))]) hx hb d_ig_92 hl rfl (nI_dec (by omega)) (by decide) rfl (fun ls hl => ?_)
            refine lv_iload hx hb d_ig_95 (lv_at hl 0 rfl) ?_
            refine va_gets hx hb z3 hst.2.2 hown (hG _ k_935) (fun _ h9 => h9) d_ig_97 ?_
            refine lv_iload_n hx hb d_ig_100 rfl (lv_at hl 1 rfl) ?_
            refine lv_ineg hx hb d_ig_101 ?_
            refine W.eq (g2 := F0 m 102 ls [.int (nI v), .ref (dI 1002 1), .int (nI ((R2 - 1) - 1)), .ref q1]) (by rw [Int32.neg_neg]) ?_
            refine va_tb hx hb z4 hst.2.2 (inb_in (inb_n (n := 100) (k := v) (by omega) (by decide))) (v := .int (nI (48 + v / 10))) (by rw [nI_clamp (by omega)]) d_ig_102 ?_
            refine sb_bast hx hb hg hst (inb_n (by omega) (by omega)) d_ig_103 (fun H locs hst => ?_)
            rw [nI_clamp (by omega), (asc_b (48 + v / 10) (by omega)).2.1] at hst
            refine lv_iload hx hb d_ig_104 (lv_at hl 3 rfl) ?_
            cases b with
            | true =>
              have hs1 : sgn true = 1 := rfl
              refine lv_if_eq (tgt := 118) hx hb d_ig_106 (by decide) (fun h9 => absurd h9 (by decide)) (fun _ => ?_)
              refine lv_aload_n hx hb d_ig_109 rfl (lv_at hl 2 rfl) ?_
              refine lv_iinc (k := 0) (v := (nI (((R2 - 1) - 1) - 1))) (lv' := [(5, .int (nI (((R2 - 1) - 1) - 1))), (0, .int (-(nI v))), (2, .ref q1), (6, .int (nI (sgn true)))]) hx hb d_ig_110 hl rfl (nI_dec (by omega)) (by decide) rfl (fun ls hl => ?_)
              refine lv_iload hx hb d_ig_113 (lv_at hl 0 rfl) ?_
              refine lv_bipush (v := 45) hx hb d_ig_115 (by decide) ?_
              refine sb_bast hx hb hg hst (inb_n (by have : sgn true = 1 := rfl; omega) (by omega)) d_ig_117 (fun H locs hst => ?_)
              rw [nI_clamp (by omega), show vp_nar .byte (45 : Int32) = 45 from by decide +kernel] at hst
              refine lv_iload hx hb d_ig_118 (lv_at hl 0 rfl) ?_
              refine rp_i (wf := fun a2 => (q1, .inl (tk 3, c1, .inl a2)) :: rw) hx hb hr hlk rfl hst (hK _ (gcP_end2t hv hb2 hfa (by omega) h10)) (by rw [← hst2, dl, dl3, hs1] <;> (congr 1; first | done | omega)) d_ig_120
            | false =>
              refine lv_if_eq (tgt := 118) hx hb d_ig_106 (by decide) (fun _ => ?_) (fun h9 => absurd rfl h9)
              refine lv_iload hx hb d_ig_118 (lv_at hl 0 rfl) ?_
              have hs1 : sgn false = 0 := rfl
              refine rp_i (wf := fun a2 => (q1, .inl (tk 3, c1, .inl a2)) :: rw) hx hb hr hlk rfl hst (hK _ (gcP_end2f hv hfa (by omega) h10)) (by rw [← hst2, dl, dl3, hs1] <;> (congr 1; first | done | omega)) d_ig_120
          · refine lv_icmp_ge (tgt := 104) hx hb d_ig_88 (by decide) (fun _ => ?_) (fun h9 => absurd ((nN_le (a := 9) (b := v) (by decide) (by omega)).mpr (by omega)) h9)
            have dl2 : dgs 10 v = [nI (48 + v % 10)] := by rw [dgs_0 (by omega), Nat.mod_eq_of_lt (by omega)]
            have dl3 : (dgs 10 v).length = 1 := by rw [dl2]; rfl
            refine lv_iload hx hb d_ig_104 (lv_at hl 3 rfl) ?_
            cases b with
            | true =>
              have hs1 : sgn true = 1 := rfl
              refine lv_if_eq (tgt := 118) hx hb d_ig_106 (by decide) (fun h9 => absurd h9 (by decide)) (fun _ => ?_)
              refine lv_aload_n hx hb d_ig_109 rfl (lv_at hl 2 rfl) ?_
              refine lv_iinc (k := 0) (v := (nI ((R2 - 1) - 1))) (lv' := [(5, .int (nI ((R2 - 1) - 1))), (0, .int (-(nI v))), (2, .ref q1), (6, .int (nI (sgn true)))]) hx hb d_ig_110 hl rfl (nI_dec (by omega)) (by decide) rfl (fun ls hl => ?_)
              refine lv_iload hx hb d_ig_113 (lv_at hl 0 rfl) ?_
              refine lv_bipush (v := 45) hx hb d_ig_115 (by decide) ?_
              refine sb_bast hx hb hg hst (inb_n (by have : sgn true = 1 := rfl; omega) (by omega)) d_ig_117 (fun H locs hst => ?_)
              rw [nI_clamp (by omega), show vp_nar .byte (45 : Int32) = 45 from by decide +kernel] at hst
              refine lv_iload hx hb d_ig_118 (lv_at hl 0 rfl) ?_
              refine rp_i (wf := fun a2 => (q1, .inl (tk 3, c1, .inl a2)) :: rw) hx hb hr hlk rfl hst (hK _ (gcP_end1t hv hb2 hfa (by omega) (by omega))) (by rw [← hst2, dl, dl3, hs1] <;> (congr 1; first | done | omega)) d_ig_120
            | false =>
              refine lv_if_eq (tgt := 118) hx hb d_ig_106 (by decide) (fun _ => ?_) (fun h9 => absurd rfl h9)
              refine lv_iload hx hb d_ig_118 (lv_at hl 0 rfl) ?_
              have hs1 : sgn false = 0 := rfl
              refine rp_i (wf := fun a2 => (q1, .inl (tk 3, c1, .inl a2)) :: rw) hx hb hr hlk rfl hst (hK _ (gcP_end1f hv hfa (by omega) (by omega))) (by rw [← hst2, dl, dl3, hs1] <;> (congr 1; first | done | omega)) d_ig_120
    | succ N ih =>
        intro v R2 a hvN hv hb2 hR hRc hfa hst2 hK H locs ls hl hst
        have hLv := dTw_len b v
        refine lv_iload_n hx hb d_ig_22 rfl (lv_at hl 0 rfl) ?_
        refine lv_bipush (v := (-100)) hx hb d_ig_23 (by decide) ?_
        by_cases h100 : 100 ≤ v
        · refine lv_icmp_gt (tgt := 72) hx hb d_ig_25 (by decide) (fun h9 => absurd ((nN_lt (a := 100) (b := v) (by decide) (by omega)).mp h9) (by omega)) (fun _ => ?_)
          have e100 := dTw_100 (b := b) hv h100
          have el : (dTw b v).length = (dTw b (v / 100)).length + 2 := by rw [e100, List.length_append]; rfl
          refine lv_iload_n hx hb d_ig_28 rfl (lv_at hl 0 rfl) ?_
          refine lv_bipush (v := 100) hx hb d_ig_29 (by decide) ?_
          refine lv_idiv hx hb d_ig_31 (by decide) ?_
          refine W.eq (g2 := F0 m 32 ls [.int (-(nI (v / 100)))]) (by rw [nN_div (by omega)]) ?_
          refine lv_istore_n (lv' := [(3, .int (-(nI (v / 100)))), (0, .int (-(nI v))), (2, .ref q1), (5, .int (nI R2)), (6, .int (nI (sgn b)))]) hx hb d_ig_32 rfl hl (by decide) rfl (fun ls hl => ?_)
          refine lv_iload_n hx hb d_ig_33 rfl (lv_at hl 0 rfl) ?_
          refine lv_bipush (v := 100) hx hb d_ig_34 (by decide) ?_
          refine lv_imul hx hb d_ig_36 ?_
          refine lv_iload_n hx hb d_ig_37 rfl (lv_at hl 1 rfl) ?_
          refine lv_isub hx hb d_ig_38 ?_
          refine W.eq (g2 := F0 m 39 ls [.int (nI (v % 100))]) (by rw [nN_rem]) ?_
          refine lv_istore (lv' := [(4, .int (nI (v % 100))), (3, .int (-(nI (v / 100)))), (0, .int (-(nI v))), (2, .ref q1), (5, .int (nI R2)), (6, .int (nI (sgn b)))]) hx hb d_ig_39 hl (by decide) rfl (fun ls hl => ?_)
          refine lv_iload_n hx hb d_ig_41 rfl (lv_at hl 1 rfl) ?_
          refine lv_istore_n (lv' := [(0, .int (-(nI (v / 100)))), (4, .int (nI (v % 100))), (3, .int (-(nI (v / 100)))), (2, .ref q1), (5, .int (nI R2)), (6, .int (nI (sgn b)))]) hx hb d_ig_42 rfl hl (by decide) rfl (fun ls hl => ?_)
          refine lv_aload_n hx hb d_ig_43 rfl (lv_at hl 3 rfl) ?_
          refine lv_iinc (k := 4) (v := (nI (R2 - 1))) (lv' := [(5, .int (nI (R2 - 1))), (0, .int (-(nI (v / 100)))), (4, .int (nI (v % 100))), (3, .int (-(nI (v / 100)))), (2, .ref q1), (6, .int (nI (sgn b)))]) hx hb d_ig_44 hl rfl (nI_dec (by omega)) (by decide) rfl (fun ls hl => ?_)
          refine lv_iload hx hb d_ig_47 (lv_at hl 0 rfl) ?_
          refine va_gets hx hb z1 hst.2.2 hown (hG _ k_933) (fun _ h9 => h9) d_ig_49 ?_
          refine lv_iload hx hb d_ig_52 (lv_at hl 2 rfl) ?_
          refine va_tb hx hb z2 hst.2.2 (inb_in (inb_n (n := 100) (k := (v % 100)) (by omega) (by decide))) (v := .int (nI (48 + v % 100 % 10))) (by rw [nI_clamp (by omega)]) d_ig_54 ?_
          refine sb_bast hx hb hg hst (inb_n (by omega) (by omega)) d_ig_55 (fun H locs hst => ?_)
          rw [nI_clamp (by omega), (asc_b (48 + v % 100 % 10) (by omega)).2.1] at hst
          refine lv_aload_n hx hb d_ig_56 rfl (lv_at hl 4 rfl) ?_
          refine lv_iinc (k := 0) (v := (nI ((R2 - 1) - 1))) (lv' := [(5, .int (nI ((R2 - 1) - 1))), (0, .int (-(nI (v / 100)))), (4, .int (nI (v % 100))), (3, .int (-(nI (v / 100)))), (2, .ref q1), (6, .int (nI (sgn b)))]) hx hb d_ig_57 hl rfl (nI_dec (by omega)) (by decide) rfl (fun ls hl => ?_)
          refine lv_iload hx hb d_ig_60 (lv_at hl 0 rfl) ?_
          refine va_gets hx hb z3 hst.2.2 hown (hG _ k_935) (fun _ h9 => h9) d_ig_62 ?_
          refine lv_iload hx hb d_ig_65 (lv_at hl 2 rfl) ?_
          refine va_tb hx hb z4 hst.2.2 (inb_in (inb_n (n := 100) (k := (v % 100)) (by omega) (by decide))) (v := .int (nI (48 + v % 100 / 10))) (by rw [nI_clamp (by omega)]) d_ig_67 ?_
          refine sb_bast hx hb hg hst (inb_n (by omega) (by omega)) d_ig_68 (fun H locs hst => ?_)
          rw [nI_clamp (by omega), (asc_b (48 + v % 100 / 10) (by omega)).2.1] at hst
          refine lv_goto (tgt := 22) hx hb d_ig_69 (by decide) ?_
          have eR : R2 - 1 - 1 = R2 - 2 := by omega
          rw [eR] at hl hst
          exact ih (v / 100) (R2 - 2) _ (by omega) (by omega) (fun _ => by omega) (by omega) (by omega) (sb_fitU (sb_fitU hfa (asc_b _ (by omega)).2.2.1) (asc_b _ (by omega)).2.2.1) (by omega) (fun a2 h9 => hK a2 (gcP_100 hv h100 hR h9)) H locs ls (lv_sub hl [1, 4, 0, 5] rfl) hst
        · refine lv_icmp_gt (tgt := 72) hx hb d_ig_25 (by decide) (fun _ => ?_) (fun h9 => absurd ((nN_lt (a := 100) (b := v) (by decide) (by omega)).mpr (by omega)) h9)
          have dl : (dTw b v).length = sgn b + (dgs 10 v).length := dTw_len b v
          have dpos : 1 ≤ (dgs 10 v).length := by
            by_cases h9 : v < 10
            · rw [dgs_0 h9]; exact Nat.le_refl 1
            · rw [dgs_s hv (by omega), List.length_append]; exact Nat.le_add_left 1 _
          refine lv_aload_n hx hb d_ig_72 rfl (lv_at hl 1 rfl) ?_
          refine lv_iinc (k := 2) (v := (nI (R2 - 1))) (lv' := [(5, .int (nI (R2 - 1))), (0, .int (-(nI v))), (2, .ref q1), (6, .int (nI (sgn b)))]) hx hb d_ig_73 hl rfl (nI_dec (by omega)) (by decide) rfl (fun ls hl => ?_)
          refine lv_iload hx hb d_ig_76 (lv_at hl 0 rfl) ?_
          refine va_gets hx hb z1 hst.2.2 hown (hG _ k_933) (fun _ h9 => h9) d_ig_78 ?_
          refine lv_iload_n hx hb d_ig_81 rfl (lv_at hl 1 rfl) ?_
          refine lv_ineg hx hb d_ig_82 ?_
          refine W.eq (g2 := F0 m 83 ls [.int (nI v), .ref (dI 1002 0), .int (nI (R2 - 1)), .ref q1]) (by rw [Int32.neg_neg]) ?_
          refine va_tb hx hb z2 hst.2.2 (inb_in (inb_n (n := 100) (k := v) (by omega) (by decide))) (v := .int (nI (48 + v % 10))) (by rw [nI_clamp (by omega)]) d_ig_83 ?_
          refine sb_bast hx hb hg hst (inb_n (by omega) (by omega)) d_ig_84 (fun H locs hst => ?_)
          rw [nI_clamp (by omega), (asc_b (48 + v % 10) (by omega)).2.1] at hst
          refine lv_iload_n hx hb d_ig_85 rfl (lv_at hl 1 rfl) ?_
          refine lv_bipush (v := (-9)) hx hb d_ig_86 (by decide) ?_
          by_cases h10 : 10 ≤ v
          · refine lv_icmp_ge (tgt := 104) hx hb d_ig_88 (by decide) (fun h9 => absurd ((nN_le (a := 9) (b := v) (by decide) (by omega)).mp h9) (by omega)) (fun _ => ?_)
            have dl2 : dgs 10 v = [nI (48 + v / 10), nI (48 + v % 10)] := by rw [dgs_s hv h10, dgs_0 (by omega)]; rfl
            have dl3 : (dgs 10 v).length = 2 := by rw [dl2]; rfl
            refine lv_aload_n hx hb d_ig_91 rfl (lv_at hl 2 rfl) ?_
            refine lv_iinc (k := 0) (v := (nI ((R2 - 1) - 1))) (lv' := [(5, .int (nI ((R2 - 1) - 1))), (0, .int (-(nI v))), (2, .ref q1), (6, .int (nI (sgn b)))]) hx hb d_ig_92 hl rfl (nI_dec (by omega)) (by decide) rfl (fun ls hl => ?_)
            refine lv_iload hx hb d_ig_95 (lv_at hl 0 rfl) ?_
            refine va_gets hx hb z3 hst.2.2 hown (hG _ k_935) (fun _ h9 => h9) d_ig_97 ?_
            refine lv_iload_n hx hb d_ig_100 rfl (lv_at hl 1 rfl) ?_
            refine lv_ineg hx hb d_ig_101 ?_
            refine W.eq (g2 := F0 m 102 ls [.int (nI v), .ref (dI 1002 1), .int (nI ((R2 - 1) - 1)), .ref q1]) (by rw [Int32.neg_neg]) ?_
            refine va_tb hx hb z4 hst.2.2 (inb_in (inb_n (n := 100) (k := v) (by omega) (by decide))) (v := .int (nI (48 + v / 10))) (by rw [nI_clamp (by omega)]) d_ig_102 ?_
            refine sb_bast hx hb hg hst (inb_n (by omega) (by omega)) d_ig_103 (fun H locs hst => ?_)
            rw [nI_clamp (by omega), (asc_b (48 + v / 10) (by omega)).2.1] at hst
            refine lv_iload hx hb d_ig_104 (lv_at hl 3 rfl) ?_
            cases b with
            | true =>
              have hs1 : sgn true = 1 := rfl
              refine lv_if_eq (tgt := 118) hx hb d_ig_106 (by decide) (fun h9 => absurd h9 (by decide)) (fun _ => ?_)
              refine lv_aload_n hx hb d_ig_109 rfl (lv_at hl 2 rfl) ?_
              refine lv_iinc (k := 0) (v := (nI (((R2 - 1) - 1) - 1))) (lv' := [(5, .int (nI (((R2 - 1) - 1) - 1))), (0, .int (-(nI v))), (2, .ref q1), (6, .int (nI (sgn true)))]) hx hb d_ig_110 hl rfl (nI_dec (by omega)) (by decide) rfl (fun ls hl => ?_)
              refine lv_iload hx hb d_ig_113 (lv_at hl 0 rfl) ?_
              refine lv_bipush (v := 45) hx hb d_ig_115 (by decide) ?_
              refine sb_bast hx hb hg hst (inb_n (by have : sgn true = 1 := rfl; omega) (by omega)) d_ig_117 (fun H locs hst => ?_)
              rw [nI_clamp (by omega), show vp_nar .byte (45 : Int32) = 45 from by decide +kernel] at hst
              refine lv_iload hx hb d_ig_118 (lv_at hl 0 rfl) ?_
              refine rp_i (wf := fun a2 => (q1, .inl (tk 3, c1, .inl a2)) :: rw) hx hb hr hlk rfl hst (hK _ (gcP_end2t hv hb2 hfa (by omega) h10)) (by rw [← hst2, dl, dl3, hs1] <;> (congr 1; first | done | omega)) d_ig_120
            | false =>
              refine lv_if_eq (tgt := 118) hx hb d_ig_106 (by decide) (fun _ => ?_) (fun h9 => absurd rfl h9)
              refine lv_iload hx hb d_ig_118 (lv_at hl 0 rfl) ?_
              have hs1 : sgn false = 0 := rfl
              refine rp_i (wf := fun a2 => (q1, .inl (tk 3, c1, .inl a2)) :: rw) hx hb hr hlk rfl hst (hK _ (gcP_end2f hv hfa (by omega) h10)) (by rw [← hst2, dl, dl3, hs1] <;> (congr 1; first | done | omega)) d_ig_120
          · refine lv_icmp_ge (tgt := 104) hx hb d_ig_88 (by decide) (fun _ => ?_) (fun h9 => absurd ((nN_le (a := 9) (b := v) (by decide) (by omega)).mpr (by omega)) h9)
            have dl2 : dgs 10 v = [nI (48 + v % 10)] := by rw [dgs_0 (by omega), Nat.mod_eq_of_lt (by omega)]
            have dl3 : (dgs 10 v).length = 1 := by rw [dl2]; rfl
            refine lv_iload hx hb d_ig_104 (lv_at hl 3 rfl) ?_
            cases b with
            | true =>
              have hs1 : sgn true = 1 := rfl
              refine lv_if_eq (tgt := 118) hx hb d_ig_106 (by decide) (fun h9 => absurd h9 (by decide)) (fun _ => ?_)
              refine lv_aload_n hx hb d_ig_109 rfl (lv_at hl 2 rfl) ?_
              refine lv_iinc (k := 0) (v := (nI ((R2 - 1) - 1))) (lv' := [(5, .int (nI ((R2 - 1) - 1))), (0, .int (-(nI v))), (2, .ref q1), (6, .int (nI (sgn true)))]) hx hb d_ig_110 hl rfl (nI_dec (by omega)) (by decide) rfl (fun ls hl => ?_)
              refine lv_iload hx hb d_ig_113 (lv_at hl 0 rfl) ?_
              refine lv_bipush (v := 45) hx hb d_ig_115 (by decide) ?_
              refine sb_bast hx hb hg hst (inb_n (by have : sgn true = 1 := rfl; omega) (by omega)) d_ig_117 (fun H locs hst => ?_)
              rw [nI_clamp (by omega), show vp_nar .byte (45 : Int32) = 45 from by decide +kernel] at hst
              refine lv_iload hx hb d_ig_118 (lv_at hl 0 rfl) ?_
              refine rp_i (wf := fun a2 => (q1, .inl (tk 3, c1, .inl a2)) :: rw) hx hb hr hlk rfl hst (hK _ (gcP_end1t hv hb2 hfa (by omega) (by omega))) (by rw [← hst2, dl, dl3, hs1] <;> (congr 1; first | done | omega)) d_ig_120
            | false =>
              refine lv_if_eq (tgt := 118) hx hb d_ig_106 (by decide) (fun _ => ?_) (fun h9 => absurd rfl h9)
              refine lv_iload hx hb d_ig_118 (lv_at hl 0 rfl) ?_
              have hs1 : sgn false = 0 := rfl
              refine rp_i (wf := fun a2 => (q1, .inl (tk 3, c1, .inl a2)) :: rw) hx hb hr hlk rfl hst (hK _ (gcP_end1f hv hfa (by omega) (by omega))) (by rw [← hst2, dl, dl3, hs1] <;> (congr 1; first | done | omega)) d_ig_120
  have fin : ∀ ls : Array Slot, lv_has ls 7 [(0, .int (-(nI w))), (2, .ref q1), (5, .int (nI P)), (6, .int (nI (sgn b)))] → W p l e (rmn 0 0 0 0) s m args below meth c s.heap [] 0 0 (MQ below (QIp dC dI A (fun a2 : Nat → Int32 => gcP b w P a1 a2) (nI (P - (dTw b w).length)) (fun a2 => (q1, .inl (tk 3, c1, .inl a2)) :: rw)) args s 0 0 A) (F0 m 22 ls []) := fun ls hl => key w w P a1 (Nat.le_refl w) hw hb1 hP hPc hf rfl (fun _ h9 => h9) _ _ ls hl hst
  refine lv_iload_n hx hb d_ig_0 rfl (lv_at hl 1 rfl) ?_
  refine lv_istore (lv' := [(5, .int (nI P)), (0, .int (sg b w)), (1, .int (nI P)), (2, .ref q1)]) hx hb d_ig_1 hl (by decide) rfl (fun ls hl => ?_)
  refine lv_iload_n hx hb d_ig_3 rfl (lv_at hl 1 rfl) ?_
  cases b with
  | true =>
    have hneg : ¬ (0 : Int32) ≤ sg true w := by show ¬ (0 : Int32) ≤ -(nI w); rw [Int32.le_iff_toInt_le, nN_toInt (by omega), Int32.toInt_zero]; have := hb1 rfl; omega
    refine lv_if_ge (tgt := 11) hx hb d_ig_4 (by decide) (fun h9 => absurd h9 hneg) (fun _ => ?_)
    refine lv_iconst (v := 1) hx hb d_ig_7 (by decide) ?_
    refine lv_goto (tgt := 12) hx hb d_ig_8 (by decide) ?_
    refine lv_istore (lv' := [(6, .int 1), (5, .int (nI P)), (0, .int (sg true w)), (1, .int (nI P)), (2, .ref q1)]) hx hb d_ig_12 hl (by decide) rfl (fun ls hl => ?_)
    refine lv_iload hx hb d_ig_14 (lv_at hl 0 rfl) ?_
    refine lv_if_ne (tgt := 22) hx hb d_ig_16 (by decide) (fun _ => ?_) (fun h9 => absurd h9 (by decide))
    exact fin ls (lv_sub hl [2, 4, 1, 0] rfl)
  | false =>
    have hneg : (0 : Int32) ≤ sg false w := nI_pos' (by omega)
    refine lv_if_ge (tgt := 11) hx hb d_ig_4 (by decide) (fun _ => ?_) (fun h9 => absurd hneg h9)
    refine lv_iconst (v := 0) hx hb d_ig_11 (by decide) ?_
    refine lv_istore (lv' := [(6, .int 0), (5, .int (nI P)), (0, .int (sg false w)), (1, .int (nI P)), (2, .ref q1)]) hx hb d_ig_12 hl (by decide) rfl (fun ls hl => ?_)
    refine lv_iload hx hb d_ig_14 (lv_at hl 0 rfl) ?_
    refine lv_if_ne (tgt := 22) hx hb d_ig_16 (by decide) (fun h9 => absurd rfl h9) (fun _ => ?_)
    refine lv_iload_n hx hb d_ig_19 rfl (lv_at hl 2 rfl) ?_
    refine lv_ineg hx hb d_ig_20 ?_
    refine lv_istore_n (lv' := [(0, .int (-(sg false w))), (6, .int 0), (5, .int (nI P)), (1, .int (nI P)), (2, .ref q1)]) hx hb d_ig_21 rfl hl (by decide) rfl (fun ls hl => ?_)
    exact fin ls (lv_sub hl [0, 4, 2, 1] rfl)
theorem d_bn_0 : decode prog_12_method_32_code 0 = .ok (.aload_n 0, 1) := by decide +kernel
theorem d_bn_1 : decode prog_12_method_32_code 1 = .ok (.getfield 79, 3) := by decide +kernel
theorem d_bn_4 : decode prog_12_method_32_code 4 = .ok (.istore_n 2, 1) := by decide +kernel
theorem d_bn_5 : decode prog_12_method_32_code 5 = .ok (.iload_n 2, 1) := by decide +kernel
theorem d_bn_6 : decode prog_12_method_32_code 6 = .ok (.iload_n 1, 1) := by decide +kernel
theorem d_bn_7 : decode prog_12_method_32_code 7 = .ok (.invokestatic 245, 3) := by decide +kernel
theorem d_bn_10 : decode prog_12_method_32_code 10 = .ok (.iadd, 1) := by decide +kernel
theorem d_bn_11 : decode prog_12_method_32_code 11 = .ok (.istore_n 3, 1) := by decide +kernel
theorem d_bn_12 : decode prog_12_method_32_code 12 = .ok (.aload_n 0, 1) := by decide +kernel
theorem d_bn_13 : decode prog_12_method_32_code 13 = .ok (.iload_n 3, 1) := by decide +kernel
theorem d_bn_14 : decode prog_12_method_32_code 14 = .ok (.invokevirtual 100, 3) := by decide +kernel
theorem d_bn_17 : decode prog_12_method_32_code 17 = .ok (.aload_n 0, 1) := by decide +kernel
theorem d_bn_18 : decode prog_12_method_32_code 18 = .ok (.invokevirtual 83, 3) := by decide +kernel
theorem d_bn_21 : decode prog_12_method_32_code 21 = .ok (.ifCond .eq 16, 3) := by decide +kernel
theorem d_bn_24 : decode prog_12_method_32_code 24 = .ok (.iload_n 1, 1) := by decide +kernel
theorem d_bn_25 : decode prog_12_method_32_code 25 = .ok (.iload_n 3, 1) := by decide +kernel
theorem d_bn_26 : decode prog_12_method_32_code 26 = .ok (.aload_n 0, 1) := by decide +kernel
theorem d_bn_27 : decode prog_12_method_32_code 27 = .ok (.getfield 15, 3) := by decide +kernel
theorem d_bn_30 : decode prog_12_method_32_code 30 = .ok (.invokestatic 248, 3) := by decide +kernel
theorem d_bn_33 : decode prog_12_method_32_code 33 = .ok (.pop, 1) := by decide +kernel
theorem d_bn_34 : decode prog_12_method_32_code 34 = .ok (.goto 14, 3) := by decide +kernel
theorem d_bn_37 : decode prog_12_method_32_code 37 = .ok (.iload_n 1, 1) := by decide +kernel
theorem d_bn_38 : decode prog_12_method_32_code 38 = .ok (.iload_n 2, 1) := by decide +kernel
theorem d_bn_39 : decode prog_12_method_32_code 39 = .ok (.iload_n 3, 1) := by decide +kernel
theorem d_bn_40 : decode prog_12_method_32_code 40 = .ok (.aload_n 0, 1) := by decide +kernel
theorem d_bn_41 : decode prog_12_method_32_code 41 = .ok (.getfield 15, 3) := by decide +kernel
theorem d_bn_44 : decode prog_12_method_32_code 44 = .ok (.invokestatic 251, 3) := by decide +kernel
theorem d_bn_47 : decode prog_12_method_32_code 47 = .ok (.pop, 1) := by decide +kernel
theorem d_bn_48 : decode prog_12_method_32_code 48 = .ok (.aload_n 0, 1) := by decide +kernel
theorem d_bn_49 : decode prog_12_method_32_code 49 = .ok (.iload_n 3, 1) := by decide +kernel
theorem d_bn_50 : decode prog_12_method_32_code 50 = .ok (.putfield 79, 3) := by decide +kernel
theorem d_bn_53 : decode prog_12_method_32_code 53 = .ok (.aload_n 0, 1) := by decide +kernel
theorem d_bn_54 : decode prog_12_method_32_code 54 = .ok (.areturn, 1) := by decide +kernel
set_option maxHeartbeats 1000000 in
theorem c_bn (l : Launch) (dC : Nat → ClassId) (dI : Nat → Nat → Nat) (tk : Nat → ClassId) (A : Nat → Prop) (hB : Nat) (u : sbS) (rw : va_W) (t : List Int32) (ht : sbT t u) (b : Bool) (w : Nat) (hw : w < 10 ^ 9) (hb1 : b = true → 1 ≤ w) (hc : t.length + (dTw b w).length ≤ 34) : CtM l dC dI tk A ⟨"java/lang/AbstractStringBuilder", "append", "(I)Ljava/lang/AbstractStringBuilder;"⟩ prog_12_method_32_code 4 (some (.object ABn)) 4 160 1 34 [.ref hB, .int (sg b w)] (sbW hB tk u t.length rw) (QRp dC dI A (fun u2 : sbS => sbT (t ++ dTw b w) u2) (fun _ => hB) (fun u2 => sbW hB tk u2 (t ++ dTw b w).length rw)) := by
  refine entN (by decide) (Nat.le_of_ble_eq_true rfl) ?_
  intro p e s m args below meth c hx hb hr hml hown hlk hin hG hg hst ls hl
  have hl : lv_has ls 4 [(0, .ref hB), (1, .int (sg b w))] := hl
  refine lv_aload_n hx hb d_bn_0 rfl (lv_at hl 0 rfl) ?_
  refine sb_get 3 (by decide) hx hb hown hG hg hst rfl rfl k_248 d_bn_1 ?_
  refine lv_istore_n (lv' := [(2, .int (nI t.length)), (0, .ref hB), (1, .int (sg b w))]) hx hb d_bn_4 rfl hl (by decide) rfl (fun ls hl => ?_)
  refine lv_iload_n hx hb d_bn_5 rfl (lv_at hl 0 rfl) ?_
  refine lv_iload_n hx hb d_bn_6 rfl (lv_at hl 2 rfl) ?_
  refine cl_si (As := [.int (sg b w)]) hx hb hml hown hG hg (c_iz l dC dI tk A _ b w hw hb1) (cw_t 1 hG k_927 k_928 k_26 k_929 (by decide +kernel) ⟨by decide, by decide⟩) hst rfl hl.1 rfl (Nat.le_of_ble_eq_true rfl) ⟨by decide, by decide⟩ d_bn_7 (fun H locs hst => ?_)
  refine lv_iadd hx hb d_bn_10 ?_
  refine W.eq (g2 := F0 m 11 ls [.int (nI (t.length + (dTw b w).length))]) (by rw [nI_add]) ?_
  refine lv_istore_n (lv' := [(3, .int (nI (t.length + (dTw b w).length))), (2, .int (nI t.length)), (0, .ref hB), (1, .int (sg b w))]) hx hb d_bn_11 rfl hl (by decide) rfl (fun ls hl => ?_)
  refine lv_aload_n hx hb d_bn_12 rfl (lv_at hl 2 rfl) ?_
  refine lv_iload_n hx hb d_bn_13 rfl (lv_at hl 0 rfl) ?_
  refine bk_v (g := F0 m 0 ls []) (cm_run (As := [.int (nI (t.length + (dTw b w).length))]) hx hb hml hown hG hg (c_be l dC dI tk A hB u t.length rw t ht (t.length + (dTw b w).length) hc) (cwX 1 hG k_807 k_809 sb_s0 k_10 k_810 (by decide +kernel) ⟨by decide, by decide⟩) hst cB.1 (q0 := 0) rfl rfl hl.1 rfl (Nat.le_of_ble_eq_true rfl) ⟨by decide, by decide⟩ d_bn_14) hst (fun u H locs hp hst => ?_)
  refine W.cs (cells' := 1) (slots' := 34) rfl rfl ?_
  obtain ⟨ht, hcu⟩ := hp
  have hcap := ht.cap
  refine lv_aload_n hx hb d_bn_17 rfl (lv_at hl 2 rfl) ?_
  refine cl_vi (As := []) hx hb hml hown hG hg (c_bl l dC dI tk A hB u t.length rw) (cwX 0 hG k_836 k_837 k_839 k_10 k_840 (by decide +kernel) ⟨by decide, by decide⟩) hst cB.1 (q0 := 0) rfl rfl hl.1 rfl (Nat.le_of_ble_eq_true rfl) ⟨by decide, by decide⟩ d_bn_18 (fun H locs hst => ?_)
  refine lv_if_eq (tgt := 37) hx hb d_bn_21 (by decide) (fun h9 => absurd h9 (by decide)) (fun _ => ?_)
  refine lv_iload_n hx hb d_bn_24 rfl (lv_at hl 3 rfl) ?_
  refine lv_iload_n hx hb d_bn_25 rfl (lv_at hl 0 rfl) ?_
  refine lv_aload_n hx hb d_bn_26 rfl (lv_at hl 2 rfl) ?_
  refine sb_get 0 (by decide) hx hb hown hG hg hst rfl rfl k_245 d_bn_27 ?_
  have hst : St dC dI A s.heap H locs ((u.1, .inl (tk 3, u.2.1, .inl u.2.2.2)) :: ((hB, .inr (10, sbF u t.length)) :: rw)) := gr1 (a := [(hB, .inr (10, sbF u t.length))]) (b := [(u.1, .inl (tk 3, u.2.1, .inl u.2.2.2))]) (r := rw) hst
  refine bk_i (cm_sta (As := [.int (sg b w), .int (nI (t.length + (dTw b w).length)), .ref u.1]) hx hb hml hown hG hg (c_ig l dC dI tk A u.1 u.2.1 u.2.2.2 ht.2.2.1 _ b w (t.length + (dTw b w).length) hw hb1 (by omega) hcu hcap.2) (cw_t 3 hG k_930 k_931 k_26 k_932 (by decide +kernel) ⟨by decide, by decide⟩) hst rfl hl.1 rfl (Nat.le_of_ble_eq_true rfl) ⟨by decide, by decide⟩ d_bn_30) hst (fun a2 H locs hp hst => ?_)
  refine W.cs (cells' := 1) (slots' := 34) rfl rfl ?_
  refine lv_pop hx hb d_bn_33 rfl ?_
  refine lv_goto (tgt := 48) hx hb d_bn_34 (by decide) ?_
  refine lv_aload_n hx hb d_bn_48 rfl (lv_at hl 2 rfl) ?_
  refine lv_iload_n hx hb d_bn_49 rfl (lv_at hl 0 rfl) ?_
  have hst : St dC dI A s.heap H locs ((hB, .inr (10, sbF u t.length)) :: ((u.1, .inl (tk 3, u.2.1, .inl a2)) :: rw)) := gr1 (a := [(u.1, .inl (tk 3, u.2.1, .inl a2))]) (b := [(hB, .inr (10, sbF u t.length))]) (r := rw) hst
  refine sb_put 3 (by decide) hx hb hown hG hg hst (by show 3 < 4; decide) rfl rfl rfl rfl k_248 d_bn_50 (fun H locs hst => ?_)
  refine lv_aload_n hx hb d_bn_53 rfl (lv_at hl 2 rfl) ?_
  obtain ⟨p1, p2, p3, p4⟩ := hp
  rw [Nat.add_sub_cancel] at p2 p4
  have hst : St dC dI A s.heap H locs (sbW hB tk (u.1, u.2.1, u.2.2.1, a2) (t ++ dTw b w).length rw) := by rw [List.length_append]; exact hst
  exact rp_r (u := (u.1, u.2.1, u.2.2.1, a2)) (wf := fun u2 => sbW hB tk u2 (t ++ dTw b w).length rw) hx hb hr hlk hst (sbT_app ht hcu p1 p2 p4) rfl d_bn_54
theorem d_tn_0 : decode prog_21_method_15_code 0 = .ok (.aload_n 0, 1) := by decide +kernel
theorem d_tn_1 : decode prog_21_method_15_code 1 = .ok (.iload_n 1, 1) := by decide +kernel
theorem d_tn_2 : decode prog_21_method_15_code 2 = .ok (.invokespecial 53, 3) := by decide +kernel
theorem d_tn_5 : decode prog_21_method_15_code 5 = .ok (.pop, 1) := by decide +kernel
theorem d_tn_6 : decode prog_21_method_15_code 6 = .ok (.aload_n 0, 1) := by decide +kernel
theorem d_tn_7 : decode prog_21_method_15_code 7 = .ok (.areturn, 1) := by decide +kernel
set_option maxHeartbeats 1000000 in
theorem c_tn (l : Launch) (dC : Nat → ClassId) (dI : Nat → Nat → Nat) (tk : Nat → ClassId) (A : Nat → Prop) (hB : Nat) (u : sbS) (rw : va_W) (t : List Int32) (ht : sbT t u) (b : Bool) (w : Nat) (hw : w < 10 ^ 9) (hb1 : b = true → 1 ≤ w) (hc : t.length + (dTw b w).length ≤ 34) : CtM l dC dI tk A ⟨"java/lang/StringBuilder", "append", "(I)Ljava/lang/StringBuilder;"⟩ prog_21_method_15_code 2 (some (.object SBn)) 5 190 1 34 [.ref hB, .int (sg b w)] (sbW hB tk u t.length rw) (QRp dC dI A (fun u2 : sbS => sbT (t ++ dTw b w) u2) (fun _ => hB) (fun u2 => sbW hB tk u2 (t ++ dTw b w).length rw)) := by
  refine entN (by decide) (Nat.le_of_ble_eq_true rfl) ?_
  intro p e s m args below meth c hx hb hr hml hown hlk hin hG hg hst ls hl
  have hl : lv_has ls 2 [(0, .ref hB), (1, .int (sg b w))] := hl
  refine lv_aload_n hx hb d_tn_0 rfl (lv_at hl 0 rfl) ?_
  refine lv_iload_n hx hb d_tn_1 rfl (lv_at hl 1 rfl) ?_
  refine bk_r (cm_sup (As := [.int (sg b w)]) hx hb hml hown hG hg (c_bn l dC dI tk A hB u rw t ht b w hw hb1 hc) (csX 1 hG k_924 k_925 k_1389 k_257 k_10 k_926 (by decide +kernel) ⟨by decide, by decide⟩) hst cB.1 (q0 := 0) rfl rfl hl.1 rfl (Nat.le_of_ble_eq_true rfl) ⟨by decide, by decide⟩ d_tn_2) hst (fun u H locs hp hst => ?_)
  refine W.cs (cells' := 1) (slots' := 34) rfl rfl ?_
  refine lv_pop hx hb d_tn_5 rfl ?_
  refine lv_aload_n hx hb d_tn_6 rfl (lv_at hl 0 rfl) ?_
  exact rp_r (u := u) (wf := fun u2 => sbW hB tk u2 (t ++ dTw b w).length rw) hx hb hr hlk hst hp rfl d_tn_7
