def w_X10_isWithin  (p0 : Int32) (p1 : Int32) (p2 : Int32) (Q : Int32 → Prop) : Prop := (((p0 < p1) → Q (0 : Int32)) ∧ (¬ (p0 < p1) → (((p2 < p0) → Q (0 : Int32)) ∧ (¬ (p2 < p0) → Q (1 : Int32)))))
abbrev rmX10_isWithin : Room := { frames := 0, cells := 0, slots := 0, locals := 0 }
set_option maxHeartbeats 4000000 in
set_option maxRecDepth 100000 in
theorem t_X10_isWithin (l : Launch)   (p0 : Int32) (p1 : Int32) (p2 : Int32) (Q0 : Int32 → Prop) (hw : w_X10_isWithin  p0 p1 p2 Q0) : Met l yX10_isWithin wsX10_isWithin rmX10_isWithin (g_pr0 [.int p0, .int p1, .int p2]) (vp_Si Q0) 0 0 (fun _ => False) := by
  refine g_start0z (by decide) rfl (Nat.le_of_ble_eq_true rfl) ?_
  intro p e s m args below meth c Q H ls hx hb hml hown hts hret hl
  replace hl : lv_has ls 3 [(0, .int p0), (1, .int p1), (2, .int p2)] := hl
  unfold w_X10_isWithin at hw
  refine lv_iload_n hx hb dX10_isWithin_0 rfl (lv_at hl 0 rfl) ?_
  refine lv_iload_n hx hb dX10_isWithin_1 rfl (lv_at hl 1 rfl) ?_
  refine lv_icmp_lt (tgt := 14) hx hb dX10_isWithin_2 (by decide) (fun hc1 => ?_) (fun hc1 => ?_)
  · replace hw := hw.1 hc1
    refine lv_iconst (v := 0) hx hb dX10_isWithin_14 (by decide) ?_
    exact hret dX10_isWithin_15 isB_0 hw
  · replace hw := hw.2 hc1
    refine lv_iload_n hx hb dX10_isWithin_5 rfl (lv_at hl 0 rfl) ?_
    refine lv_iload_n hx hb dX10_isWithin_6 rfl (lv_at hl 2 rfl) ?_
    refine lv_icmp_gt (tgt := 14) hx hb dX10_isWithin_7 (by decide) (fun hc2 => ?_) (fun hc2 => ?_)
    · replace hw := hw.1 hc2
      refine lv_iconst (v := 0) hx hb dX10_isWithin_14 (by decide) ?_
      exact hret dX10_isWithin_15 isB_0 hw
    · replace hw := hw.2 hc2
      refine lv_iconst (v := 1) hx hb dX10_isWithin_10 (by decide) ?_
      refine lv_goto (tgt := 15) hx hb dX10_isWithin_11 (by decide) ?_
      exact hret dX10_isWithin_15 isB_1 hw

def w_X10_isDigit  (p0 : Int32) (Q : Int32 → Prop) : Prop := w_X10_isWithin p0 (0 : Int32) (9 : Int32) (fun (r1 : Int32) => isB r1 ∧ Q r1)
abbrev rmX10_isDigit : Room := { frames := 1, cells := 0, slots := 0, locals := 22 }
set_option maxHeartbeats 4000000 in
set_option maxRecDepth 100000 in
theorem t_X10_isDigit (l : Launch)   (p0 : Int32) (Q0 : Int32 → Prop) (hw : w_X10_isDigit  p0 Q0) : Met l yX10_isDigit wsX10_isDigit rmX10_isDigit (g_pr0 [.int p0]) (vp_Si Q0) 0 0 (fun _ => False) := by
  refine g_start0z (by decide) rfl (Nat.le_of_ble_eq_true rfl) ?_
  intro p e s m args below meth c Q H ls hx hb hml hown hts hret hl
  replace hl : lv_has ls 1 [(0, .int p0)] := hl
  unfold w_X10_isDigit at hw
  refine lv_iload_n hx hb dX10_isDigit_0 rfl (lv_at hl 0 rfl) ?_
  refine lv_iconst (v := 0) hx hb dX10_isDigit_1 (by decide) ?_
  refine lv_bipush (v := 9) hx hb dX10_isDigit_2 (by decide) ?_
  refine g_c0 (rest := []) (va_runS (As := [.int p0, .int (0 : Int32), .int (9 : Int32)]) (rest := []) ⟨hx, hb, hml, hown, hts⟩ (t_X10_isWithin l  p0 (0 : Int32) (9 : Int32) _ hw) (va_cwS 3 hts gX10_isDigit_X10_isWithin rfl rfl rfl (by decide +kernel) ⟨Nat.le_of_ble_eq_true rfl, Nat.le_of_ble_eq_true rfl⟩) g_p0S rfl rfl hl.1 rfl (lv_room (Nat.le_of_ble_eq_true rfl)) dX10_isDigit_4 ⟨Nat.le_of_ble_eq_true rfl, Nat.le_of_ble_eq_true rfl⟩) (fun r1 hw => ?_)
  obtain ⟨hz, hw⟩ := hw
  exact hret dX10_isDigit_7 hz hw

def w_X10_greatestDivisor  (p0 : Int32) (p1 : Int32) (Q : Int32 → Prop) : Prop := (∀ X4 : Int32 → Int32 → Int32 → Prop, (∀ (x1 : Int32) (x2 : Int32) (x3 : Int32), (∀ J5 : Prop, ((Q (if x1 < (1 : Int32) then (1 : Int32) else x1)) → J5) → ((((100000 : Int32) ≤ x3) → J5) ∧ (¬ ((100000 : Int32) ≤ x3) → (((x2 = 0) → J5) ∧ (¬ (x2 = 0) → (¬ x2 = 0) ∧ ∀ x9 : Int32, x9 = (x1 - x1 / x2 * x2) → ∀ x10 : Int32, x10 = x3 + (1 : Int32) → X4 x2 x9 x10))))) → X4 x1 x2 x3) → X4 p0 p1 (0 : Int32))
abbrev rmX10_greatestDivisor : Room := { frames := 1, cells := 0, slots := 0, locals := 40 }
set_option maxHeartbeats 4000000 in
set_option maxRecDepth 100000 in
theorem t_X10_greatestDivisor (l : Launch)   (p0 : Int32) (p1 : Int32) (Q0 : Int32 → Prop) (hw : w_X10_greatestDivisor  p0 p1 Q0) : Met l yX10_greatestDivisor wsX10_greatestDivisor rmX10_greatestDivisor (g_pr0 [.int p0, .int p1]) (vp_Si Q0) 0 0 (fun _ => False) := by
  refine g_start0i (by decide) rfl (Nat.le_of_ble_eq_true rfl) ?_
  intro p e s m args below meth c Q H ls hx hb hml hown hts hret hl
  replace hl : lv_has ls 6 [(0, .int p0), (1, .int p1)] := hl
  have kc263 := hts (.constant RX10 263 (100000)) (by decide +kernel)
  have ml205 := hts (.methodLink RX10 205 Lib.Math.max.name) (by decide +kernel)
  have msmax := hts (.static Lib.Math.max.name) (by decide +kernel)
  have miMath := hts (.initialized "java/lang/Math") (by decide +kernel)
  have mcmax := hts (.code Lib.Math.max.name Lib.Math.max.code 2 (some .int)) (by decide +kernel)
  unfold w_X10_greatestDivisor at hw
  refine lv_iload_n hx hb dX10_greatestDivisor_0 rfl (lv_at hl 0 rfl) ?_
  refine lv_istore_n (lv' := [(2, .int p0), (0, .int p0), (1, .int p1)]) hx hb dX10_greatestDivisor_1 rfl hl (by decide) rfl (fun ls hl => ?_)
  refine lv_iload_n hx hb dX10_greatestDivisor_2 rfl (lv_at hl 2 rfl) ?_
  refine lv_istore_n (lv' := [(3, .int p1), (2, .int p0), (0, .int p0), (1, .int p1)]) hx hb dX10_greatestDivisor_3 rfl hl (by decide) rfl (fun ls hl => ?_)
  refine lv_iconst (v := 0) hx hb dX10_greatestDivisor_4 (by decide) ?_
  refine lv_istore (lv' := [(4, .int (0 : Int32)), (3, .int p1), (2, .int p0), (0, .int p0), (1, .int p1)]) hx hb dX10_greatestDivisor_5 hl (by decide) rfl (fun ls hl => ?_)
  refine hw (fun (x1 : Int32) (x2 : Int32) (x3 : Int32) => ∀ (ls : Array Slot), lv_has ls 6 [(2, .int x1), (3, .int x2), (4, .int x3)] → W p l e rmX10_greatestDivisor s m args below meth c H [] 0 0 Q (F0 m 7 ls [])) ?_ ls (lv_sub hl [2, 1, 0] rfl)
  · intro x1 x2 x3 hw ls hl
    refine lv_iload hx hb dX10_greatestDivisor_7 (lv_at hl 2 rfl) ?_
    refine lv_ldcw hx hb hown kc263 dX10_greatestDivisor_9 ?_
    replace hw := hw (∀ (ls : Array Slot), lv_has ls 6 [(2, .int x1)] → W p l e rmX10_greatestDivisor s m args below meth c H [] 0 0 Q (F0 m 35 ls [])) (by
      intro hw ls hl
      refine lv_iload_n hx hb dX10_greatestDivisor_35 rfl (lv_at hl 0 rfl) ?_
      refine lv_iconst (v := 1) hx hb dX10_greatestDivisor_36 (by decide) ?_
      refine va_mmax hx hb (hml.trans hl.1.symm) hown ml205 msmax miMath mcmax (Nat.le_of_ble_eq_true rfl) (Nat.le_of_ble_eq_true rfl) (Nat.le_of_ble_eq_true rfl) (Nat.le_of_ble_eq_true rfl) dX10_greatestDivisor_37 ?_
      exact hret dX10_greatestDivisor_40 hw)
    refine lv_icmp_ge (tgt := 35) hx hb dX10_greatestDivisor_12 (by decide) (fun hc6 => ?_) (fun hc6 => ?_)
    · replace hw := hw.1 hc6
      exact hw ls (lv_sub hl [0] rfl)
    · replace hw := hw.2 hc6
      refine lv_iload_n hx hb dX10_greatestDivisor_15 rfl (lv_at hl 1 rfl) ?_
      refine lv_if_eq (tgt := 35) hx hb dX10_greatestDivisor_16 (by decide) (fun hc7 => ?_) (fun hc7 => ?_)
      · replace hw := hw.1 hc7
        exact hw ls (lv_sub hl [0] rfl)
      · replace hw := hw.2 hc7
        refine lv_iload_n hx hb dX10_greatestDivisor_19 rfl (lv_at hl 0 rfl) ?_
        refine lv_iload_n hx hb dX10_greatestDivisor_20 rfl (lv_at hl 1 rfl) ?_
        obtain ⟨hn8, hw⟩ := hw
        refine lv_irem hx hb dX10_greatestDivisor_21 hn8 ?_
        refine lv_topi (fun x9 ex9 => ?_)
        replace hw := hw x9 ex9
        refine lv_istore (lv' := [(5, .int x9), (2, .int x1), (3, .int x2), (4, .int x3)]) hx hb dX10_greatestDivisor_22 hl (by decide) rfl (fun ls hl => ?_)
        refine lv_iload_n hx hb dX10_greatestDivisor_24 rfl (lv_at hl 2 rfl) ?_
        refine lv_istore_n (lv' := [(2, .int x2), (5, .int x9), (3, .int x2), (4, .int x3)]) hx hb dX10_greatestDivisor_25 rfl hl (by decide) rfl (fun ls hl => ?_)
        refine lv_iload hx hb dX10_greatestDivisor_26 (lv_at hl 1 rfl) ?_
        refine lv_istore_n (lv' := [(3, .int x9), (2, .int x2), (5, .int x9), (4, .int x3)]) hx hb dX10_greatestDivisor_28 rfl hl (by decide) rfl (fun ls hl => ?_)
        obtain ⟨x10, ex10⟩ : ∃ y : Int32, y = x3 + (1 : Int32) := ⟨_, rfl⟩
        replace hw := hw x10 ex10
        refine lv_iinc (v := x10) (lv' := [(4, .int x10), (3, .int x9), (2, .int x2), (5, .int x9)]) hx hb dX10_greatestDivisor_29 hl (k := 3) rfl (by rw [ex10]; rfl) (by decide) rfl (fun ls hl => ?_)
        refine lv_goto (tgt := 7) hx hb dX10_greatestDivisor_32 (by decide) ?_
        exact hw ls (lv_sub hl [2, 1, 0] rfl)

def w_X0_number   (Q : Int32 → Prop) : Prop := Q (0 : Int32)
abbrev rmX0_number : Room := { frames := 0, cells := 0, slots := 0, locals := 0 }
set_option maxHeartbeats 4000000 in
set_option maxRecDepth 100000 in
theorem t_X0_number (l : Launch) (h : Nat)    (Q0 : Int32 → Prop) (hw : w_X0_number   Q0) : Met l yX0_number wsX0_number rmX0_number (g_pr0 [.ref h]) (vp_Si Q0) 0 0 (fun _ => False) := by
  refine g_start0i (by decide) rfl (Nat.le_of_ble_eq_true rfl) ?_
  intro p e s m args below meth c Q H ls hx hb hml hown hts hret hl
  replace hl : lv_has ls 1 [(0, .ref h)] := hl
  unfold w_X0_number at hw
  refine lv_iconst (v := 0) hx hb dX0_number_0 (by decide) ?_
  exact hret dX0_number_1 hw

def w_X1_number   (Q : Int32 → Prop) : Prop := Q (1 : Int32)
abbrev rmX1_number : Room := { frames := 0, cells := 0, slots := 0, locals := 0 }
set_option maxHeartbeats 4000000 in
set_option maxRecDepth 100000 in
theorem t_X1_number (l : Launch) (h : Nat)    (Q0 : Int32 → Prop) (hw : w_X1_number   Q0) : Met l yX1_number wsX1_number rmX1_number (g_pr0 [.ref h]) (vp_Si Q0) 0 0 (fun _ => False) := by
  refine g_start0i (by decide) rfl (Nat.le_of_ble_eq_true rfl) ?_
  intro p e s m args below meth c Q H ls hx hb hml hown hts hret hl
  replace hl : lv_has ls 1 [(0, .ref h)] := hl
  unfold w_X1_number at hw
  refine lv_iconst (v := 1) hx hb dX1_number_0 (by decide) ?_
  exact hret dX1_number_1 hw

def w_X3_number   (Q : Int32 → Prop) : Prop := Q (2 : Int32)
abbrev rmX3_number : Room := { frames := 0, cells := 0, slots := 0, locals := 0 }
set_option maxHeartbeats 4000000 in
set_option maxRecDepth 100000 in
theorem t_X3_number (l : Launch) (h : Nat)    (Q0 : Int32 → Prop) (hw : w_X3_number   Q0) : Met l yX3_number wsX3_number rmX3_number (g_pr0 [.ref h]) (vp_Si Q0) 0 0 (fun _ => False) := by
  refine g_start0i (by decide) rfl (Nat.le_of_ble_eq_true rfl) ?_
  intro p e s m args below meth c Q H ls hx hb hml hown hts hret hl
  replace hl : lv_has ls 1 [(0, .ref h)] := hl
  unfold w_X3_number at hw
  refine lv_iconst (v := 2) hx hb dX3_number_0 (by decide) ?_
  exact hret dX3_number_1 hw

def w_X9_number   (Q : Int32 → Prop) : Prop := Q (3 : Int32)
abbrev rmX9_number : Room := { frames := 0, cells := 0, slots := 0, locals := 0 }
set_option maxHeartbeats 4000000 in
set_option maxRecDepth 100000 in
theorem t_X9_number (l : Launch) (h : Nat)    (Q0 : Int32 → Prop) (hw : w_X9_number   Q0) : Met l yX9_number wsX9_number rmX9_number (g_pr0 [.ref h]) (vp_Si Q0) 0 0 (fun _ => False) := by
  refine g_start0i (by decide) rfl (Nat.le_of_ble_eq_true rfl) ?_
  intro p e s m args below meth c Q H ls hx hb hml hown hts hret hl
  replace hl : lv_has ls 1 [(0, .ref h)] := hl
  unfold w_X9_number at hw
  refine lv_iconst (v := 3) hx hb dX9_number_0 (by decide) ?_
  exact hret dX9_number_1 hw

def w_X2_number   (Q : Int32 → Prop) : Prop := Q (4 : Int32)
abbrev rmX2_number : Room := { frames := 0, cells := 0, slots := 0, locals := 0 }
set_option maxHeartbeats 4000000 in
set_option maxRecDepth 100000 in
theorem t_X2_number (l : Launch) (h : Nat)    (Q0 : Int32 → Prop) (hw : w_X2_number   Q0) : Met l yX2_number wsX2_number rmX2_number (g_pr0 [.ref h]) (vp_Si Q0) 0 0 (fun _ => False) := by
  refine g_start0i (by decide) rfl (Nat.le_of_ble_eq_true rfl) ?_
  intro p e s m args below meth c Q H ls hx hb hml hown hts hret hl
  replace hl : lv_has ls 1 [(0, .ref h)] := hl
  unfold w_X2_number at hw
  refine lv_iconst (v := 4) hx hb dX2_number_0 (by decide) ?_
  exact hret dX2_number_1 hw

def w_X0_made  (p0 : Int32) (p1 : Int32) (Q : Int32 → Prop) : Prop := Q (p0 + p1)
abbrev rmX0_made : Room := { frames := 0, cells := 0, slots := 0, locals := 0 }
set_option maxHeartbeats 4000000 in
set_option maxRecDepth 100000 in
theorem t_X0_made (l : Launch) (h : Nat)   (p0 : Int32) (p1 : Int32) (Q0 : Int32 → Prop) (hw : w_X0_made  p0 p1 Q0) : Met l yX0_made wsX0_made rmX0_made (g_pr0 [.ref h, .int p0, .int p1]) (vp_Si Q0) 0 0 (fun _ => False) := by
  refine g_start0i (by decide) rfl (Nat.le_of_ble_eq_true rfl) ?_
  intro p e s m args below meth c Q H ls hx hb hml hown hts hret hl
  replace hl : lv_has ls 3 [(0, .ref h), (1, .int p0), (2, .int p1)] := hl
  unfold w_X0_made at hw
  refine lv_iload_n hx hb dX0_made_0 rfl (lv_at hl 1 rfl) ?_
  refine lv_iload_n hx hb dX0_made_1 rfl (lv_at hl 2 rfl) ?_
  refine lv_iadd hx hb dX0_made_2 ?_
  exact hret dX0_made_3 hw

def w_X1_made  (p0 : Int32) (p1 : Int32) (Q : Int32 → Prop) : Prop := Q (if 0 ≤ (p0 - p1) then (p0 - p1) else 0 - (p0 - p1))
abbrev rmX1_made : Room := { frames := 1, cells := 0, slots := 0, locals := 40 }
set_option maxHeartbeats 4000000 in
set_option maxRecDepth 100000 in
theorem t_X1_made (l : Launch) (h : Nat)   (p0 : Int32) (p1 : Int32) (Q0 : Int32 → Prop) (hw : w_X1_made  p0 p1 Q0) : Met l yX1_made wsX1_made rmX1_made (g_pr0 [.ref h, .int p0, .int p1]) (vp_Si Q0) 0 0 (fun _ => False) := by
  refine g_start0i (by decide) rfl (Nat.le_of_ble_eq_true rfl) ?_
  intro p e s m args below meth c Q H ls hx hb hml hown hts hret hl
  replace hl : lv_has ls 3 [(0, .ref h), (1, .int p0), (2, .int p1)] := hl
  have ml9 := hts (.methodLink RX1 9 Lib.Math.abs.name) (by decide +kernel)
  have msabs := hts (.static Lib.Math.abs.name) (by decide +kernel)
  have miMath := hts (.initialized "java/lang/Math") (by decide +kernel)
  have mcabs := hts (.code Lib.Math.abs.name Lib.Math.abs.code 1 (some .int)) (by decide +kernel)
  unfold w_X1_made at hw
  refine lv_iload_n hx hb dX1_made_0 rfl (lv_at hl 1 rfl) ?_
  refine lv_iload_n hx hb dX1_made_1 rfl (lv_at hl 2 rfl) ?_
  refine lv_isub hx hb dX1_made_2 ?_
  refine va_mabs hx hb (hml.trans hl.1.symm) hown ml9 msabs miMath mcabs (Nat.le_of_ble_eq_true rfl) (Nat.le_of_ble_eq_true rfl) (Nat.le_of_ble_eq_true rfl) (Nat.le_of_ble_eq_true rfl) dX1_made_3 ?_
  exact hret dX1_made_6 hw

def w_X3_made  (p0 : Int32) (p1 : Int32) (Q : Int32 → Prop) : Prop := Q (if p0 < p1 then p1 else p0)
abbrev rmX3_made : Room := { frames := 1, cells := 0, slots := 0, locals := 40 }
set_option maxHeartbeats 4000000 in
set_option maxRecDepth 100000 in
theorem t_X3_made (l : Launch) (h : Nat)   (p0 : Int32) (p1 : Int32) (Q0 : Int32 → Prop) (hw : w_X3_made  p0 p1 Q0) : Met l yX3_made wsX3_made rmX3_made (g_pr0 [.ref h, .int p0, .int p1]) (vp_Si Q0) 0 0 (fun _ => False) := by
  refine g_start0i (by decide) rfl (Nat.le_of_ble_eq_true rfl) ?_
  intro p e s m args below meth c Q H ls hx hb hml hown hts hret hl
  replace hl : lv_has ls 3 [(0, .ref h), (1, .int p0), (2, .int p1)] := hl
  have ml9 := hts (.methodLink RX3 9 Lib.Math.max.name) (by decide +kernel)
  have msmax := hts (.static Lib.Math.max.name) (by decide +kernel)
  have miMath := hts (.initialized "java/lang/Math") (by decide +kernel)
  have mcmax := hts (.code Lib.Math.max.name Lib.Math.max.code 2 (some .int)) (by decide +kernel)
  unfold w_X3_made at hw
  refine lv_iload_n hx hb dX3_made_0 rfl (lv_at hl 1 rfl) ?_
  refine lv_iload_n hx hb dX3_made_1 rfl (lv_at hl 2 rfl) ?_
  refine va_mmax hx hb (hml.trans hl.1.symm) hown ml9 msmax miMath mcmax (Nat.le_of_ble_eq_true rfl) (Nat.le_of_ble_eq_true rfl) (Nat.le_of_ble_eq_true rfl) (Nat.le_of_ble_eq_true rfl) dX3_made_2 ?_
  exact hret dX3_made_5 hw

def w_X9_made  (p0 : Int32) (p1 : Int32) (Q : Int32 → Prop) : Prop := Q (((2 : Int32) * p0) + p1)
abbrev rmX9_made : Room := { frames := 0, cells := 0, slots := 0, locals := 0 }
set_option maxHeartbeats 4000000 in
set_option maxRecDepth 100000 in
theorem t_X9_made (l : Launch) (h : Nat)   (p0 : Int32) (p1 : Int32) (Q0 : Int32 → Prop) (hw : w_X9_made  p0 p1 Q0) : Met l yX9_made wsX9_made rmX9_made (g_pr0 [.ref h, .int p0, .int p1]) (vp_Si Q0) 0 0 (fun _ => False) := by
  refine g_start0i (by decide) rfl (Nat.le_of_ble_eq_true rfl) ?_
  intro p e s m args below meth c Q H ls hx hb hml hown hts hret hl
  replace hl : lv_has ls 3 [(0, .ref h), (1, .int p0), (2, .int p1)] := hl
  unfold w_X9_made at hw
  refine lv_iconst (v := 2) hx hb dX9_made_0 (by decide) ?_
  refine lv_iload_n hx hb dX9_made_1 rfl (lv_at hl 1 rfl) ?_
  refine lv_imul hx hb dX9_made_2 ?_
  refine lv_iload_n hx hb dX9_made_3 rfl (lv_at hl 2 rfl) ?_
  refine lv_iadd hx hb dX9_made_4 ?_
  exact hret dX9_made_5 hw

/-! a LAST is made by super.made: its receiver must be there -/
def rcv (C : String) (h : Nat) (U : State) : Prop := ∃ cell : Cell, U.heap[h]? = some cell ∧ cell.vm.isStatics = false ∧ ClassAt U C cell.cls
def w_X2_made (p0 : Int32) (p1 : Int32) (Q : Int32 → Prop) : Prop := w_X9_made p0 p1 (fun (r1 : Int32) => Q (r1 - r1 / (10 : Int32) * (10 : Int32)))
abbrev rmX2_made : Room := { frames := 1, cells := 0, slots := 0, locals := 22 }
set_option maxHeartbeats 4000000 in
set_option maxRecDepth 100000 in
theorem t_X2_made (l : Launch) (h : Nat) (p0 : Int32) (p1 : Int32) (Q0 : Int32 → Prop) (hw : w_X2_made p0 p1 Q0) : Met l yX2_made wsX2_made rmX2_made (va_Pc [.ref h, .int p0, .int p1] (rcv RX2 h)) (vp_Si Q0) 0 0 (fun _ => False) := by
  refine Met.ofW (cc := cX2_made) (maxL := 3) (ret := some .int) (by decide) rfl ?_
  intro p e s m args below meth c s₁ B hml hv
  obtain ⟨rfl, cell, hc1, hc2, hat⟩ := hv
  have hx := B.exec
  have hb := B.bytes
  have hts := atoms_spec (ws := wsX2_made) B.pre
  have hown : s.vm.findClass RX2 = some m.cls := findClass_of_methodNamed B.named
  have hl := lv_entry ([.ref h, .int p0, .int p1]) (n := 3) (Nat.le_of_ble_eq_true rfl)
  rw [lg_entry_eq]
  generalize (lg_sl ([.ref h, .int p0, .int p1]) ++ List.replicate (3 - (lg_sl ([.ref h, .int p0, .int p1])).length) Slot.unset).toArray = ls at hl ⊢
  replace hl : lv_has ls 3 [(0, .ref h), (1, .int p0), (2, .int p1)] := hl
  unfold w_X2_made at hw
  refine lv_aload_n hx hb dX2_made_0 rfl (lv_at hl 0 rfl) ?_
  refine lv_iload_n hx hb dX2_made_1 rfl (lv_at hl 1 rfl) ?_
  refine lv_iload_n hx hb dX2_made_2 rfl (lv_at hl 2 rfl) ?_
  refine g_c0 (rest := []) (va_runSU (As := [.int p0, .int p1]) (rest := []) hat ⟨hx, hb, hml, hown, hts⟩ (t_X9_made l h p0 p1 _ hw) (va_cwSU 2 hts gX2_made_X9_made_s9 rfl rfl rfl (by decide +kernel) ⟨Nat.le_of_ble_eq_true rfl, Nat.le_of_ble_eq_true rfl⟩) ⟨g_blind0, ⟨cell, hc1, hc2, hat.1⟩, fun _ _ _ => ⟨rfl, trivial⟩⟩ rfl rfl hl.1 rfl (lv_room (Nat.le_of_ble_eq_true rfl)) dX2_made_3 ⟨Nat.le_of_ble_eq_true rfl, Nat.le_of_ble_eq_true rfl⟩) (fun r1 hw => ?_)
  refine lv_bipush (v := 10) hx hb dX2_made_6 (by decide) ?_
  refine lv_irem hx hb dX2_made_8 (by decide) ?_
  exact W.iret hx hb B.returns (fun t ht hW => ⟨_, rfl, hw, ht⟩) (fun _ h => by cases h) dX2_made_9 B.notSynchronized
section BK
variable {p : Program} {l : Launch} {e : Env} {R : Room} {s : State} {m : MethodId} {args : Array Value} {below : List Frame} {meth : Method} {c : Code} {H : Heap} {locs : List Loc} {cells slots : Nat} {Q : State → Prop}
variable {pc : Nat} {ls : Array Slot} {rest : List Value} {qb : Nat → Nat} {kd : Nat}
theorem bk_pR {D : va_G} {cl : List vw_C} {tys : List (ClassId × FieldType)} {ws : va_W} {C : String} {T : u_T} {N q0 ci b : Nat} {fs As : List Value} (hK : va_K D cl tys s) (hP : va_P D cl ws H) (hb0 : ws[q0]? = some (b, .inr (ci, fs))) (hcl : cl[ci]? = some (C, T, N)) : PreV s H C b (va_Pc (.ref b :: As) (rcv C b)) As := by
  obtain ⟨cell, h1, h2, h3⟩ := va_recv hK hP hcl hb0
  have hat := (hK.1 ci _ hcl).2
  have e1 : D.1 ci = cell.cls := Option.some.inj (hat.1.symm.trans h3)
  refine ⟨fun a U g mk q => ⟨q.1, q.2⟩, ⟨cell, h1, h2, h3⟩, fun U hU hW => ⟨rfl, cell, by rw [hU]; exact h1, h2, ?_⟩⟩
  rw [e1] at hat
  exact classAt_moved hW.alike hat
def wk_made (k : Nat) (x y : Int32) (Q : Int32 → Prop) : Prop := (k = 0 → w_X0_made x y Q) ∧ (k = 1 → w_X1_made x y Q) ∧ (k = 2 → w_X3_made x y Q) ∧ (k = 3 → w_X9_made x y Q) ∧ (k = 4 → w_X2_made x y Q)
def wk_number (k : Nat) (Q : Int32 → Prop) : Prop := (k = 0 → w_X0_number Q) ∧ (k = 1 → w_X1_number Q) ∧ (k = 2 → w_X3_number Q) ∧ (k = 3 → w_X9_number Q) ∧ (k = 4 → w_X2_number Q)
theorem bk_made {x y : Int32} {Q' : Int32 → Prop} {a0 a1 a2 a3 a4 : Array Value} (hk : kd < 5) (hw : wk_made kd x y Q')
    (h0 : w_X0_made x y Q' → va_Run p l e R s m args below meth c H locs cells slots 0 0 (F0 m pc ls (.int y :: .int x :: .ref (qb 0) :: rest)) rest (vp_Si Q' a0) (fun _ => False))
    (h1 : w_X1_made x y Q' → va_Run p l e R s m args below meth c H locs cells slots 0 0 (F0 m pc ls (.int y :: .int x :: .ref (qb 1) :: rest)) rest (vp_Si Q' a1) (fun _ => False))
    (h2 : w_X3_made x y Q' → va_Run p l e R s m args below meth c H locs cells slots 0 0 (F0 m pc ls (.int y :: .int x :: .ref (qb 2) :: rest)) rest (vp_Si Q' a2) (fun _ => False))
    (h3 : w_X9_made x y Q' → va_Run p l e R s m args below meth c H locs cells slots 0 0 (F0 m pc ls (.int y :: .int x :: .ref (qb 3) :: rest)) rest (vp_Si Q' a3) (fun _ => False))
    (h4 : w_X2_made x y Q' → va_Run p l e R s m args below meth c H locs cells slots 0 0 (F0 m pc ls (.int y :: .int x :: .ref (qb 4) :: rest)) rest (vp_Si Q' a4) (fun _ => False))
    (kk : ∀ r : Int32, Q' r → W p l e R s m args below meth c H locs cells slots Q (F0 m (pc + 3) ls (.int r :: rest))) : W p l e R s m args below meth c H locs cells slots Q (F0 m pc ls (.int y :: .int x :: .ref (qb kd) :: rest)) := by
  rcases (show kd = 0 ∨ kd = 1 ∨ kd = 2 ∨ kd = 3 ∨ kd = 4 by omega) with rfl | rfl | rfl | rfl | rfl
  · exact g_c0 (h0 (hw.1 rfl)) kk
  · exact g_c0 (h1 (hw.2.1 rfl)) kk
  · exact g_c0 (h2 (hw.2.2.1 rfl)) kk
  · exact g_c0 (h3 (hw.2.2.2.1 rfl)) kk
  · exact g_c0 (h4 (hw.2.2.2.2 rfl)) kk
theorem bk_number {Q' : Int32 → Prop} {a0 a1 a2 a3 a4 : Array Value} (hk : kd < 5) (hw : wk_number kd Q')
    (h0 : w_X0_number Q' → va_Run p l e R s m args below meth c H locs cells slots 0 0 (F0 m pc ls (.ref (qb 0) :: rest)) rest (vp_Si Q' a0) (fun _ => False))
    (h1 : w_X1_number Q' → va_Run p l e R s m args below meth c H locs cells slots 0 0 (F0 m pc ls (.ref (qb 1) :: rest)) rest (vp_Si Q' a1) (fun _ => False))
    (h2 : w_X3_number Q' → va_Run p l e R s m args below meth c H locs cells slots 0 0 (F0 m pc ls (.ref (qb 2) :: rest)) rest (vp_Si Q' a2) (fun _ => False))
    (h3 : w_X9_number Q' → va_Run p l e R s m args below meth c H locs cells slots 0 0 (F0 m pc ls (.ref (qb 3) :: rest)) rest (vp_Si Q' a3) (fun _ => False))
    (h4 : w_X2_number Q' → va_Run p l e R s m args below meth c H locs cells slots 0 0 (F0 m pc ls (.ref (qb 4) :: rest)) rest (vp_Si Q' a4) (fun _ => False))
    (kk : ∀ r : Int32, Q' r → W p l e R s m args below meth c H locs cells slots Q (F0 m (pc + 3) ls (.int r :: rest))) : W p l e R s m args below meth c H locs cells slots Q (F0 m pc ls (.ref (qb kd) :: rest)) := by
  rcases (show kd = 0 ∨ kd = 1 ∨ kd = 2 ∨ kd = 3 ∨ kd = 4 by omega) with rfl | rfl | rfl | rfl | rfl
  · exact g_c0 (h0 (hw.1 rfl)) kk
  · exact g_c0 (h1 (hw.2.1 rfl)) kk
  · exact g_c0 (h2 (hw.2.2.1 rfl)) kk
  · exact g_c0 (h3 (hw.2.2.2.1 rfl)) kk
  · exact g_c0 (h4 (hw.2.2.2.2 rfl)) kk
end BK
theorem g_pVy {Z : g_Z} (hzb : g_zb Z) {s : State} {H : Heap} {D : va_G} {A : Nat → Prop} {tysC : List (ClassId × FieldType)} {X : va_W} {sL : List Nat} {sf : Nat → Nat → Int32} {y : Nat} {As : List Value} (hy : y ∈ sL) (hPc : va_P D vwCl (X ++ va_pl sL (sgF sf)) H) (hDc : va_D A (X ++ va_pl sL (sgF sf))) (hKc : va_K D vwCl tysC s) (hZ : ∀ U : State, U.heap = H → s.WarmedH U.vm → Z (va_A (X ++ va_pl sL (sgF sf)) H.size) U H) : PreV s H RX7 y (g_pre Z D vwCl tysC (X ++ va_pl sL (sgF sf)) H.size (.ref y :: As)) As := by
  obtain ⟨k, hk⟩ := va_pl_get (X := X) (f := sgF sf) hy
  exact g_pV hzb hk rfl hPc hDc hKc hZ
theorem bk_some {X : Nat → Option Nat} {qb : Nat → Nat} {i y : Nat} (h : (fun j => (X j).map qb) i = some y) : ∃ kd, X i = some kd ∧ qb kd = y := by
  have h : (X i).map qb = some y := h
  cases hx : X i with
  | none => rw [hx] at h; cases h
  | some kd => rw [hx] at h; exact ⟨kd, rfl, Option.some.inj h⟩

/-- the row of all kinds -/
def kAll : Nat → Option Nat := fun i => if i < 5 then some i else none

abbrev StA : Type := (Nat → Int32)
abbrev W_A (cI : ClassId) (b : Nat) (n : Nat) (x : Nat → Int32) : va_W := [(b, .inl (cI, n, .inl x))]
abbrev W_Au (cI : ClassId) (b : Nat) (n : Nat) (u : StA) : va_W := W_A cI b n u

abbrev StR : Type := (Int32) × (Nat → Int32)
abbrev W_R (adK : Nat → Nat) (adV : Nat → Nat) (cI : ClassId) (cB : ClassId) (h : Nat) (qA : Nat) (qV : Nat) (qT : Nat) (qb : Nat → Nat) (n : Nat) (k : Nat) (ka : Nat) (kd : Nat → Option Nat) (T : Nat → Int32) (at_ : Int32) (rv : Nat → Int32) : va_W := [(h, .inr (8, [.int (nI n), .ref qA, .ref qV, .ref qT, .int at_])), (qV, .inl (cI, k, .inl rv)), (qT, .inl (cI, k, .inl T)), (qA, .inl (cB, ka, .inr (.inr (.inr (.inr (fun i => (kd i).map qb)))))), ((qb 0), .inr (2, [])), ((qb 1), .inr (3, [])), ((qb 2), .inr (5, [])), ((qb 3), .inr (11, [])), ((qb 4), .inr (4, []))]
abbrev W_Ru (adK : Nat → Nat) (adV : Nat → Nat) (cI : ClassId) (cB : ClassId) (h : Nat) (qA : Nat) (qV : Nat) (qT : Nat) (qb : Nat → Nat) (n : Nat) (k : Nat) (ka : Nat) (kd : Nat → Option Nat) (T : Nat → Int32) (u : StR) : va_W := W_R adK adV cI cB h qA qV qT qb n k ka kd T u.1 u.2

abbrev StRS : Type := (Nat) × (Int32) × (Nat → Int32)
abbrev W_RS (cI : ClassId) (h : Nat) (qA : Nat) (qV : Nat) (qT : Nat) (n : Nat) (k : Nat) (T : Nat → Int32) (t : Nat) (at_ : Int32) (rv : Nat → Int32) : va_W := [(h, .inr (8, [.int (nI n), .ref qA, .ref qV, .ref t, .int at_])), (qV, .inl (cI, k, .inl rv)), (qT, .inl (cI, k, .inl T))]
abbrev W_RSu (cI : ClassId) (h : Nat) (qA : Nat) (qV : Nat) (qT : Nat) (n : Nat) (k : Nat) (T : Nat → Int32) (u : StRS) : va_W := W_RS cI h qA qV qT n k T u.1 u.2.1 u.2.2

abbrev StRSP : Type := (Int32) × (Nat → Int32)
abbrev W_RSP (cI : ClassId) (h : Nat) (qA : Nat) (qV : Nat) (qT : Nat) (n : Nat) (k : Nat) (T : Nat → Int32) (at_ : Int32) (rv : Nat → Int32) : va_W := [(h, .inr (8, [.int (nI n), .ref qA, .ref qV, .ref qT, .int at_])), (qV, .inl (cI, k, .inl rv)), (qT, .inl (cI, k, .inl T))]
abbrev W_RSPu (cI : ClassId) (h : Nat) (qA : Nat) (qV : Nat) (qT : Nat) (n : Nat) (k : Nat) (T : Nat → Int32) (u : StRSP) : va_W := W_RSP cI h qA qV qT n k T u.1 u.2

abbrev StG : Type := Unit
abbrev W_G (adK : Nat → Nat) (adV : Nat → Nat) (qb : Nat → Nat)  : va_W := [((qb 0), .inr (2, [])), ((qb 1), .inr (3, [])), ((qb 2), .inr (5, [])), ((qb 3), .inr (11, [])), ((qb 4), .inr (4, []))]
abbrev W_Gu (adK : Nat → Nat) (adV : Nat → Nat) (qb : Nat → Nat) (u : StG) : va_W := W_G adK adV qb 

abbrev StP : Type := (Nat → Int32) × (Nat) × (Nat → Nat → Int32) × (Nat → Nat → Option Nat) × (Nat → Nat → Option Nat)
abbrev W_P (adK : Nat → Nat) (adV : Nat → Nat) (cI : ClassId) (cB : ClassId) (cS : ClassId) (q : Nat → Nat) (qb : Nat → Nat) (n : Nat) (k : Nat) (f : Nat → Int32) (t : Nat) (a : Nat → Nat → Int32) (b : Nat → Nat → Option Nat) (sg : Nat → Nat → Option Nat) : va_W := [((q 0), .inr (7, [.int (nI n), .int (nI k), .ref (q 1), .ref (q 2), .ref (q 3), .ref (q 8), .int (f 0), .ref (q 13), .ref (q 14), .ref (q 15), .int (f 1), .ref (q 17), .int (f 2)])), ((q 1), .inl (cB, (5), .inr (.inr (.inr (.inr (fun i => (kAll i).map qb)))))), ((q 2), .inl (cI, k, .inl (a 0))), ((q 3), .inr (10, [.ref (q 4), .ref (q 5), .ref (q 6), .ref (q 7), .int (f 3), .int (f 4)])), ((q 4), .inl (cB, (k - n), .inr (.inr (.inr (.inr (fun i => ((b 0) i).map qb)))))), ((q 5), .inl (cI, n, .inl (a 1))), ((q 6), .inl (cI, k, .inl (a 2))), ((q 7), .inl (cS, (6), .inr (.inr (.inr (.inr (sg 0)))))), ((q 8), .inr (10, [.ref (q 9), .ref (q 10), .ref (q 11), .ref (q 12), .int (f 5), .int (f 6)])), ((q 9), .inl (cB, (k - n), .inr (.inr (.inr (.inr (fun i => ((b 1) i).map qb)))))), ((q 10), .inl (cI, n, .inl (a 3))), ((q 11), .inl (cI, k, .inl (a 4))), ((q 12), .inl (cS, (6), .inr (.inr (.inr (.inr (sg 1)))))), ((q 13), .inl (cI, k, .inl (a 5))), ((q 14), .inl (cI, k, .inl (a 6))), ((q 15), .inr (8, [.int (nI n), .ref (q 4), .ref (q 16), .ref t, .int (f 7)])), ((q 16), .inl (cI, k, .inl (a 8))), ((q 17), .inl (cI, (10 * n), .inl (a 7))), ((qb 0), .inr (2, [])), ((qb 1), .inr (3, [])), ((qb 2), .inr (5, [])), ((qb 3), .inr (11, [])), ((qb 4), .inr (4, []))]
abbrev W_Pu (adK : Nat → Nat) (adV : Nat → Nat) (cI : ClassId) (cB : ClassId) (cS : ClassId) (q : Nat → Nat) (qb : Nat → Nat) (n : Nat) (k : Nat) (u : StP) : va_W := W_P adK adV cI cB cS q qb n k u.1 u.2.1 u.2.2.1 u.2.2.2.1 u.2.2.2.2

abbrev StTS : Type := (Nat → Option Nat) × (Nat → Int32) × (Nat → Int32) × (Nat → Option Nat) × (Int32) × (Int32)
abbrev W_TS (adK : Nat → Nat) (adV : Nat → Nat) (cI : ClassId) (cB : ClassId) (cS : ClassId) (h : Nat) (h1 : Nat) (h2 : Nat) (h3 : Nat) (h4 : Nat) (g : Nat) (g1 : Nat) (g2 : Nat) (g3 : Nat) (g4 : Nat) (qb : Nat → Nat) (n : Nat) (k : Nat) (oA : Nat → Option Nat) (oF : Nat → Int32) (oT : Nat → Int32) (oS : Nat → Option Nat) (os : Int32) (oc : Int32) (tA : Nat → Option Nat) (tF : Nat → Int32) (tT : Nat → Int32) (tS : Nat → Option Nat) (ts : Int32) (tc : Int32) : va_W := [(h, .inr (10, [.ref h1, .ref h2, .ref h3, .ref h4, .int ts, .int tc])), (h1, .inl (cB, (k - n), .inr (.inr (.inr (.inr (fun i => (tA i).map qb)))))), (h2, .inl (cI, n, .inl tF)), (h3, .inl (cI, k, .inl tT)), (h4, .inl (cS, (6), .inr (.inr (.inr (.inr tS))))), (g, .inr (10, [.ref g1, .ref g2, .ref g3, .ref g4, .int os, .int oc])), (g1, .inl (cB, (k - n), .inr (.inr (.inr (.inr (fun i => (oA i).map qb)))))), (g2, .inl (cI, n, .inl oF)), (g3, .inl (cI, k, .inl oT)), (g4, .inl (cS, (6), .inr (.inr (.inr (.inr oS))))), ((qb 0), .inr (2, [])), ((qb 1), .inr (3, [])), ((qb 2), .inr (5, [])), ((qb 3), .inr (11, [])), ((qb 4), .inr (4, []))]
abbrev W_TSu (adK : Nat → Nat) (adV : Nat → Nat) (cI : ClassId) (cB : ClassId) (cS : ClassId) (h : Nat) (h1 : Nat) (h2 : Nat) (h3 : Nat) (h4 : Nat) (g : Nat) (g1 : Nat) (g2 : Nat) (g3 : Nat) (g4 : Nat) (qb : Nat → Nat) (n : Nat) (k : Nat) (oA : Nat → Option Nat) (oF : Nat → Int32) (oT : Nat → Int32) (oS : Nat → Option Nat) (os : Int32) (oc : Int32) (u : StTS) : va_W := W_TS adK adV cI cB cS h h1 h2 h3 h4 g g1 g2 g3 g4 qb n k oA oF oT oS os oc u.1 u.2.1 u.2.2.1 u.2.2.2.1 u.2.2.2.2.1 u.2.2.2.2.2

abbrev StAS : Type := (Nat → Option Nat) × (Int32)
abbrev W_AS (cS : ClassId) (h : Nat) (x1 : Nat) (x2 : Nat) (x3 : Nat) (qS : Nat) (tc : Int32) (tS : Nat → Option Nat) (ts : Int32) : va_W := [(h, .inr (10, [.ref x1, .ref x2, .ref x3, .ref qS, .int ts, .int tc])), (qS, .inl (cS, (6), .inr (.inr (.inr (.inr tS)))))]
abbrev W_ASu (cS : ClassId) (h : Nat) (x1 : Nat) (x2 : Nat) (x3 : Nat) (qS : Nat) (tc : Int32) (u : StAS) : va_W := W_AS cS h x1 x2 x3 qS tc u.1 u.2

abbrev StS : Type := Unit
abbrev W_S (adK : Nat → Nat) (adV : Nat → Nat) (sq : Nat) (sv : Nat) (sm : Nat) (sb : Nat → Int32)  : va_W := []
abbrev W_Su (adK : Nat → Nat) (adV : Nat → Nat) (sq : Nat) (sv : Nat) (sm : Nat) (sb : Nat → Int32) (u : StS) : va_W := W_S adK adV sq sv sm sb 

abbrev StZ : Type := Unit
abbrev W_Z (adK : Nat → Nat) (adV : Nat → Nat)  : va_W := []
abbrev W_Zu (adK : Nat → Nat) (adV : Nat → Nat) (u : StZ) : va_W := W_Z adK adV 

abbrev StY : Type := (Nat → Int32)
abbrev W_Y (cY : ClassId) (b : Nat) (n : Nat) (x : Nat → Int32) : va_W := [(b, .inl (cY, n, .inl x))]
abbrev W_Yu (cY : ClassId) (b : Nat) (n : Nat) (u : StY) : va_W := W_Y cY b n u

abbrev StB : Type := (Nat) × (Nat) × (Int32) × (Int32) × (Nat → Int32)
abbrev W_B (adK : Nat → Nat) (adV : Nat → Nat) (cY : ClassId) (h : Nat) (bv : Nat) (bm : Nat) (ml : Int32) (cn : Int32) (bt : Nat → Int32) : va_W := [(h, .inr (1, [.ref bv, .int (0 : Int32), .int ml, .int cn])), (bv, .inl (cY, bm, .inl bt))]
abbrev W_Bu (adK : Nat → Nat) (adV : Nat → Nat) (cY : ClassId) (h : Nat) (u : StB) : va_W := W_B adK adV cY h u.1 u.2.1 u.2.2.1 u.2.2.2.1 u.2.2.2.2

abbrev StE : Type := Unit
abbrev W_E   : va_W := []
abbrev W_Eu  (u : StE) : va_W := W_E  

abbrev StPG : Type := (Nat) × (Nat) × (Int32) × (Int32) × (Nat → Int32)
abbrev W_PG (adK : Nat → Nat) (adV : Nat → Nat) (cY : ClassId) (h : Nat) (g : Nat) (bv : Nat) (bm : Nat) (ml : Int32) (cn : Int32) (bt : Nat → Int32) : va_W := [(h, .inr (6, [.ref g])), (g, .inr (1, [.ref bv, .int (0 : Int32), .int ml, .int cn])), (bv, .inl (cY, bm, .inl bt))]
abbrev W_PGu (adK : Nat → Nat) (adV : Nat → Nat) (cY : ClassId) (h : Nat) (g : Nat) (u : StPG) : va_W := W_PG adK adV cY h g u.1 u.2.1 u.2.2.1 u.2.2.2.1 u.2.2.2.2

abbrev StN : Type := (Nat → Int32) × (Nat) × (Nat) × (Int32) × (Int32) × (Nat → Int32) × (Nat → Int32) × (Nat) × (Nat → Nat → Int32) × (Nat → Nat → Option Nat) × (Nat → Nat → Option Nat)
abbrev W_N (adK : Nat → Nat) (adV : Nat → Nat) (cI : ClassId) (cB : ClassId) (cS : ClassId) (cY : ClassId) (np : Nat) (pg : Nat) (g : Nat) (q : Nat → Nat) (qb : Nat → Nat) (n : Nat) (k : Nat) (ni : Nat → Int32) (bv : Nat) (bm : Nat) (ml : Int32) (cn : Int32) (bt : Nat → Int32) (f : Nat → Int32) (t : Nat) (a : Nat → Nat → Int32) (b : Nat → Nat → Option Nat) (sg : Nat → Nat → Option Nat) : va_W := [(np, .inr (12, [.ref (q 1), .ref pg, .ref (q 0), .int (ni 0), .int (ni 1), .int (ni 2)])), (pg, .inr (6, [.ref g])), (g, .inr (1, [.ref bv, .int (0 : Int32), .int ml, .int cn])), (bv, .inl (cY, bm, .inl bt)), ((q 0), .inr (7, [.int (nI n), .int (nI k), .ref (q 1), .ref (q 2), .ref (q 3), .ref (q 8), .int (f 0), .ref (q 13), .ref (q 14), .ref (q 15), .int (f 1), .ref (q 17), .int (f 2)])), ((q 1), .inl (cB, (5), .inr (.inr (.inr (.inr (fun i => (kAll i).map qb)))))), ((q 2), .inl (cI, k, .inl (a 0))), ((q 3), .inr (10, [.ref (q 4), .ref (q 5), .ref (q 6), .ref (q 7), .int (f 3), .int (f 4)])), ((q 4), .inl (cB, (k - n), .inr (.inr (.inr (.inr (fun i => ((b 0) i).map qb)))))), ((q 5), .inl (cI, n, .inl (a 1))), ((q 6), .inl (cI, k, .inl (a 2))), ((q 7), .inl (cS, (6), .inr (.inr (.inr (.inr (sg 0)))))), ((q 8), .inr (10, [.ref (q 9), .ref (q 10), .ref (q 11), .ref (q 12), .int (f 5), .int (f 6)])), ((q 9), .inl (cB, (k - n), .inr (.inr (.inr (.inr (fun i => ((b 1) i).map qb)))))), ((q 10), .inl (cI, n, .inl (a 3))), ((q 11), .inl (cI, k, .inl (a 4))), ((q 12), .inl (cS, (6), .inr (.inr (.inr (.inr (sg 1)))))), ((q 13), .inl (cI, k, .inl (a 5))), ((q 14), .inl (cI, k, .inl (a 6))), ((q 15), .inr (8, [.int (nI n), .ref (q 4), .ref (q 16), .ref t, .int (f 7)])), ((q 16), .inl (cI, k, .inl (a 8))), ((q 17), .inl (cI, (10 * n), .inl (a 7))), ((qb 0), .inr (2, [])), ((qb 1), .inr (3, [])), ((qb 2), .inr (5, [])), ((qb 3), .inr (11, [])), ((qb 4), .inr (4, []))]
abbrev W_Nu (adK : Nat → Nat) (adV : Nat → Nat) (cI : ClassId) (cB : ClassId) (cS : ClassId) (cY : ClassId) (np : Nat) (pg : Nat) (g : Nat) (q : Nat → Nat) (qb : Nat → Nat) (n : Nat) (k : Nat) (u : StN) : va_W := W_N adK adV cI cB cS cY np pg g q qb n k u.1 u.2.1 u.2.2.1 u.2.2.2.1 u.2.2.2.2.1 u.2.2.2.2.2.1 u.2.2.2.2.2.2.1 u.2.2.2.2.2.2.2.1 u.2.2.2.2.2.2.2.2.1 u.2.2.2.2.2.2.2.2.2.1 u.2.2.2.2.2.2.2.2.2.2

abbrev StGB : Type := Unit
abbrev W_GB (adK : Nat → Nat) (adV : Nat → Nat) (qb : Nat → Nat)  : va_W := [((qb 0), .inr (2, [])), ((qb 1), .inr (3, [])), ((qb 2), .inr (5, [])), ((qb 3), .inr (11, [])), ((qb 4), .inr (4, []))]
abbrev W_GBu (adK : Nat → Nat) (adV : Nat → Nat) (qb : Nat → Nat) (u : StGB) : va_W := W_GB adK adV qb 

def w_J7_fill_53178 (n : Nat) (x : Nat → Int32)  (p1 : Int32) (Q : ((Nat → Int32)) → Prop) : Prop := ∀ x1 : Int32, x1 = (nI n) → (∀ X4 : Int32 → (Nat → Int32) → Prop, (∀ (x2 : Int32) (xv3 : (Nat → Int32)), ((((x1 ≤ x2) → Q xv3) ∧ (¬ (x1 ≤ x2) → (vp_in x2 n) ∧ ∀ x7 : Int32, x7 = x2 + (1 : Int32) → X4 x7 (upd xv3 x2.toNatClampNeg p1)))) → X4 x2 xv3) → X4 (0 : Int32) x)
abbrev rmJ7_fill_53178 : Room := { frames := 0, cells := 0, slots := 0, locals := 0 }
set_option maxHeartbeats 4000000 in
set_option maxRecDepth 100000 in
theorem t_J7_fill_53178 (l : Launch) (dC : Nat → ClassId) (dI : Nat → Nat → Nat) (cI : ClassId) (b : Nat) (n : Nat) (sz : Nat) (x : Nat → Int32)   (p1 : Int32) (Q0 : ((Nat → Int32)) → Prop) (hw : w_J7_fill_53178 n x  p1 Q0) : Met l yJ7_fill_53178 wsJ7_fill_53178 rmJ7_fill_53178 (g_pre g_T (dC, dI) vwCl [(cI, .int)] (W_A cI b n x) sz [.ref b, .int p1]) (g_qv (dC, dI) vwCl [(cI, .int)] (fun u : ((Nat → Int32)) => (W_A cI b n u)) Q0 (va_A (W_A cI b n x) sz)) 0 0 (va_A (W_A cI b n x) sz) := by
  refine g_startv (by decide) rfl (Nat.le_of_ble_eq_true rfl) ?_
  intro p e s m args below meth c A Q ls hx hb hml hown hts hin hK hP hD hA hS hZ hret hl
  obtain ⟨H, eH⟩ : ∃ H : Heap, H = s.heap := ⟨_, rfl⟩
  obtain ⟨locs, eL⟩ : ∃ L : List Loc, L = [] := ⟨_, rfl⟩
  have hS : va_S A s.heap H locs := by rw [eH, eL]; exact hS
  rw [← eH] at hP
  suffices hg : W p l e rmJ7_fill_53178 s m args below meth c H locs 0 0 Q (F0 m 0 ls []) by rw [eH, eL] at hg; exact hg
  clear eH eL
  replace hl : lv_has ls 4 [(0, .ref b), (1, .int p1)] := hl
  unfold w_J7_fill_53178 at hw
  refine lv_iconst (v := 0) hx hb dJ7_fill_53178_0 (by decide) ?_
  refine lv_istore_n (lv' := [(2, .int (0 : Int32)), (0, .ref b), (1, .int p1)]) hx hb dJ7_fill_53178_1 rfl hl (by decide) rfl (fun ls hl => ?_)
  refine lv_aload_n hx hb dJ7_fill_53178_2 rfl (lv_at hl 1 rfl) ?_
  refine va_alen hx hb hK hP 0 0 rfl rfl (v := (nI n)) rfl dJ7_fill_53178_3 ?_
  refine lv_topi (fun x1 ex1 => ?_)
  replace hw := hw x1 ex1
  refine lv_istore_n (lv' := [(3, .int x1), (2, .int (0 : Int32)), (0, .ref b), (1, .int p1)]) hx hb dJ7_fill_53178_4 rfl hl (by decide) rfl (fun ls hl => ?_)
  refine hw (fun (x2 : Int32) (xv3 : (Nat → Int32)) => ∀ (H : Heap) (locs : List Loc) (ls : Array Slot), va_P (dC, dI) vwCl (W_A cI b n xv3) H → va_D A (W_A cI b n xv3) → va_S A s.heap H locs → lv_has ls 4 [(0, .ref b), (1, .int p1), (2, .int x2), (3, .int x1)] → W p l e rmJ7_fill_53178 s m args below meth c H locs 0 0 Q (F0 m 5 ls [])) ?_ H locs ls hP hD hS (lv_sub hl [2, 3, 1, 0] rfl)
  · intro x2 xv3 hw H locs ls hP hD hS hl
    refine lv_iload_n hx hb dJ7_fill_53178_5 rfl (lv_at hl 2 rfl) ?_
    refine lv_iload_n hx hb dJ7_fill_53178_6 rfl (lv_at hl 3 rfl) ?_
    refine lv_icmp_ge (tgt := 20) hx hb dJ7_fill_53178_7 (by decide) (fun hc5 => ?_) (fun hc5 => ?_)
    · replace hw := hw.1 hc5
      exact hret dJ7_fill_53178_20 hK hP hD hS hw
    · replace hw := hw.2 hc5
      refine lv_aload_n hx hb dJ7_fill_53178_10 rfl (lv_at hl 0 rfl) ?_
      refine lv_iload_n hx hb dJ7_fill_53178_11 rfl (lv_at hl 2 rfl) ?_
      refine lv_iload_n hx hb dJ7_fill_53178_12 rfl (lv_at hl 1 rfl) ?_
      obtain ⟨hb6, hw⟩ := hw
      refine va_iast hx hb hK hP hD hS 0 0 rfl rfl hb6 dJ7_fill_53178_13 (fun H locs hP hD hS => ?_)
      replace hP : va_P (dC, dI) vwCl (W_A cI b n (upd xv3 x2.toNatClampNeg p1)) H := hP
      replace hD : va_D A (W_A cI b n (upd xv3 x2.toNatClampNeg p1)) := hD
      obtain ⟨x7, ex7⟩ : ∃ y : Int32, y = x2 + (1 : Int32) := ⟨_, rfl⟩
      replace hw := hw x7 ex7
      refine lv_iinc (v := x7) (lv' := [(2, .int x7), (0, .ref b), (1, .int p1), (3, .int x1)]) hx hb dJ7_fill_53178_14 hl (k := 2) rfl (by rw [ex7]; rfl) (by decide) rfl (fun ls hl => ?_)
      refine lv_goto (tgt := 5) hx hb dJ7_fill_53178_17 (by decide) ?_
      exact hw H locs ls hP hD hS (lv_sub hl [1, 2, 0, 3] rfl)

def w_X10_asNumber (n : Nat) (x : Nat → Int32)  (p1 : Int32) (Q : Int32 → Unit → Prop) : Prop := (∀ X3 : Int32 → Int32 → Prop, (∀ (x1 : Int32) (x2 : Int32), ((((p1 ≤ x2) → Q x1 ()) ∧ (¬ (p1 ≤ x2) → ((((nI n) ≤ x2) → Q x1 ()) ∧ (¬ ((nI n) ≤ x2) → (vp_in x2 n) ∧ ∀ x7 : Int32, x7 = ((x1 * (10 : Int32)) + (x x2.toNatClampNeg)) → ∀ x8 : Int32, x8 = x2 + (1 : Int32) → X3 x7 x8))))) → X3 x1 x2) → X3 (0 : Int32) (0 : Int32))
abbrev rmX10_asNumber : Room := { frames := 0, cells := 0, slots := 0, locals := 0 }
set_option maxHeartbeats 4000000 in
set_option maxRecDepth 100000 in
theorem t_X10_asNumber (l : Launch) (dC : Nat → ClassId) (dI : Nat → Nat → Nat) (cI : ClassId) (b : Nat) (n : Nat) (sz : Nat) (x : Nat → Int32)   (p1 : Int32) (Q0 : Int32 → Unit → Prop) (hw : w_X10_asNumber n x  p1 Q0) : Met l yX10_asNumber wsX10_asNumber rmX10_asNumber (g_pre g_T (dC, dI) vwCl [(cI, .int)] (W_A cI b n x) sz [.ref b, .int p1]) (g_qi (dC, dI) vwCl [(cI, .int)] (fun u : Unit => (W_A cI b n x)) Q0 (va_A (W_A cI b n x) sz)) 0 0 (va_A (W_A cI b n x) sz) := by
  refine g_starti (by decide) rfl (Nat.le_of_ble_eq_true rfl) ?_
  intro p e s m args below meth c A Q ls hx hb hml hown hts hin hK hP hD hA hS hZ hret hl
  obtain ⟨H, eH⟩ : ∃ H : Heap, H = s.heap := ⟨_, rfl⟩
  obtain ⟨locs, eL⟩ : ∃ L : List Loc, L = [] := ⟨_, rfl⟩
  have hS : va_S A s.heap H locs := by rw [eH, eL]; exact hS
  rw [← eH] at hP
  suffices hg : W p l e rmX10_asNumber s m args below meth c H locs 0 0 Q (F0 m 0 ls []) by rw [eH, eL] at hg; exact hg
  clear eH eL
  replace hl : lv_has ls 4 [(0, .ref b), (1, .int p1)] := hl
  unfold w_X10_asNumber at hw
  refine lv_iconst (v := 0) hx hb dX10_asNumber_0 (by decide) ?_
  refine lv_istore_n (lv' := [(2, .int (0 : Int32)), (0, .ref b), (1, .int p1)]) hx hb dX10_asNumber_1 rfl hl (by decide) rfl (fun ls hl => ?_)
  refine lv_iconst (v := 0) hx hb dX10_asNumber_2 (by decide) ?_
  refine lv_istore_n (lv' := [(3, .int (0 : Int32)), (2, .int (0 : Int32)), (0, .ref b), (1, .int p1)]) hx hb dX10_asNumber_3 rfl hl (by decide) rfl (fun ls hl => ?_)
  refine hw (fun (x1 : Int32) (x2 : Int32) => ∀ (H : Heap) (locs : List Loc) (ls : Array Slot), va_P (dC, dI) vwCl (W_A cI b n x) H → va_D A (W_A cI b n x) → va_S A s.heap H locs → lv_has ls 4 [(0, .ref b), (1, .int p1), (2, .int x1), (3, .int x2)] → W p l e rmX10_asNumber s m args below meth c H locs 0 0 Q (F0 m 4 ls [])) ?_ H locs ls hP hD hS (lv_sub hl [2, 3, 1, 0] rfl)
  · intro x1 x2 hw H locs ls hP hD hS hl
    refine lv_iload_n hx hb dX10_asNumber_4 rfl (lv_at hl 3 rfl) ?_
    refine lv_iload_n hx hb dX10_asNumber_5 rfl (lv_at hl 1 rfl) ?_
    refine lv_icmp_ge (tgt := 30) hx hb dX10_asNumber_6 (by decide) (fun hc4 => ?_) (fun hc4 => ?_)
    · replace hw := hw.1 hc4
      refine lv_iload_n hx hb dX10_asNumber_30 rfl (lv_at hl 2 rfl) ?_
      exact hret dX10_asNumber_31 hK hP hD hS hw
    · replace hw := hw.2 hc4
      refine lv_iload_n hx hb dX10_asNumber_9 rfl (lv_at hl 3 rfl) ?_
      refine lv_aload_n hx hb dX10_asNumber_10 rfl (lv_at hl 0 rfl) ?_
      refine va_alen hx hb hK hP 0 0 rfl rfl (v := (nI n)) rfl dX10_asNumber_11 ?_
      refine lv_icmp_ge (tgt := 30) hx hb dX10_asNumber_12 (by decide) (fun hc5 => ?_) (fun hc5 => ?_)
      · replace hw := hw.1 hc5
        refine lv_iload_n hx hb dX10_asNumber_30 rfl (lv_at hl 2 rfl) ?_
        exact hret dX10_asNumber_31 hK hP hD hS hw
      · replace hw := hw.2 hc5
        refine lv_iload_n hx hb dX10_asNumber_15 rfl (lv_at hl 2 rfl) ?_
        refine lv_bipush (v := 10) hx hb dX10_asNumber_16 (by decide) ?_
        refine lv_imul hx hb dX10_asNumber_18 ?_
        refine lv_aload_n hx hb dX10_asNumber_19 rfl (lv_at hl 0 rfl) ?_
        refine lv_iload_n hx hb dX10_asNumber_20 rfl (lv_at hl 3 rfl) ?_
        obtain ⟨hb6, hw⟩ := hw
        refine va_iald hx hb hK hP 0 0 rfl rfl hb6 dX10_asNumber_21 ?_
        refine lv_iadd hx hb dX10_asNumber_22 ?_
        refine lv_topi (fun x7 ex7 => ?_)
        replace hw := hw x7 ex7
        refine lv_istore_n (lv' := [(2, .int x7), (0, .ref b), (1, .int p1), (3, .int x2)]) hx hb dX10_asNumber_23 rfl hl (by decide) rfl (fun ls hl => ?_)
        obtain ⟨x8, ex8⟩ : ∃ y : Int32, y = x2 + (1 : Int32) := ⟨_, rfl⟩
        replace hw := hw x8 ex8
        refine lv_iinc (v := x8) (lv' := [(3, .int x8), (2, .int x7), (0, .ref b), (1, .int p1)]) hx hb dX10_asNumber_24 hl (k := 3) rfl (by rw [ex8]; rfl) (by decide) rfl (fun ls hl => ?_)
        refine lv_goto (tgt := 4) hx hb dX10_asNumber_27 (by decide) ?_
        exact hw H locs ls hP hD hS (lv_sub hl [2, 3, 1, 0] rfl)

def w_X5_greatest (n : Nat) (x : Nat → Int32)   (Q : Int32 → Unit → Prop) : Prop := ∀ x1 : Int32, x1 = (nI n) → (∀ X4 : Int32 → Int32 → Prop, (∀ (x2 : Int32) (x3 : Int32), ((((x1 ≤ x3) → Q x2 ()) ∧ (¬ (x1 ≤ x3) → (vp_in x3 n) ∧ ∀ x7 : Int32, x7 = (x x3.toNatClampNeg) → ∀ x8 : Int32, x8 = (if x2 < x7 then x7 else x2) → ∀ x9 : Int32, x9 = x3 + (1 : Int32) → X4 x8 x9))) → X4 x2 x3) → X4 (0 : Int32) (0 : Int32))
abbrev rmX5_greatest : Room := { frames := 1, cells := 0, slots := 0, locals := 40 }
set_option maxHeartbeats 4000000 in
set_option maxRecDepth 100000 in
theorem t_X5_greatest (l : Launch) (dC : Nat → ClassId) (dI : Nat → Nat → Nat) (cI : ClassId) (b : Nat) (n : Nat) (sz : Nat) (x : Nat → Int32)    (Q0 : Int32 → Unit → Prop) (hw : w_X5_greatest n x   Q0) : Met l yX5_greatest wsX5_greatest rmX5_greatest (g_pre g_T (dC, dI) vwCl [(cI, .int)] (W_A cI b n x) sz [.ref b]) (g_qi (dC, dI) vwCl [(cI, .int)] (fun u : Unit => (W_A cI b n x)) Q0 (va_A (W_A cI b n x) sz)) 0 0 (va_A (W_A cI b n x) sz) := by
  refine g_starti (by decide) rfl (Nat.le_of_ble_eq_true rfl) ?_
  intro p e s m args below meth c A Q ls hx hb hml hown hts hin hK hP hD hA hS hZ hret hl
  obtain ⟨H, eH⟩ : ∃ H : Heap, H = s.heap := ⟨_, rfl⟩
  obtain ⟨locs, eL⟩ : ∃ L : List Loc, L = [] := ⟨_, rfl⟩
  have hS : va_S A s.heap H locs := by rw [eH, eL]; exact hS
  rw [← eH] at hP
  suffices hg : W p l e rmX5_greatest s m args below meth c H locs 0 0 Q (F0 m 0 ls []) by rw [eH, eL] at hg; exact hg
  clear eH eL
  replace hl : lv_has ls 6 [(0, .ref b)] := hl
  have ml141 := hts (.methodLink RX5 141 Lib.Math.max.name) (by decide +kernel)
  have msmax := hts (.static Lib.Math.max.name) (by decide +kernel)
  have miMath := hts (.initialized "java/lang/Math") (by decide +kernel)
  have mcmax := hts (.code Lib.Math.max.name Lib.Math.max.code 2 (some .int)) (by decide +kernel)
  unfold w_X5_greatest at hw
  refine lv_iconst (v := 0) hx hb dX5_greatest_0 (by decide) ?_
  refine lv_istore_n (lv' := [(1, .int (0 : Int32)), (0, .ref b)]) hx hb dX5_greatest_1 rfl hl (by decide) rfl (fun ls hl => ?_)
  refine lv_aload_n hx hb dX5_greatest_2 rfl (lv_at hl 1 rfl) ?_
  refine lv_astore_n (lv' := [(2, .ref b), (1, .int (0 : Int32)), (0, .ref b)]) hx hb dX5_greatest_3 rfl hl (by decide) rfl (fun ls hl => ?_)
  refine lv_aload_n hx hb dX5_greatest_4 rfl (lv_at hl 0 rfl) ?_
  refine va_alen hx hb hK hP 0 0 rfl rfl (v := (nI n)) rfl dX5_greatest_5 ?_
  refine lv_topi (fun x1 ex1 => ?_)
  replace hw := hw x1 ex1
  refine lv_istore_n (lv' := [(3, .int x1), (2, .ref b), (1, .int (0 : Int32)), (0, .ref b)]) hx hb dX5_greatest_6 rfl hl (by decide) rfl (fun ls hl => ?_)
  refine lv_iconst (v := 0) hx hb dX5_greatest_7 (by decide) ?_
  refine lv_istore (lv' := [(4, .int (0 : Int32)), (3, .int x1), (2, .ref b), (1, .int (0 : Int32)), (0, .ref b)]) hx hb dX5_greatest_8 hl (by decide) rfl (fun ls hl => ?_)
  refine hw (fun (x2 : Int32) (x3 : Int32) => ∀ (H : Heap) (locs : List Loc) (ls : Array Slot), va_P (dC, dI) vwCl (W_A cI b n x) H → va_D A (W_A cI b n x) → va_S A s.heap H locs → lv_has ls 6 [(1, .int x2), (2, .ref b), (3, .int x1), (4, .int x3)] → W p l e rmX5_greatest s m args below meth c H locs 0 0 Q (F0 m 10 ls [])) ?_ H locs ls hP hD hS (lv_sub hl [3, 2, 1, 0] rfl)
  · intro x2 x3 hw H locs ls hP hD hS hl
    refine lv_iload hx hb dX5_greatest_10 (lv_at hl 3 rfl) ?_
    refine lv_iload_n hx hb dX5_greatest_12 rfl (lv_at hl 2 rfl) ?_
    refine lv_icmp_ge (tgt := 35) hx hb dX5_greatest_13 (by decide) (fun hc5 => ?_) (fun hc5 => ?_)
    · replace hw := hw.1 hc5
      refine lv_iload_n hx hb dX5_greatest_35 rfl (lv_at hl 0 rfl) ?_
      exact hret dX5_greatest_36 hK hP hD hS hw
    · replace hw := hw.2 hc5
      refine lv_aload_n hx hb dX5_greatest_16 rfl (lv_at hl 1 rfl) ?_
      refine lv_iload hx hb dX5_greatest_17 (lv_at hl 3 rfl) ?_
      obtain ⟨hb6, hw⟩ := hw
      refine va_iald hx hb hK hP 0 0 rfl rfl hb6 dX5_greatest_19 ?_
      refine lv_topi (fun x7 ex7 => ?_)
      replace hw := hw x7 ex7
      refine lv_istore (lv' := [(5, .int x7), (1, .int x2), (2, .ref b), (3, .int x1), (4, .int x3)]) hx hb dX5_greatest_20 hl (by decide) rfl (fun ls hl => ?_)
      refine lv_iload_n hx hb dX5_greatest_22 rfl (lv_at hl 1 rfl) ?_
      refine lv_iload hx hb dX5_greatest_23 (lv_at hl 0 rfl) ?_
      refine va_mmax hx hb (hml.trans hl.1.symm) hown ml141 msmax miMath mcmax (Nat.le_of_ble_eq_true rfl) (Nat.le_of_ble_eq_true rfl) (Nat.le_of_ble_eq_true rfl) (Nat.le_of_ble_eq_true rfl) dX5_greatest_25 ?_
      refine lv_topi (fun x8 ex8 => ?_)
      replace hw := hw x8 ex8
      refine lv_istore_n (lv' := [(1, .int x8), (5, .int x7), (2, .ref b), (3, .int x1), (4, .int x3)]) hx hb dX5_greatest_28 rfl hl (by decide) rfl (fun ls hl => ?_)
      obtain ⟨x9, ex9⟩ : ∃ y : Int32, y = x3 + (1 : Int32) := ⟨_, rfl⟩
      replace hw := hw x9 ex9
      refine lv_iinc (v := x9) (lv' := [(4, .int x9), (1, .int x8), (5, .int x7), (2, .ref b), (3, .int x1)]) hx hb dX5_greatest_29 hl (k := 4) rfl (by rw [ex9]; rfl) (by decide) rfl (fun ls hl => ?_)
      refine lv_goto (tgt := 10) hx hb dX5_greatest_32 (by decide) ?_
      exact hw H locs ls hP hD hS (lv_sub hl [1, 3, 4, 0] rfl)

def w_X6_start (k : Nat) (n : Nat) (t : Nat) (at_ : Int32) (rv : Nat → Int32)   (Q : StRSP → Prop) : Prop := ∀ J2 : Int32 → Prop, (∀ (x1 : Int32), ((((¬ x1 = 0) → Q (x1, rv)) ∧ (x1 = 0 → (vp_in (0 : Int32) k) ∧ Q (x1, (upd rv (0 : Int32).toNatClampNeg (-1 : Int32)))))) → J2 x1) → ∀ J5 : Prop, ((J2 (-1 : Int32)) → J5) → ((((nI n) ≤ 0) → J5) ∧ (¬ ((nI n) ≤ 0) → (((¬ (nI k) = (nI k)) → J5) ∧ ((nI k) = (nI k) → J2 (0 : Int32)))))
abbrev rmX6_start : Room := { frames := 0, cells := 0, slots := 0, locals := 0 }
set_option maxHeartbeats 4000000 in
set_option maxRecDepth 100000 in
theorem t_X6_start (l : Launch) (dC : Nat → ClassId) (dI : Nat → Nat → Nat) (cI : ClassId) (h : Nat) (qA : Nat) (qV : Nat) (qT : Nat) (n : Nat) (k : Nat) (T : Nat → Int32) (sz : Nat) (t : Nat) (at_ : Int32) (rv : Nat → Int32)    (Q0 : StRSP → Prop) (hw : w_X6_start k n t at_ rv   Q0) : Met l yX6_start wsX6_start rmX6_start (g_pre g_T (dC, dI) vwCl [(cI, .int)] (W_RS cI h qA qV qT n k T t at_ rv) sz [.ref h, .ref qT]) (g_qv (dC, dI) vwCl [(cI, .int)] (W_RSPu cI h qA qV qT n k T) Q0 (va_A (W_RS cI h qA qV qT n k T t at_ rv) sz)) 0 0 (va_A (W_RS cI h qA qV qT n k T t at_ rv) sz) := by
  refine g_startv (by decide) rfl (Nat.le_of_ble_eq_true rfl) ?_
  intro p e s m args below meth c A Q ls hx hb hml hown hts hin hK hP hD hA hS hZ hret hl
  obtain ⟨H, eH⟩ : ∃ H : Heap, H = s.heap := ⟨_, rfl⟩
  obtain ⟨locs, eL⟩ : ∃ L : List Loc, L = [] := ⟨_, rfl⟩
  have hS : va_S A s.heap H locs := by rw [eH, eL]; exact hS
  rw [← eH] at hP
  suffices hg : W p l e rmX6_start s m args below meth c H locs 0 0 Q (F0 m 0 ls []) by rw [eH, eL] at hg; exact hg
  clear eH eL
  replace hl : lv_has ls 2 [(0, .ref h), (1, .ref qT)] := hl
  have hf23 := hts (.fieldLink RX6 23 "NumberPile$Rows" "told" "[I") (by decide +kernel)
  have hiX6 : ∀ w ∈ u_ws RX6 TX6 5, w ∈ wsX6_start := fun w h => List.mem_cons_of_mem _ (List.mem_append_right _ h)
  have hf9 := hts (.fieldLink RX6 9 "NumberPile$Rows" "wide" "I") (by decide +kernel)
  have hf26 := hts (.fieldLink RX6 26 "NumberPile$Rows" "at" "I") (by decide +kernel)
  have hf19 := hts (.fieldLink RX6 19 "NumberPile$Rows" "values" "[I") (by decide +kernel)
  unfold w_X6_start at hw
  refine lv_aload_n hx hb dX6_start_0 rfl (lv_at hl 0 rfl) ?_
  refine lv_aload_n hx hb dX6_start_1 rfl (lv_at hl 1 rfl) ?_
  refine va_put (D := (dC, dI)) (ci := 8) (v := .ref qT) (ty := (.array (.int))) (C := RX6) (T := TX6) (N := 5) hx hb hts hiX6 tyX6 tyX6_ok nmX6 hown hK hP hD hS 0 rfl rfl 3 (by decide) hf23 (fun _ h9 => h9) rfl (by decide +kernel) rfl rfl (Nat.le_of_ble_eq_true rfl) dX6_start_2 (fun H locs hP hD hS => ?_)
  replace hP : va_P (dC, dI) vwCl (W_RS cI h qA qV qT n k T qT at_ rv) H := hP
  replace hD : va_D A (W_RS cI h qA qV qT n k T qT at_ rv) := hD
  refine lv_aload_n hx hb dX6_start_5 rfl (lv_at hl 0 rfl) ?_
  refine lv_aload_n hx hb dX6_start_6 rfl (lv_at hl 0 rfl) ?_
  refine va_get (D := (dC, dI)) (ci := 8) (v := .int (nI n)) (C := RX6) (T := TX6) (N := 5) hx hb hts hiX6 hown hK hP 0 rfl rfl 0 (by decide) hf9 (fun _ h9 => h9) rfl dX6_start_7 ?_
  replace hw := hw (fun (x1 : Int32) => ∀ (H : Heap) (locs : List Loc) (ls : Array Slot), va_P (dC, dI) vwCl (W_RS cI h qA qV qT n k T qT at_ rv) H → va_D A (W_RS cI h qA qV qT n k T qT at_ rv) → va_S A s.heap H locs → lv_has ls 2 [(0, .ref h)] → W p l e rmX6_start s m args below meth c H locs 0 0 Q (F0 m 31 ls [.int x1, .ref h])) (by
    intro x1 hw H locs ls hP hD hS hl
    refine va_put (D := (dC, dI)) (ci := 8) (v := .int x1) (ty := (.int)) (C := RX6) (T := TX6) (N := 5) hx hb hts hiX6 tyX6 tyX6_ok nmX6 hown hK hP hD hS 0 rfl rfl 4 (by decide) hf26 (fun _ h9 => h9) rfl (by decide +kernel) rfl rfl (Nat.le_of_ble_eq_true rfl) dX6_start_31 (fun H locs hP hD hS => ?_)
    replace hP : va_P (dC, dI) vwCl (W_RS cI h qA qV qT n k T qT x1 rv) H := hP
    replace hD : va_D A (W_RS cI h qA qV qT n k T qT x1 rv) := hD
    refine lv_aload_n hx hb dX6_start_34 rfl (lv_at hl 0 rfl) ?_
    refine va_get (D := (dC, dI)) (ci := 8) (v := .int x1) (C := RX6) (T := TX6) (N := 5) hx hb hts hiX6 hown hK hP 0 rfl rfl 4 (by decide) hf26 (fun _ h9 => h9) rfl dX6_start_35 ?_
    refine lv_if_ne (tgt := 48) hx hb dX6_start_38 (by decide) (fun hc3 => ?_) (fun hc3 => ?_)
    · replace hw := hw.1 hc3
      exact hret dX6_start_48 hK hP hD hS hw
    · replace hw := hw.2 hc3
      refine lv_aload_n hx hb dX6_start_41 rfl (lv_at hl 0 rfl) ?_
      refine va_get (D := (dC, dI)) (ci := 8) (v := .ref qV) (C := RX6) (T := TX6) (N := 5) hx hb hts hiX6 hown hK hP 0 rfl rfl 2 (by decide) hf19 (fun _ h9 => h9) rfl dX6_start_42 ?_
      refine lv_iconst (v := 0) hx hb dX6_start_45 (by decide) ?_
      refine lv_iconst (v := -1) hx hb dX6_start_46 (by decide) ?_
      obtain ⟨hb4, hw⟩ := hw
      refine va_iast hx hb hK hP hD hS 1 0 rfl rfl hb4 dX6_start_47 (fun H locs hP hD hS => ?_)
      replace hP : va_P (dC, dI) vwCl (W_RS cI h qA qV qT n k T qT x1 (upd rv (0 : Int32).toNatClampNeg (-1 : Int32))) H := hP
      replace hD : va_D A (W_RS cI h qA qV qT n k T qT x1 (upd rv (0 : Int32).toNatClampNeg (-1 : Int32))) := hD
      exact hret dX6_start_48 hK hP hD hS hw)
  replace hw := hw (∀ (H : Heap) (locs : List Loc) (ls : Array Slot), va_P (dC, dI) vwCl (W_RS cI h qA qV qT n k T qT at_ rv) H → va_D A (W_RS cI h qA qV qT n k T qT at_ rv) → va_S A s.heap H locs → lv_has ls 2 [(0, .ref h)] → W p l e rmX6_start s m args below meth c H locs 0 0 Q (F0 m 30 ls [.ref h])) (by
    intro hw H locs ls hP hD hS hl
    refine lv_iconst (v := -1) hx hb dX6_start_30 (by decide) ?_
    exact hw H locs ls hP hD hS (lv_sub hl [0] rfl))
  refine lv_if_le (tgt := 30) hx hb dX6_start_10 (by decide) (fun hc6 => ?_) (fun hc6 => ?_)
  · replace hw := hw.1 hc6
    exact hw H locs ls hP hD hS (lv_sub hl [0] rfl)
  · replace hw := hw.2 hc6
    refine lv_aload_n hx hb dX6_start_13 rfl (lv_at hl 0 rfl) ?_
    refine va_get (D := (dC, dI)) (ci := 8) (v := .ref qT) (C := RX6) (T := TX6) (N := 5) hx hb hts hiX6 hown hK hP 0 rfl rfl 3 (by decide) hf23 (fun _ h9 => h9) rfl dX6_start_14 ?_
    refine va_alen hx hb hK hP 2 0 rfl rfl (v := (nI k)) rfl dX6_start_17 ?_
    refine lv_aload_n hx hb dX6_start_18 rfl (lv_at hl 0 rfl) ?_
    refine va_get (D := (dC, dI)) (ci := 8) (v := .ref qV) (C := RX6) (T := TX6) (N := 5) hx hb hts hiX6 hown hK hP 0 rfl rfl 2 (by decide) hf19 (fun _ h9 => h9) rfl dX6_start_19 ?_
    refine va_alen hx hb hK hP 1 0 rfl rfl (v := (nI k)) rfl dX6_start_22 ?_
    refine lv_icmp_ne (tgt := 30) hx hb dX6_start_23 (by decide) (fun hc7 => ?_) (fun hc7 => ?_)
    · replace hw := hw.1 hc7
      exact hw H locs ls hP hD hS (lv_sub hl [0] rfl)
    · replace hw := hw.2 hc7
      refine lv_iconst (v := 0) hx hb dX6_start_26 (by decide) ?_
      refine lv_goto (tgt := 31) hx hb dX6_start_27 (by decide) ?_
      exact hw H locs ls hP hD hS (lv_sub hl [0] rfl)

def w_X6_isOtherThanTold (n : Nat) (k : Nat) (ka : Nat) (kd : Nat → Option Nat) (T : Nat → Int32) (at_ : Int32) (rv : Nat → Int32)  (p0 : Int32) (Q : Int32 → Unit → Prop) : Prop := (vp_in p0 k) ∧ ((((T p0.toNatClampNeg) = (-1 : Int32)) → Q (0 : Int32) ()) ∧ (¬ ((T p0.toNatClampNeg) = (-1 : Int32)) → (vp_in p0 k) ∧ (vp_in p0 k) ∧ ((((T p0.toNatClampNeg) = (rv p0.toNatClampNeg)) → Q (0 : Int32) ()) ∧ (¬ ((T p0.toNatClampNeg) = (rv p0.toNatClampNeg)) → Q (1 : Int32) ()))))
abbrev rmX6_isOtherThanTold : Room := { frames := 0, cells := 0, slots := 0, locals := 0 }
set_option maxHeartbeats 4000000 in
set_option maxRecDepth 100000 in
theorem t_X6_isOtherThanTold (l : Launch) (dC : Nat → ClassId) (dI : Nat → Nat → Nat) (adK : Nat → Nat) (adV : Nat → Nat) (cI : ClassId) (cB : ClassId) (h : Nat) (qA : Nat) (qV : Nat) (qT : Nat) (qb : Nat → Nat) (n : Nat) (k : Nat) (ka : Nat) (kd : Nat → Option Nat) (T : Nat → Int32) (sz : Nat) (at_ : Int32) (rv : Nat → Int32)   (p0 : Int32) (Q0 : Int32 → Unit → Prop) (hw : w_X6_isOtherThanTold n k ka kd T at_ rv  p0 Q0) : Met l yX6_isOtherThanTold wsX6_isOtherThanTold rmX6_isOtherThanTold (g_pre (cz adK adV) (dC, dI) vwCl [(cI, .int), (cB, .object RX0)] (W_R adK adV cI cB h qA qV qT qb n k ka kd T at_ rv) sz [.ref h, .int p0]) (g_qi (dC, dI) vwCl [(cI, .int), (cB, .object RX0)] (fun u : Unit => (W_R adK adV cI cB h qA qV qT qb n k ka kd T at_ rv)) Q0 (va_A (W_R adK adV cI cB h qA qV qT qb n k ka kd T at_ rv) sz)) 0 0 (va_A (W_R adK adV cI cB h qA qV qT qb n k ka kd T at_ rv) sz) := by
  refine g_startz (by decide) rfl (Nat.le_of_ble_eq_true rfl) ?_
  intro p e s m args below meth c A Q ls hx hb hml hown hts hin hK hP hD hA hS hZ hret hl
  obtain ⟨H, eH⟩ : ∃ H : Heap, H = s.heap := ⟨_, rfl⟩
  obtain ⟨locs, eL⟩ : ∃ L : List Loc, L = [] := ⟨_, rfl⟩
  have hS : va_S A s.heap H locs := by rw [eH, eL]; exact hS
  rw [← eH] at hP
  suffices hg : W p l e rmX6_isOtherThanTold s m args below meth c H locs 0 0 Q (F0 m 0 ls []) by rw [eH, eL] at hg; exact hg
  clear eH eL
  replace hl : lv_has ls 2 [(0, .ref h), (1, .int p0)] := hl
  have hf23 := hts (.fieldLink RX6 23 "NumberPile$Rows" "told" "[I") (by decide +kernel)
  have hiX6 : ∀ w ∈ u_ws RX6 TX6 5, w ∈ wsX6_isOtherThanTold := fun w h => List.mem_cons_of_mem _ (List.mem_append_right _ h)
  have hf19 := hts (.fieldLink RX6 19 "NumberPile$Rows" "values" "[I") (by decide +kernel)
  unfold w_X6_isOtherThanTold at hw
  refine lv_aload_n hx hb dX6_isOtherThanTold_0 rfl (lv_at hl 0 rfl) ?_
  refine va_get (D := (dC, dI)) (ci := 8) (v := .ref qT) (C := RX6) (T := TX6) (N := 5) hx hb hts hiX6 hown hK hP 0 rfl rfl 3 (by decide) hf23 (fun _ h9 => h9) rfl dX6_isOtherThanTold_1 ?_
  refine lv_iload_n hx hb dX6_isOtherThanTold_4 rfl (lv_at hl 1 rfl) ?_
  obtain ⟨hb1, hw⟩ := hw
  refine va_iald hx hb hK hP 2 0 rfl rfl hb1 dX6_isOtherThanTold_5 ?_
  refine lv_iconst (v := -1) hx hb dX6_isOtherThanTold_6 (by decide) ?_
  refine lv_icmp_eq (tgt := 29) hx hb dX6_isOtherThanTold_7 (by decide) (fun hc2 => ?_) (fun hc2 => ?_)
  · replace hw := hw.1 hc2
    refine lv_iconst (v := 0) hx hb dX6_isOtherThanTold_29 (by decide) ?_
    exact hret dX6_isOtherThanTold_30 hK hP hD hS isB_0 hw
  · replace hw := hw.2 hc2
    refine lv_aload_n hx hb dX6_isOtherThanTold_10 rfl (lv_at hl 0 rfl) ?_
    refine va_get (D := (dC, dI)) (ci := 8) (v := .ref qT) (C := RX6) (T := TX6) (N := 5) hx hb hts hiX6 hown hK hP 0 rfl rfl 3 (by decide) hf23 (fun _ h9 => h9) rfl dX6_isOtherThanTold_11 ?_
    refine lv_iload_n hx hb dX6_isOtherThanTold_14 rfl (lv_at hl 1 rfl) ?_
    obtain ⟨hb3, hw⟩ := hw
    refine va_iald hx hb hK hP 2 0 rfl rfl hb3 dX6_isOtherThanTold_15 ?_
    refine lv_aload_n hx hb dX6_isOtherThanTold_16 rfl (lv_at hl 0 rfl) ?_
    refine va_get (D := (dC, dI)) (ci := 8) (v := .ref qV) (C := RX6) (T := TX6) (N := 5) hx hb hts hiX6 hown hK hP 0 rfl rfl 2 (by decide) hf19 (fun _ h9 => h9) rfl dX6_isOtherThanTold_17 ?_
    refine lv_iload_n hx hb dX6_isOtherThanTold_20 rfl (lv_at hl 1 rfl) ?_
    obtain ⟨hb4, hw⟩ := hw
    refine va_iald hx hb hK hP 1 0 rfl rfl hb4 dX6_isOtherThanTold_21 ?_
    refine lv_icmp_eq (tgt := 29) hx hb dX6_isOtherThanTold_22 (by decide) (fun hc5 => ?_) (fun hc5 => ?_)
    · replace hw := hw.1 hc5
      refine lv_iconst (v := 0) hx hb dX6_isOtherThanTold_29 (by decide) ?_
      exact hret dX6_isOtherThanTold_30 hK hP hD hS isB_0 hw
    · replace hw := hw.2 hc5
      refine lv_iconst (v := 1) hx hb dX6_isOtherThanTold_25 (by decide) ?_
      refine lv_goto (tgt := 30) hx hb dX6_isOtherThanTold_26 (by decide) ?_
      exact hret dX6_isOtherThanTold_30 hK hP hD hS isB_1 hw
