def w_X10_isWithin  (p0 : Int32) (p1 : Int32) (p2 : Int32) (Q : Int32 → Prop) : Prop := (((p0 < p1) → Q (0 : Int32)) ∧ (¬ (p0 < p1) → (((p2 < p0) → Q (0 : Int32)) ∧ (¬ (p2 < p0) → Q (1 : Int32)))))
abbrev rmX10_isWithin : Room := { frames := 0, cells := 0, slots := 0, locals := 0 }
set_option maxHeartbeats 4000000 in
set_option maxRecDepth 100000 in
theorem t_X10_isWithin (l : Launch)   (p0 : Int32) (p1 : Int32) (p2 : Int32) (Q0 : Int32 → Prop) (hw : w_X10_isWithin  p0 p1 p2 Q0) : Met l yX10_isWithin wsX10_isWithin rmX10_isWithin (g_pr0 [.int p0, .int p1, .int p2]) (vp_Si Q0) 0 0 (fun _ => False) := by
  refine g_start0z (by decide) rfl (Nat.le_of_ble_eq_true rfl) ?_
  intro p e s m args below meth c Q H ls hx hb hml hown hts hret hl
  replace hl : lv_has ls 3 [(0, .int p0), (1, .int p1), (2, .int p2)] := hl
  unfold w_X10_isWithin at hw
  refine lv_iload_n hx hb dX10_isWithin_0 rfl (lv_at hl 0 rfl) ?_
  refine lv_iload_n hx hb dX10_isWithin_1 rfl (lv_at hl 1 rfl) ?_
  refine lv_icmp_lt (tgt := 14) hx hb dX10_isWithin_2 (by decide) (fun hc1 => ?_) (fun hc1 => ?_)
  · replace hw := hw.1 hc1
    refine lv_iconst (v := 0) hx hb dX10_isWithin_14 (by decide) ?_
    exact hret dX10_isWithin_15 isB_0 hw
  · replace hw := hw.2 hc1
    refine lv_iload_n hx hb dX10_isWithin_5 rfl (lv_at hl 0 rfl) ?_
    refine lv_iload_n hx hb dX10_isWithin_6 rfl (lv_at hl 2 rfl) ?_
    refine lv_icmp_gt (tgt := 14) hx hb dX10_isWithin_7 (by decide) (fun hc2 => ?_) (fun hc2 => ?_)
    · replace hw := hw.1 hc2
      refine lv_iconst (v := 0) hx hb dX10_isWithin_14 (by decide) ?_
      exact hret dX10_isWithin_15 isB_0 hw
    · replace hw := hw.2 hc2
      refine lv_iconst (v := 1) hx hb dX10_isWithin_10 (by decide) ?_
      refine lv_goto (tgt := 15) hx hb dX10_isWithin_11 (by decide) ?_
      exact hret dX10_isWithin_15 isB_1 hw

def w_X10_isDigit  (p0 : Int32) (Q : Int32 → Prop) : Prop := w_X10_isWithin p0 (0 : Int32) (9 : Int32) (fun (r1 : Int32) => isB r1 ∧ Q r1)
abbrev rmX10_isDigit : Room := { frames := 1, cells := 0, slots := 0, locals := 22 }
set_option maxHeartbeats 4000000 in
set_option maxRecDepth 100000 in
theorem t_X10_isDigit (l : Launch)   (p0 : Int32) (Q0 : Int32 → Prop) (hw : w_X10_isDigit  p0 Q0) : Met l yX10_isDigit wsX10_isDigit rmX10_isDigit (g_pr0 [.int p0]) (vp_Si Q0) 0 0 (fun _ => False) := by
  refine g_start0z (by decide) rfl (Nat.le_of_ble_eq_true rfl) ?_
  intro p e s m args below meth c Q H ls hx hb hml hown hts hret hl
  replace hl : lv_has ls 1 [(0, .int p0)] := hl
  unfold w_X10_isDigit at hw
  refine lv_iload_n hx hb dX10_isDigit_0 rfl (lv_at hl 0 rfl) ?_
  refine lv_iconst (v := 0) hx hb dX10_isDigit_1 (by decide) ?_
  refine lv_bipush (v := 9) hx hb dX10_isDigit_2 (by decide) ?_
  refine g_c0 (rest := []) (va_runS (As := [.int p0, .int (0 : Int32), .int (9 : Int32)]) (rest := []) ⟨hx, hb, hml, hown, hts⟩ (t_X10_isWithin l  p0 (0 : Int32) (9 : Int32) _ hw) (va_cwS 3 hts gX10_isDigit_X10_isWithin rfl rfl rfl (by decide +kernel) ⟨Nat.le_of_ble_eq_true rfl, Nat.le_of_ble_eq_true rfl⟩) g_p0S rfl rfl hl.1 rfl (lv_room (Nat.le_of_ble_eq_true rfl)) dX10_isDigit_4 ⟨Nat.le_of_ble_eq_true rfl, Nat.le_of_ble_eq_true rfl⟩) (fun r1 hw => ?_)
  obtain ⟨hz, hw⟩ := hw
  exact hret dX10_isDigit_7 hz hw

def w_X10_greatestDivisor  (p0 : Int32) (p1 : Int32) (Q : Int32 → Prop) : Prop := (∀ X4 : Int32 → Int32 → Int32 → Prop, (∀ (x1 : Int32) (x2 : Int32) (x3 : Int32), (∀ J5 : Prop, ((Q (if x1 < (1 : Int32) then (1 : Int32) else x1)) → J5) → ((((100000 : Int32) ≤ x3) → J5) ∧ (¬ ((100000 : Int32) ≤ x3) → (((x2 = 0) → J5) ∧ (¬ (x2 = 0) → (¬ x2 = 0) ∧ ∀ x9 : Int32, x9 = (x1 - x1 / x2 * x2) → ∀ x10 : Int32, x10 = x3 + (1 : Int32) → X4 x2 x9 x10))))) → X4 x1 x2 x3) → X4 p0 p1 (0 : Int32))
abbrev rmX10_greatestDivisor : Room := { frames := 1, cells := 0, slots := 0, locals := 40 }
set_option maxHeartbeats 4000000 in
set_option maxRecDepth 100000 in
theorem t_X10_greatestDivisor (l : Launch)   (p0 : Int32) (p1 : Int32) (Q0 : Int32 → Prop) (hw : w_X10_greatestDivisor  p0 p1 Q0) : Met l yX10_greatestDivisor wsX10_greatestDivisor rmX10_greatestDivisor (g_pr0 [.int p0, .int p1]) (vp_Si Q0) 0 0 (fun _ => False) := by
  refine g_start0i (by decide) rfl (Nat.le_of_ble_eq_true rfl) ?_
  intro p e s m args below meth c Q H ls hx hb hml hown hts hret hl
  replace hl : lv_has ls 6 [(0, .int p0), (1, .int p1)] := hl
  have kc259 := hts (.constant RX10 259 (100000)) (by decide +kernel)
  have ml201 := hts (.methodLink RX10 201 Lib.Math.max.name) (by decide +kernel)
  have msmax := hts (.static Lib.Math.max.name) (by decide +kernel)
  have miMath := hts (.initialized "java/lang/Math") (by decide +kernel)
  have mcmax := hts (.code Lib.Math.max.name Lib.Math.max.code 2 (some .int)) (by decide +kernel)
  unfold w_X10_greatestDivisor at hw
  refine lv_iload_n hx hb dX10_greatestDivisor_0 rfl (lv_at hl 0 rfl) ?_
  refine lv_istore_n (lv' := [(2, .int p0), (0, .int p0), (1, .int p1)]) hx hb dX10_greatestDivisor_1 rfl hl (by decide) rfl (fun ls hl => ?_)
  refine lv_iload_n hx hb dX10_greatestDivisor_2 rfl (lv_at hl 2 rfl) ?_
  refine lv_istore_n (lv' := [(3, .int p1), (2, .int p0), (0, .int p0), (1, .int p1)]) hx hb dX10_greatestDivisor_3 rfl hl (by decide) rfl (fun ls hl => ?_)
  refine lv_iconst (v := 0) hx hb dX10_greatestDivisor_4 (by decide) ?_
  refine lv_istore (lv' := [(4, .int (0 : Int32)), (3, .int p1), (2, .int p0), (0, .int p0), (1, .int p1)]) hx hb dX10_greatestDivisor_5 hl (by decide) rfl (fun ls hl => ?_)
  refine hw (fun (x1 : Int32) (x2 : Int32) (x3 : Int32) => ∀ (ls : Array Slot), lv_has ls 6 [(2, .int x1), (3, .int x2), (4, .int x3)] → W p l e rmX10_greatestDivisor s m args below meth c H [] 0 0 Q (F0 m 7 ls [])) ?_ ls (lv_sub hl [2, 1, 0] rfl)
  · intro x1 x2 x3 hw ls hl
    refine lv_iload hx hb dX10_greatestDivisor_7 (lv_at hl 2 rfl) ?_
    refine lv_ldcw hx hb hown kc259 dX10_greatestDivisor_9 ?_
    replace hw := hw (∀ (ls : Array Slot), lv_has ls 6 [(2, .int x1)] → W p l e rmX10_greatestDivisor s m args below meth c H [] 0 0 Q (F0 m 35 ls [])) (by
      intro hw ls hl
      refine lv_iload_n hx hb dX10_greatestDivisor_35 rfl (lv_at hl 0 rfl) ?_
      refine lv_iconst (v := 1) hx hb dX10_greatestDivisor_36 (by decide) ?_
      refine va_mmax hx hb (hml.trans hl.1.symm) hown ml201 msmax miMath mcmax (Nat.le_of_ble_eq_true rfl) (Nat.le_of_ble_eq_true rfl) (Nat.le_of_ble_eq_true rfl) (Nat.le_of_ble_eq_true rfl) dX10_greatestDivisor_37 ?_
      exact hret dX10_greatestDivisor_40 hw)
    refine lv_icmp_ge (tgt := 35) hx hb dX10_greatestDivisor_12 (by decide) (fun hc6 => ?_) (fun hc6 => ?_)
    · replace hw := hw.1 hc6
      exact hw ls (lv_sub hl [0] rfl)
    · replace hw := hw.2 hc6
      refine lv_iload_n hx hb dX10_greatestDivisor_15 rfl (lv_at hl 1 rfl) ?_
      refine lv_if_eq (tgt := 35) hx hb dX10_greatestDivisor_16 (by decide) (fun hc7 => ?_) (fun hc7 => ?_)
      · replace hw := hw.1 hc7
        exact hw ls (lv_sub hl [0] rfl)
      · replace hw := hw.2 hc7
        refine lv_iload_n hx hb dX10_greatestDivisor_19 rfl (lv_at hl 0 rfl) ?_
        refine lv_iload_n hx hb dX10_greatestDivisor_20 rfl (lv_at hl 1 rfl) ?_
        obtain ⟨hn8, hw⟩ := hw
        refine lv_irem hx hb dX10_greatestDivisor_21 hn8 ?_
        refine lv_topi (fun x9 ex9 => ?_)
        replace hw := hw x9 ex9
        refine lv_istore (lv' := [(5, .int x9), (2, .int x1), (3, .int x2), (4, .int x3)]) hx hb dX10_greatestDivisor_22 hl (by decide) rfl (fun ls hl => ?_)
        refine lv_iload_n hx hb dX10_greatestDivisor_24 rfl (lv_at hl 2 rfl) ?_
        refine lv_istore_n (lv' := [(2, .int x2), (5, .int x9), (3, .int x2), (4, .int x3)]) hx hb dX10_greatestDivisor_25 rfl hl (by decide) rfl (fun ls hl => ?_)
        refine lv_iload hx hb dX10_greatestDivisor_26 (lv_at hl 1 rfl) ?_
        refine lv_istore_n (lv' := [(3, .int x9), (2, .int x2), (5, .int x9), (4, .int x3)]) hx hb dX10_greatestDivisor_28 rfl hl (by decide) rfl (fun ls hl => ?_)
        obtain ⟨x10, ex10⟩ : ∃ y : Int32, y = x3 + (1 : Int32) := ⟨_, rfl⟩
        replace hw := hw x10 ex10
        refine lv_iinc (v := x10) (lv' := [(4, .int x10), (3, .int x9), (2, .int x2), (5, .int x9)]) hx hb dX10_greatestDivisor_29 hl (k := 3) rfl (by rw [ex10]; rfl) (by decide) rfl (fun ls hl => ?_)
        refine lv_goto (tgt := 7) hx hb dX10_greatestDivisor_32 (by decide) ?_
        exact hw ls (lv_sub hl [2, 1, 0] rfl)

def w_X0_made  (p0 : Int32) (p1 : Int32) (Q : Int32 → Prop) : Prop := Q (p0 + p1)
abbrev rmX0_made : Room := { frames := 0, cells := 0, slots := 0, locals := 0 }
set_option maxHeartbeats 4000000 in
set_option maxRecDepth 100000 in
theorem t_X0_made (l : Launch) (h : Nat)   (p0 : Int32) (p1 : Int32) (Q0 : Int32 → Prop) (hw : w_X0_made  p0 p1 Q0) : Met l yX0_made wsX0_made rmX0_made (g_pr0 [.ref h, .int p0, .int p1]) (vp_Si Q0) 0 0 (fun _ => False) := by
  refine g_start0i (by decide) rfl (Nat.le_of_ble_eq_true rfl) ?_
  intro p e s m args below meth c Q H ls hx hb hml hown hts hret hl
  replace hl : lv_has ls 3 [(0, .ref h), (1, .int p0), (2, .int p1)] := hl
  unfold w_X0_made at hw
  refine lv_iload_n hx hb dX0_made_0 rfl (lv_at hl 1 rfl) ?_
  refine lv_iload_n hx hb dX0_made_1 rfl (lv_at hl 2 rfl) ?_
  refine lv_iadd hx hb dX0_made_2 ?_
  exact hret dX0_made_3 hw

def w_X1_made  (p0 : Int32) (p1 : Int32) (Q : Int32 → Prop) : Prop := Q (if 0 ≤ (p0 - p1) then (p0 - p1) else 0 - (p0 - p1))
abbrev rmX1_made : Room := { frames := 1, cells := 0, slots := 0, locals := 40 }
set_option maxHeartbeats 4000000 in
set_option maxRecDepth 100000 in
theorem t_X1_made (l : Launch) (h : Nat)   (p0 : Int32) (p1 : Int32) (Q0 : Int32 → Prop) (hw : w_X1_made  p0 p1 Q0) : Met l yX1_made wsX1_made rmX1_made (g_pr0 [.ref h, .int p0, .int p1]) (vp_Si Q0) 0 0 (fun _ => False) := by
  refine g_start0i (by decide) rfl (Nat.le_of_ble_eq_true rfl) ?_
  intro p e s m args below meth c Q H ls hx hb hml hown hts hret hl
  replace hl : lv_has ls 3 [(0, .ref h), (1, .int p0), (2, .int p1)] := hl
  have ml7 := hts (.methodLink RX1 7 Lib.Math.abs.name) (by decide +kernel)
  have msabs := hts (.static Lib.Math.abs.name) (by decide +kernel)
  have miMath := hts (.initialized "java/lang/Math") (by decide +kernel)
  have mcabs := hts (.code Lib.Math.abs.name Lib.Math.abs.code 1 (some .int)) (by decide +kernel)
  unfold w_X1_made at hw
  refine lv_iload_n hx hb dX1_made_0 rfl (lv_at hl 1 rfl) ?_
  refine lv_iload_n hx hb dX1_made_1 rfl (lv_at hl 2 rfl) ?_
  refine lv_isub hx hb dX1_made_2 ?_
  refine va_mabs hx hb (hml.trans hl.1.symm) hown ml7 msabs miMath mcabs (Nat.le_of_ble_eq_true rfl) (Nat.le_of_ble_eq_true rfl) (Nat.le_of_ble_eq_true rfl) (Nat.le_of_ble_eq_true rfl) dX1_made_3 ?_
  exact hret dX1_made_6 hw

def w_X3_made  (p0 : Int32) (p1 : Int32) (Q : Int32 → Prop) : Prop := Q (if p0 < p1 then p1 else p0)
abbrev rmX3_made : Room := { frames := 1, cells := 0, slots := 0, locals := 40 }
set_option maxHeartbeats 4000000 in
set_option maxRecDepth 100000 in
theorem t_X3_made (l : Launch) (h : Nat)   (p0 : Int32) (p1 : Int32) (Q0 : Int32 → Prop) (hw : w_X3_made  p0 p1 Q0) : Met l yX3_made wsX3_made rmX3_made (g_pr0 [.ref h, .int p0, .int p1]) (vp_Si Q0) 0 0 (fun _ => False) := by
  refine g_start0i (by decide) rfl (Nat.le_of_ble_eq_true rfl) ?_
  intro p e s m args below meth c Q H ls hx hb hml hown hts hret hl
  replace hl : lv_has ls 3 [(0, .ref h), (1, .int p0), (2, .int p1)] := hl
  have ml7 := hts (.methodLink RX3 7 Lib.Math.max.name) (by decide +kernel)
  have msmax := hts (.static Lib.Math.max.name) (by decide +kernel)
  have miMath := hts (.initialized "java/lang/Math") (by decide +kernel)
  have mcmax := hts (.code Lib.Math.max.name Lib.Math.max.code 2 (some .int)) (by decide +kernel)
  unfold w_X3_made at hw
  refine lv_iload_n hx hb dX3_made_0 rfl (lv_at hl 1 rfl) ?_
  refine lv_iload_n hx hb dX3_made_1 rfl (lv_at hl 2 rfl) ?_
  refine va_mmax hx hb (hml.trans hl.1.symm) hown ml7 msmax miMath mcmax (Nat.le_of_ble_eq_true rfl) (Nat.le_of_ble_eq_true rfl) (Nat.le_of_ble_eq_true rfl) (Nat.le_of_ble_eq_true rfl) dX3_made_2 ?_
  exact hret dX3_made_5 hw

def w_X9_made  (p0 : Int32) (p1 : Int32) (Q : Int32 → Prop) : Prop := Q (((2 : Int32) * p0) + p1)
abbrev rmX9_made : Room := { frames := 0, cells := 0, slots := 0, locals := 0 }
set_option maxHeartbeats 4000000 in
set_option maxRecDepth 100000 in
theorem t_X9_made (l : Launch) (h : Nat)   (p0 : Int32) (p1 : Int32) (Q0 : Int32 → Prop) (hw : w_X9_made  p0 p1 Q0) : Met l yX9_made wsX9_made rmX9_made (g_pr0 [.ref h, .int p0, .int p1]) (vp_Si Q0) 0 0 (fun _ => False) := by
  refine g_start0i (by decide) rfl (Nat.le_of_ble_eq_true rfl) ?_
  intro p e s m args below meth c Q H ls hx hb hml hown hts hret hl
  replace hl : lv_has ls 3 [(0, .ref h), (1, .int p0), (2, .int p1)] := hl
  unfold w_X9_made at hw
  refine lv_iconst (v := 2) hx hb dX9_made_0 (by decide) ?_
  refine lv_iload_n hx hb dX9_made_1 rfl (lv_at hl 1 rfl) ?_
  refine lv_imul hx hb dX9_made_2 ?_
  refine lv_iload_n hx hb dX9_made_3 rfl (lv_at hl 2 rfl) ?_
  refine lv_iadd hx hb dX9_made_4 ?_
  exact hret dX9_made_5 hw

/-! a LAST is made by super.made: its receiver must be there -/
def rcv (C : String) (h : Nat) (U : State) : Prop := ∃ cell : Cell, U.heap[h]? = some cell ∧ cell.vm.isStatics = false ∧ ClassAt U C cell.cls
def w_X2_made (p0 : Int32) (p1 : Int32) (Q : Int32 → Prop) : Prop := w_X9_made p0 p1 (fun (r1 : Int32) => Q (r1 - r1 / (10 : Int32) * (10 : Int32)))
abbrev rmX2_made : Room := { frames := 1, cells := 0, slots := 0, locals := 22 }
set_option maxHeartbeats 4000000 in
set_option maxRecDepth 100000 in
theorem t_X2_made (l : Launch) (h : Nat) (p0 : Int32) (p1 : Int32) (Q0 : Int32 → Prop) (hw : w_X2_made p0 p1 Q0) : Met l yX2_made wsX2_made rmX2_made (va_Pc [.ref h, .int p0, .int p1] (rcv RX2 h)) (vp_Si Q0) 0 0 (fun _ => False) := by
  refine Met.ofW (cc := cX2_made) (maxL := 3) (ret := some .int) (by decide) rfl ?_
  intro p e s m args below meth c s₁ B hml hv
  obtain ⟨rfl, cell, hc1, hc2, hat⟩ := hv
  have hx := B.exec
  have hb := B.bytes
  have hts := atoms_spec (ws := wsX2_made) B.pre
  have hown : s.vm.findClass RX2 = some m.cls := findClass_of_methodNamed B.named
  have hl := lv_entry ([.ref h, .int p0, .int p1]) (n := 3) (Nat.le_of_ble_eq_true rfl)
  rw [lg_entry_eq]
  generalize (lg_sl ([.ref h, .int p0, .int p1]) ++ List.replicate (3 - (lg_sl ([.ref h, .int p0, .int p1])).length) Slot.unset).toArray = ls at hl ⊢
  replace hl : lv_has ls 3 [(0, .ref h), (1, .int p0), (2, .int p1)] := hl
  unfold w_X2_made at hw
  refine lv_aload_n hx hb dX2_made_0 rfl (lv_at hl 0 rfl) ?_
  refine lv_iload_n hx hb dX2_made_1 rfl (lv_at hl 1 rfl) ?_
  refine lv_iload_n hx hb dX2_made_2 rfl (lv_at hl 2 rfl) ?_
  refine g_c0 (rest := []) (va_runSU (As := [.int p0, .int p1]) (rest := []) hat ⟨hx, hb, hml, hown, hts⟩ (t_X9_made l h p0 p1 _ hw) (va_cwSU 2 hts gX2_made_X9_made_s9 rfl rfl rfl (by decide +kernel) ⟨Nat.le_of_ble_eq_true rfl, Nat.le_of_ble_eq_true rfl⟩) ⟨g_blind0, ⟨cell, hc1, hc2, hat.1⟩, fun _ _ _ => ⟨rfl, trivial⟩⟩ rfl rfl hl.1 rfl (lv_room (Nat.le_of_ble_eq_true rfl)) dX2_made_3 ⟨Nat.le_of_ble_eq_true rfl, Nat.le_of_ble_eq_true rfl⟩) (fun r1 hw => ?_)
  refine lv_bipush (v := 10) hx hb dX2_made_6 (by decide) ?_
  refine lv_irem hx hb dX2_made_8 (by decide) ?_
  exact W.iret hx hb B.returns (fun t ht hW => ⟨_, rfl, hw, ht⟩) (fun _ h => by cases h) dX2_made_9 B.notSynchronized
section BK
variable {p : Program} {l : Launch} {e : Env} {R : Room} {s : State} {m : MethodId} {args : Array Value} {below : List Frame} {meth : Method} {c : Code} {H : Heap} {locs : List Loc} {cells slots : Nat} {Q : State → Prop}
variable {pc : Nat} {ls : Array Slot} {rest : List Value} {qb : Nat → Nat} {kd : Nat}
theorem bk_pR {D : va_G} {cl : List vw_C} {tys : List (ClassId × FieldType)} {ws : va_W} {C : String} {T : u_T} {N q0 ci b : Nat} {fs As : List Value} (hK : va_K D cl tys s) (hP : va_P D cl ws H) (hb0 : ws[q0]? = some (b, .inr (ci, fs))) (hcl : cl[ci]? = some (C, T, N)) : PreV s H C b (va_Pc (.ref b :: As) (rcv C b)) As := by
  obtain ⟨cell, h1, h2, h3⟩ := va_recv hK hP hcl hb0
  have hat := (hK.1 ci _ hcl).2
  have e1 : D.1 ci = cell.cls := Option.some.inj (hat.1.symm.trans h3)
  refine ⟨fun a U g mk q => ⟨q.1, q.2⟩, ⟨cell, h1, h2, h3⟩, fun U hU hW => ⟨rfl, cell, by rw [hU]; exact h1, h2, ?_⟩⟩
  rw [e1] at hat
  exact classAt_moved hW.alike hat
def wk_made (k : Nat) (x y : Int32) (Q : Int32 → Prop) : Prop := (k = 0 → w_X0_made x y Q) ∧ (k = 1 → w_X1_made x y Q) ∧ (k = 2 → w_X3_made x y Q) ∧ (k = 3 → w_X9_made x y Q) ∧ (k = 4 → w_X2_made x y Q)
theorem bk_made {x y : Int32} {Q' : Int32 → Prop} {a0 a1 a2 a3 a4 : Array Value} (hk : kd < 5) (hw : wk_made kd x y Q')
    (h0 : w_X0_made x y Q' → va_Run p l e R s m args below meth c H locs cells slots 0 0 (F0 m pc ls (.int y :: .int x :: .ref (qb 0) :: rest)) rest (vp_Si Q' a0) (fun _ => False))
    (h1 : w_X1_made x y Q' → va_Run p l e R s m args below meth c H locs cells slots 0 0 (F0 m pc ls (.int y :: .int x :: .ref (qb 1) :: rest)) rest (vp_Si Q' a1) (fun _ => False))
    (h2 : w_X3_made x y Q' → va_Run p l e R s m args below meth c H locs cells slots 0 0 (F0 m pc ls (.int y :: .int x :: .ref (qb 2) :: rest)) rest (vp_Si Q' a2) (fun _ => False))
    (h3 : w_X9_made x y Q' → va_Run p l e R s m args below meth c H locs cells slots 0 0 (F0 m pc ls (.int y :: .int x :: .ref (qb 3) :: rest)) rest (vp_Si Q' a3) (fun _ => False))
    (h4 : w_X2_made x y Q' → va_Run p l e R s m args below meth c H locs cells slots 0 0 (F0 m pc ls (.int y :: .int x :: .ref (qb 4) :: rest)) rest (vp_Si Q' a4) (fun _ => False))
    (kk : ∀ r : Int32, Q' r → W p l e R s m args below meth c H locs cells slots Q (F0 m (pc + 3) ls (.int r :: rest))) : W p l e R s m args below meth c H locs cells slots Q (F0 m pc ls (.int y :: .int x :: .ref (qb kd) :: rest)) := by
  rcases (show kd = 0 ∨ kd = 1 ∨ kd = 2 ∨ kd = 3 ∨ kd = 4 by omega) with rfl | rfl | rfl | rfl | rfl
  · exact g_c0 (h0 (hw.1 rfl)) kk
  · exact g_c0 (h1 (hw.2.1 rfl)) kk
  · exact g_c0 (h2 (hw.2.2.1 rfl)) kk
  · exact g_c0 (h3 (hw.2.2.2.1 rfl)) kk
  · exact g_c0 (h4 (hw.2.2.2.2 rfl)) kk
end BK
theorem g_pVy {Z : g_Z} (hzb : g_zb Z) {s : State} {H : Heap} {D : va_G} {A : Nat → Prop} {tysC : List (ClassId × FieldType)} {X : va_W} {sL : List Nat} {sf : Nat → Nat → Int32} {y : Nat} {As : List Value} (hy : y ∈ sL) (hPc : va_P D vwCl (X ++ va_pl sL (sgF sf)) H) (hDc : va_D A (X ++ va_pl sL (sgF sf))) (hKc : va_K D vwCl tysC s) (hZ : ∀ U : State, U.heap = H → s.WarmedH U.vm → Z (va_A (X ++ va_pl sL (sgF sf)) H.size) U H) : PreV s H RX7 y (g_pre Z D vwCl tysC (X ++ va_pl sL (sgF sf)) H.size (.ref y :: As)) As := by
  obtain ⟨k, hk⟩ := va_pl_get (X := X) (f := sgF sf) hy
  exact g_pV hzb hk rfl hPc hDc hKc hZ
theorem bk_some {X : Nat → Option Nat} {qb : Nat → Nat} {i y : Nat} (h : (fun j => (X j).map qb) i = some y) : ∃ kd, X i = some kd ∧ qb kd = y := by
  have h : (X i).map qb = some y := h
  cases hx : X i with
  | none => rw [hx] at h; cases h
  | some kd => rw [hx] at h; exact ⟨kd, rfl, Option.some.inj h⟩

/-- the row of all kinds -/
def kAll : Nat → Option Nat := fun i => if i < 5 then some i else none
/-- how many counts the tally of a pile has, by how wide that is -/
def toL (n : Nat) : Nat := if n = 0 then 0 else if n = 2 then 48 else if n = 3 then 168 else 532

abbrev StA : Type := (Nat → Int32)
abbrev W_A (cI : ClassId) (b : Nat) (n : Nat) (x : Nat → Int32) : va_W := [(b, .inl (cI, n, .inl x))]
abbrev W_Au (cI : ClassId) (b : Nat) (n : Nat) (u : StA) : va_W := W_A cI b n u

abbrev StC2 : Type := (Nat → Int32)
abbrev W_C2 (cI : ClassId) (b1 : Nat) (b2 : Nat) (n1 : Nat) (n2 : Nat) (x : Nat → Int32) (y : Nat → Int32) : va_W := [(b1, .inl (cI, n1, .inl x)), (b2, .inl (cI, n2, .inl y))]
abbrev W_C2u (cI : ClassId) (b1 : Nat) (b2 : Nat) (n1 : Nat) (n2 : Nat) (x : Nat → Int32) (u : StC2) : va_W := W_C2 cI b1 b2 n1 n2 x u

abbrev StT : Type := (Nat → Int32)
abbrev W_T (adK : Nat → Nat) (adV : Nat → Nat) (cI : ClassId) (h : Nat) (qB : Nat) (qO : Nat) (k : Nat) (mo : Nat) (bg : Nat → Int32) (of_ : Nat → Int32) : va_W := [(h, .inr (14, [.ref qB, .ref qO])), (qB, .inl (cI, (k + 1), .inl bg)), (qO, .inl (cI, mo, .inl of_))]
abbrev W_Tu (adK : Nat → Nat) (adV : Nat → Nat) (cI : ClassId) (h : Nat) (qB : Nat) (qO : Nat) (k : Nat) (mo : Nat) (bg : Nat → Int32) (u : StT) : va_W := W_T adK adV cI h qB qO k mo bg u

abbrev StTV : Type := (Nat → Int32)
abbrev W_TV (adK : Nat → Nat) (adV : Nat → Nat) (cI : ClassId) (h : Nat) (qB : Nat) (qO : Nat) (k : Nat) (mo : Nat) (bg : Nat → Int32) (qV : Nat) (kv : Nat) (vv : Nat → Int32) (of_ : Nat → Int32) : va_W := [(h, .inr (14, [.ref qB, .ref qO])), (qB, .inl (cI, (k + 1), .inl bg)), (qO, .inl (cI, mo, .inl of_)), (qV, .inl (cI, kv, .inl vv))]
abbrev W_TVu (adK : Nat → Nat) (adV : Nat → Nat) (cI : ClassId) (h : Nat) (qB : Nat) (qO : Nat) (k : Nat) (mo : Nat) (bg : Nat → Int32) (qV : Nat) (kv : Nat) (vv : Nat → Int32) (u : StTV) : va_W := W_TV adK adV cI h qB qO k mo bg qV kv vv u

abbrev StR : Type := (Int32) × (Nat → Int32)
abbrev W_R (adK : Nat → Nat) (adV : Nat → Nat) (cI : ClassId) (cB : ClassId) (h : Nat) (qK : Nat) (qA : Nat) (qV : Nat) (qT : Nat) (qb : Nat → Nat) (n : Nat) (k : Nat) (ka : Nat) (kd : Nat → Int32) (T : Nat → Int32) (at_ : Int32) (rv : Nat → Int32) : va_W := [(h, .inr (8, [.int (nI n), .ref qK, .ref qA, .ref qV, .ref qT, .int at_])), (qV, .inl (cI, k, .inl rv)), (qT, .inl (cI, k, .inl T)), (qA, .inl (cI, ka, .inl kd)), (qK, .inl (cB, (5), .inr (.inr (.inr (.inr (fun i => (kAll i).map qb)))))), ((qb 0), .inr (2, [])), ((qb 1), .inr (3, [])), ((qb 2), .inr (5, [])), ((qb 3), .inr (11, [])), ((qb 4), .inr (4, []))]
abbrev W_Ru (adK : Nat → Nat) (adV : Nat → Nat) (cI : ClassId) (cB : ClassId) (h : Nat) (qK : Nat) (qA : Nat) (qV : Nat) (qT : Nat) (qb : Nat → Nat) (n : Nat) (k : Nat) (ka : Nat) (kd : Nat → Int32) (T : Nat → Int32) (u : StR) : va_W := W_R adK adV cI cB h qK qA qV qT qb n k ka kd T u.1 u.2

abbrev StRS : Type := (Nat) × (Int32) × (Nat → Int32)
abbrev W_RS (cI : ClassId) (h : Nat) (qK : Nat) (qA : Nat) (qV : Nat) (qT : Nat) (n : Nat) (k : Nat) (T : Nat → Int32) (t : Nat) (at_ : Int32) (rv : Nat → Int32) : va_W := [(h, .inr (8, [.int (nI n), .ref qK, .ref qA, .ref qV, .ref t, .int at_])), (qV, .inl (cI, k, .inl rv)), (qT, .inl (cI, k, .inl T))]
abbrev W_RSu (cI : ClassId) (h : Nat) (qK : Nat) (qA : Nat) (qV : Nat) (qT : Nat) (n : Nat) (k : Nat) (T : Nat → Int32) (u : StRS) : va_W := W_RS cI h qK qA qV qT n k T u.1 u.2.1 u.2.2

abbrev StRSP : Type := (Int32) × (Nat → Int32)
abbrev W_RSP (cI : ClassId) (h : Nat) (qK : Nat) (qA : Nat) (qV : Nat) (qT : Nat) (n : Nat) (k : Nat) (T : Nat → Int32) (at_ : Int32) (rv : Nat → Int32) : va_W := [(h, .inr (8, [.int (nI n), .ref qK, .ref qA, .ref qV, .ref qT, .int at_])), (qV, .inl (cI, k, .inl rv)), (qT, .inl (cI, k, .inl T))]
abbrev W_RSPu (cI : ClassId) (h : Nat) (qK : Nat) (qA : Nat) (qV : Nat) (qT : Nat) (n : Nat) (k : Nat) (T : Nat → Int32) (u : StRSP) : va_W := W_RSP cI h qK qA qV qT n k T u.1 u.2

abbrev StG : Type := Unit
abbrev W_G (adK : Nat → Nat) (adV : Nat → Nat) (qb : Nat → Nat)  : va_W := [((qb 0), .inr (2, [])), ((qb 1), .inr (3, [])), ((qb 2), .inr (5, [])), ((qb 3), .inr (11, [])), ((qb 4), .inr (4, []))]
abbrev W_Gu (adK : Nat → Nat) (adV : Nat → Nat) (qb : Nat → Nat) (u : StG) : va_W := W_G adK adV qb 

abbrev StP : Type := (Nat → Int32) × (Nat) × (Nat → Nat → Int32) × (Nat → Nat → Int32) × (Nat → Nat → Option Nat)
abbrev W_P (adK : Nat → Nat) (adV : Nat → Nat) (cI : ClassId) (cB : ClassId) (cS : ClassId) (q : Nat → Nat) (qb : Nat → Nat) (n : Nat) (k : Nat) (f : Nat → Int32) (t : Nat) (a : Nat → Nat → Int32) (b : Nat → Nat → Int32) (sg : Nat → Nat → Option Nat) : va_W := [((q 0), .inr (7, [.int (nI n), .int (nI k), .ref (q 1), .ref (q 2), .ref (q 3), .ref (q 8), .int (f 0), .ref (q 13), .ref (q 14), .ref (q 15), .ref (q 18), .ref (q 21), .int (f 1), .ref (q 17), .int (f 2)])), ((q 1), .inl (cB, (5), .inr (.inr (.inr (.inr (fun i => (kAll i).map qb)))))), ((q 2), .inl (cI, k, .inl (a 0))), ((q 3), .inr (10, [.ref (q 4), .ref (q 5), .ref (q 6), .ref (q 7), .int (f 3), .int (f 4)])), ((q 4), .inl (cI, (k - n), .inl (b 0))), ((q 5), .inl (cI, n, .inl (a 1))), ((q 6), .inl (cI, k, .inl (a 2))), ((q 7), .inl (cS, (6), .inr (.inr (.inr (.inr (sg 0)))))), ((q 8), .inr (10, [.ref (q 9), .ref (q 10), .ref (q 11), .ref (q 12), .int (f 5), .int (f 6)])), ((q 9), .inl (cI, (k - n), .inl (b 1))), ((q 10), .inl (cI, n, .inl (a 3))), ((q 11), .inl (cI, k, .inl (a 4))), ((q 12), .inl (cS, (6), .inr (.inr (.inr (.inr (sg 1)))))), ((q 13), .inl (cI, k, .inl (a 5))), ((q 14), .inl (cI, k, .inl (a 6))), ((q 15), .inr (8, [.int (nI n), .ref (q 1), .ref (q 4), .ref (q 16), .ref t, .int (f 7)])), ((q 16), .inl (cI, k, .inl (a 8))), ((q 17), .inl (cI, (10 * n), .inl (a 7))), ((q 18), .inr (14, [.ref (q 19), .ref (q 20)])), ((q 19), .inl (cI, (k + 1), .inl (b 2))), ((q 20), .inl (cI, (toL n), .inl (b 3))), ((q 21), .inl (cI, k, .inl (b 4))), ((qb 0), .inr (2, [])), ((qb 1), .inr (3, [])), ((qb 2), .inr (5, [])), ((qb 3), .inr (11, [])), ((qb 4), .inr (4, []))]
abbrev W_Pu (adK : Nat → Nat) (adV : Nat → Nat) (cI : ClassId) (cB : ClassId) (cS : ClassId) (q : Nat → Nat) (qb : Nat → Nat) (n : Nat) (k : Nat) (u : StP) : va_W := W_P adK adV cI cB cS q qb n k u.1 u.2.1 u.2.2.1 u.2.2.2.1 u.2.2.2.2

abbrev StTS : Type := (Nat → Int32) × (Nat → Int32) × (Nat → Int32) × (Nat → Option Nat) × (Int32) × (Int32)
abbrev W_TS (adK : Nat → Nat) (adV : Nat → Nat) (cI : ClassId) (cB : ClassId) (cS : ClassId) (h : Nat) (h1 : Nat) (h2 : Nat) (h3 : Nat) (h4 : Nat) (g : Nat) (g1 : Nat) (g2 : Nat) (g3 : Nat) (g4 : Nat) (qb : Nat → Nat) (n : Nat) (k : Nat) (oA : Nat → Int32) (oF : Nat → Int32) (oT : Nat → Int32) (oS : Nat → Option Nat) (os : Int32) (oc : Int32) (tA : Nat → Int32) (tF : Nat → Int32) (tT : Nat → Int32) (tS : Nat → Option Nat) (ts : Int32) (tc : Int32) : va_W := [(h, .inr (10, [.ref h1, .ref h2, .ref h3, .ref h4, .int ts, .int tc])), (h1, .inl (cI, (k - n), .inl tA)), (h2, .inl (cI, n, .inl tF)), (h3, .inl (cI, k, .inl tT)), (h4, .inl (cS, (6), .inr (.inr (.inr (.inr tS))))), (g, .inr (10, [.ref g1, .ref g2, .ref g3, .ref g4, .int os, .int oc])), (g1, .inl (cI, (k - n), .inl oA)), (g2, .inl (cI, n, .inl oF)), (g3, .inl (cI, k, .inl oT)), (g4, .inl (cS, (6), .inr (.inr (.inr (.inr oS))))), ((qb 0), .inr (2, [])), ((qb 1), .inr (3, [])), ((qb 2), .inr (5, [])), ((qb 3), .inr (11, [])), ((qb 4), .inr (4, []))]
abbrev W_TSu (adK : Nat → Nat) (adV : Nat → Nat) (cI : ClassId) (cB : ClassId) (cS : ClassId) (h : Nat) (h1 : Nat) (h2 : Nat) (h3 : Nat) (h4 : Nat) (g : Nat) (g1 : Nat) (g2 : Nat) (g3 : Nat) (g4 : Nat) (qb : Nat → Nat) (n : Nat) (k : Nat) (oA : Nat → Int32) (oF : Nat → Int32) (oT : Nat → Int32) (oS : Nat → Option Nat) (os : Int32) (oc : Int32) (u : StTS) : va_W := W_TS adK adV cI cB cS h h1 h2 h3 h4 g g1 g2 g3 g4 qb n k oA oF oT oS os oc u.1 u.2.1 u.2.2.1 u.2.2.2.1 u.2.2.2.2.1 u.2.2.2.2.2

abbrev StAS : Type := (Nat → Option Nat) × (Int32)
abbrev W_AS (cS : ClassId) (h : Nat) (x1 : Nat) (x2 : Nat) (x3 : Nat) (qS : Nat) (tc : Int32) (tS : Nat → Option Nat) (ts : Int32) : va_W := [(h, .inr (10, [.ref x1, .ref x2, .ref x3, .ref qS, .int ts, .int tc])), (qS, .inl (cS, (6), .inr (.inr (.inr (.inr tS)))))]
abbrev W_ASu (cS : ClassId) (h : Nat) (x1 : Nat) (x2 : Nat) (x3 : Nat) (qS : Nat) (tc : Int32) (u : StAS) : va_W := W_AS cS h x1 x2 x3 qS tc u.1 u.2

abbrev StS : Type := Unit
abbrev W_S (adK : Nat → Nat) (adV : Nat → Nat) (sq : Nat) (sv : Nat) (sm : Nat) (sb : Nat → Int32)  : va_W := []
abbrev W_Su (adK : Nat → Nat) (adV : Nat → Nat) (sq : Nat) (sv : Nat) (sm : Nat) (sb : Nat → Int32) (u : StS) : va_W := W_S adK adV sq sv sm sb 

abbrev StZ : Type := Unit
abbrev W_Z (adK : Nat → Nat) (adV : Nat → Nat)  : va_W := []
abbrev W_Zu (adK : Nat → Nat) (adV : Nat → Nat) (u : StZ) : va_W := W_Z adK adV 

abbrev StY : Type := (Nat → Int32)
abbrev W_Y (cY : ClassId) (b : Nat) (n : Nat) (x : Nat → Int32) : va_W := [(b, .inl (cY, n, .inl x))]
abbrev W_Yu (cY : ClassId) (b : Nat) (n : Nat) (u : StY) : va_W := W_Y cY b n u

abbrev StB : Type := (Nat) × (Nat) × (Int32) × (Int32) × (Nat → Int32)
abbrev W_B (adK : Nat → Nat) (adV : Nat → Nat) (cY : ClassId) (h : Nat) (bv : Nat) (bm : Nat) (ml : Int32) (cn : Int32) (bt : Nat → Int32) : va_W := [(h, .inr (1, [.ref bv, .int (0 : Int32), .int ml, .int cn])), (bv, .inl (cY, bm, .inl bt))]
abbrev W_Bu (adK : Nat → Nat) (adV : Nat → Nat) (cY : ClassId) (h : Nat) (u : StB) : va_W := W_B adK adV cY h u.1 u.2.1 u.2.2.1 u.2.2.2.1 u.2.2.2.2

abbrev StE : Type := Unit
abbrev W_E   : va_W := []
abbrev W_Eu  (u : StE) : va_W := W_E  

abbrev StPG : Type := (Nat) × (Nat) × (Int32) × (Int32) × (Nat → Int32)
abbrev W_PG (adK : Nat → Nat) (adV : Nat → Nat) (cY : ClassId) (h : Nat) (g : Nat) (bv : Nat) (bm : Nat) (ml : Int32) (cn : Int32) (bt : Nat → Int32) : va_W := [(h, .inr (6, [.ref g])), (g, .inr (1, [.ref bv, .int (0 : Int32), .int ml, .int cn])), (bv, .inl (cY, bm, .inl bt))]
abbrev W_PGu (adK : Nat → Nat) (adV : Nat → Nat) (cY : ClassId) (h : Nat) (g : Nat) (u : StPG) : va_W := W_PG adK adV cY h g u.1 u.2.1 u.2.2.1 u.2.2.2.1 u.2.2.2.2

abbrev StN : Type := (Nat → Int32) × (Nat) × (Nat) × (Int32) × (Int32) × (Nat → Int32) × (Nat → Int32) × (Nat) × (Nat → Nat → Int32) × (Nat → Nat → Int32) × (Nat → Nat → Option Nat)
abbrev W_N (adK : Nat → Nat) (adV : Nat → Nat) (cI : ClassId) (cB : ClassId) (cS : ClassId) (cY : ClassId) (np : Nat) (pg : Nat) (g : Nat) (q : Nat → Nat) (qb : Nat → Nat) (n : Nat) (k : Nat) (ni : Nat → Int32) (bv : Nat) (bm : Nat) (ml : Int32) (cn : Int32) (bt : Nat → Int32) (f : Nat → Int32) (t : Nat) (a : Nat → Nat → Int32) (b : Nat → Nat → Int32) (sg : Nat → Nat → Option Nat) : va_W := [(np, .inr (12, [.ref (q 1), .ref pg, .ref (q 0), .int (ni 0), .int (ni 1), .int (ni 2)])), (pg, .inr (6, [.ref g])), (g, .inr (1, [.ref bv, .int (0 : Int32), .int ml, .int cn])), (bv, .inl (cY, bm, .inl bt)), ((q 0), .inr (7, [.int (nI n), .int (nI k), .ref (q 1), .ref (q 2), .ref (q 3), .ref (q 8), .int (f 0), .ref (q 13), .ref (q 14), .ref (q 15), .ref (q 18), .ref (q 21), .int (f 1), .ref (q 17), .int (f 2)])), ((q 1), .inl (cB, (5), .inr (.inr (.inr (.inr (fun i => (kAll i).map qb)))))), ((q 2), .inl (cI, k, .inl (a 0))), ((q 3), .inr (10, [.ref (q 4), .ref (q 5), .ref (q 6), .ref (q 7), .int (f 3), .int (f 4)])), ((q 4), .inl (cI, (k - n), .inl (b 0))), ((q 5), .inl (cI, n, .inl (a 1))), ((q 6), .inl (cI, k, .inl (a 2))), ((q 7), .inl (cS, (6), .inr (.inr (.inr (.inr (sg 0)))))), ((q 8), .inr (10, [.ref (q 9), .ref (q 10), .ref (q 11), .ref (q 12), .int (f 5), .int (f 6)])), ((q 9), .inl (cI, (k - n), .inl (b 1))), ((q 10), .inl (cI, n, .inl (a 3))), ((q 11), .inl (cI, k, .inl (a 4))), ((q 12), .inl (cS, (6), .inr (.inr (.inr (.inr (sg 1)))))), ((q 13), .inl (cI, k, .inl (a 5))), ((q 14), .inl (cI, k, .inl (a 6))), ((q 15), .inr (8, [.int (nI n), .ref (q 1), .ref (q 4), .ref (q 16), .ref t, .int (f 7)])), ((q 16), .inl (cI, k, .inl (a 8))), ((q 17), .inl (cI, (10 * n), .inl (a 7))), ((q 18), .inr (14, [.ref (q 19), .ref (q 20)])), ((q 19), .inl (cI, (k + 1), .inl (b 2))), ((q 20), .inl (cI, (toL n), .inl (b 3))), ((q 21), .inl (cI, k, .inl (b 4))), ((qb 0), .inr (2, [])), ((qb 1), .inr (3, [])), ((qb 2), .inr (5, [])), ((qb 3), .inr (11, [])), ((qb 4), .inr (4, []))]
abbrev W_Nu (adK : Nat → Nat) (adV : Nat → Nat) (cI : ClassId) (cB : ClassId) (cS : ClassId) (cY : ClassId) (np : Nat) (pg : Nat) (g : Nat) (q : Nat → Nat) (qb : Nat → Nat) (n : Nat) (k : Nat) (u : StN) : va_W := W_N adK adV cI cB cS cY np pg g q qb n k u.1 u.2.1 u.2.2.1 u.2.2.2.1 u.2.2.2.2.1 u.2.2.2.2.2.1 u.2.2.2.2.2.2.1 u.2.2.2.2.2.2.2.1 u.2.2.2.2.2.2.2.2.1 u.2.2.2.2.2.2.2.2.2.1 u.2.2.2.2.2.2.2.2.2.2

abbrev StGB : Type := Unit
abbrev W_GB (adK : Nat → Nat) (adV : Nat → Nat) (qb : Nat → Nat)  : va_W := [((qb 0), .inr (2, [])), ((qb 1), .inr (3, [])), ((qb 2), .inr (5, [])), ((qb 3), .inr (11, [])), ((qb 4), .inr (4, []))]
abbrev W_GBu (adK : Nat → Nat) (adV : Nat → Nat) (qb : Nat → Nat) (u : StGB) : va_W := W_GB adK adV qb 

def w_J7_fill_53178 (n : Nat) (x : Nat → Int32)  (p1 : Int32) (Q : ((Nat → Int32)) → Prop) : Prop := ∀ x1 : Int32, x1 = (nI n) → (∀ X4 : Int32 → (Nat → Int32) → Prop, (∀ (x2 : Int32) (xv3 : (Nat → Int32)), ((((x1 ≤ x2) → Q xv3) ∧ (¬ (x1 ≤ x2) → (vp_in x2 n) ∧ ∀ x7 : Int32, x7 = x2 + (1 : Int32) → X4 x7 (upd xv3 x2.toNatClampNeg p1)))) → X4 x2 xv3) → X4 (0 : Int32) x)
abbrev rmJ7_fill_53178 : Room := { frames := 0, cells := 0, slots := 0, locals := 0 }
set_option maxHeartbeats 4000000 in
set_option maxRecDepth 100000 in
theorem t_J7_fill_53178 (l : Launch) (dC : Nat → ClassId) (dI : Nat → Nat → Nat) (cI : ClassId) (b : Nat) (n : Nat) (sz : Nat) (x : Nat → Int32)   (p1 : Int32) (Q0 : ((Nat → Int32)) → Prop) (hw : w_J7_fill_53178 n x  p1 Q0) : Met l yJ7_fill_53178 wsJ7_fill_53178 rmJ7_fill_53178 (g_pre g_T (dC, dI) vwCl [(cI, .int)] (W_A cI b n x) sz [.ref b, .int p1]) (g_qv (dC, dI) vwCl [(cI, .int)] (fun u : ((Nat → Int32)) => (W_A cI b n u)) Q0 (va_A (W_A cI b n x) sz)) 0 0 (va_A (W_A cI b n x) sz) := by
  refine g_startv (by decide) rfl (Nat.le_of_ble_eq_true rfl) ?_
  intro p e s m args below meth c A Q ls hx hb hml hown hts hin hK hP hD hA hS hZ hret hl
  obtain ⟨H, eH⟩ : ∃ H : Heap, H = s.heap := ⟨_, rfl⟩
  obtain ⟨locs, eL⟩ : ∃ L : List Loc, L = [] := ⟨_, rfl⟩
  have hS : va_S A s.heap H locs := by rw [eH, eL]; exact hS
  rw [← eH] at hP
  suffices hg : W p l e rmJ7_fill_53178 s m args below meth c H locs 0 0 Q (F0 m 0 ls []) by rw [eH, eL] at hg; exact hg
  clear eH eL
  replace hl : lv_has ls 4 [(0, .ref b), (1, .int p1)] := hl
  unfold w_J7_fill_53178 at hw
  refine lv_iconst (v := 0) hx hb dJ7_fill_53178_0 (by decide) ?_
  refine lv_istore_n (lv' := [(2, .int (0 : Int32)), (0, .ref b), (1, .int p1)]) hx hb dJ7_fill_53178_1 rfl hl (by decide) rfl (fun ls hl => ?_)
  refine lv_aload_n hx hb dJ7_fill_53178_2 rfl (lv_at hl 1 rfl) ?_
  refine va_alen hx hb hK hP 0 0 rfl rfl (v := (nI n)) rfl dJ7_fill_53178_3 ?_
  refine lv_topi (fun x1 ex1 => ?_)
  replace hw := hw x1 ex1
  refine lv_istore_n (lv' := [(3, .int x1), (2, .int (0 : Int32)), (0, .ref b), (1, .int p1)]) hx hb dJ7_fill_53178_4 rfl hl (by decide) rfl (fun ls hl => ?_)
  refine hw (fun (x2 : Int32) (xv3 : (Nat → Int32)) => ∀ (H : Heap) (locs : List Loc) (ls : Array Slot), va_P (dC, dI) vwCl (W_A cI b n xv3) H → va_D A (W_A cI b n xv3) → va_S A s.heap H locs → lv_has ls 4 [(0, .ref b), (1, .int p1), (2, .int x2), (3, .int x1)] → W p l e rmJ7_fill_53178 s m args below meth c H locs 0 0 Q (F0 m 5 ls [])) ?_ H locs ls hP hD hS (lv_sub hl [2, 3, 1, 0] rfl)
  · intro x2 xv3 hw H locs ls hP hD hS hl
    refine lv_iload_n hx hb dJ7_fill_53178_5 rfl (lv_at hl 2 rfl) ?_
    refine lv_iload_n hx hb dJ7_fill_53178_6 rfl (lv_at hl 3 rfl) ?_
    refine lv_icmp_ge (tgt := 20) hx hb dJ7_fill_53178_7 (by decide) (fun hc5 => ?_) (fun hc5 => ?_)
    · replace hw := hw.1 hc5
      exact hret dJ7_fill_53178_20 hK hP hD hS hw
    · replace hw := hw.2 hc5
      refine lv_aload_n hx hb dJ7_fill_53178_10 rfl (lv_at hl 0 rfl) ?_
      refine lv_iload_n hx hb dJ7_fill_53178_11 rfl (lv_at hl 2 rfl) ?_
      refine lv_iload_n hx hb dJ7_fill_53178_12 rfl (lv_at hl 1 rfl) ?_
      obtain ⟨hb6, hw⟩ := hw
      refine va_iast hx hb hK hP hD hS 0 0 rfl rfl hb6 dJ7_fill_53178_13 (fun H locs hP hD hS => ?_)
      replace hP : va_P (dC, dI) vwCl (W_A cI b n (upd xv3 x2.toNatClampNeg p1)) H := hP
      replace hD : va_D A (W_A cI b n (upd xv3 x2.toNatClampNeg p1)) := hD
      obtain ⟨x7, ex7⟩ : ∃ y : Int32, y = x2 + (1 : Int32) := ⟨_, rfl⟩
      replace hw := hw x7 ex7
      refine lv_iinc (v := x7) (lv' := [(2, .int x7), (0, .ref b), (1, .int p1), (3, .int x1)]) hx hb dJ7_fill_53178_14 hl (k := 2) rfl (by rw [ex7]; rfl) (by decide) rfl (fun ls hl => ?_)
      refine lv_goto (tgt := 5) hx hb dJ7_fill_53178_17 (by decide) ?_
      exact hw H locs ls hP hD hS (lv_sub hl [1, 2, 0, 3] rfl)

def w_X10_asNumber (n : Nat) (x : Nat → Int32)  (p1 : Int32) (Q : Int32 → Unit → Prop) : Prop := (∀ X3 : Int32 → Int32 → Prop, (∀ (x1 : Int32) (x2 : Int32), ((((p1 ≤ x2) → Q x1 ()) ∧ (¬ (p1 ≤ x2) → ((((nI n) ≤ x2) → Q x1 ()) ∧ (¬ ((nI n) ≤ x2) → (vp_in x2 n) ∧ ∀ x7 : Int32, x7 = ((x1 * (10 : Int32)) + (x x2.toNatClampNeg)) → ∀ x8 : Int32, x8 = x2 + (1 : Int32) → X3 x7 x8))))) → X3 x1 x2) → X3 (0 : Int32) (0 : Int32))
abbrev rmX10_asNumber : Room := { frames := 0, cells := 0, slots := 0, locals := 0 }
set_option maxHeartbeats 4000000 in
set_option maxRecDepth 100000 in
theorem t_X10_asNumber (l : Launch) (dC : Nat → ClassId) (dI : Nat → Nat → Nat) (cI : ClassId) (b : Nat) (n : Nat) (sz : Nat) (x : Nat → Int32)   (p1 : Int32) (Q0 : Int32 → Unit → Prop) (hw : w_X10_asNumber n x  p1 Q0) : Met l yX10_asNumber wsX10_asNumber rmX10_asNumber (g_pre g_T (dC, dI) vwCl [(cI, .int)] (W_A cI b n x) sz [.ref b, .int p1]) (g_qi (dC, dI) vwCl [(cI, .int)] (fun u : Unit => (W_A cI b n x)) Q0 (va_A (W_A cI b n x) sz)) 0 0 (va_A (W_A cI b n x) sz) := by
  refine g_starti (by decide) rfl (Nat.le_of_ble_eq_true rfl) ?_
  intro p e s m args below meth c A Q ls hx hb hml hown hts hin hK hP hD hA hS hZ hret hl
  obtain ⟨H, eH⟩ : ∃ H : Heap, H = s.heap := ⟨_, rfl⟩
  obtain ⟨locs, eL⟩ : ∃ L : List Loc, L = [] := ⟨_, rfl⟩
  have hS : va_S A s.heap H locs := by rw [eH, eL]; exact hS
  rw [← eH] at hP
  suffices hg : W p l e rmX10_asNumber s m args below meth c H locs 0 0 Q (F0 m 0 ls []) by rw [eH, eL] at hg; exact hg
  clear eH eL
  replace hl : lv_has ls 4 [(0, .ref b), (1, .int p1)] := hl
  unfold w_X10_asNumber at hw
  refine lv_iconst (v := 0) hx hb dX10_asNumber_0 (by decide) ?_
  refine lv_istore_n (lv' := [(2, .int (0 : Int32)), (0, .ref b), (1, .int p1)]) hx hb dX10_asNumber_1 rfl hl (by decide) rfl (fun ls hl => ?_)
  refine lv_iconst (v := 0) hx hb dX10_asNumber_2 (by decide) ?_
  refine lv_istore_n (lv' := [(3, .int (0 : Int32)), (2, .int (0 : Int32)), (0, .ref b), (1, .int p1)]) hx hb dX10_asNumber_3 rfl hl (by decide) rfl (fun ls hl => ?_)
  refine hw (fun (x1 : Int32) (x2 : Int32) => ∀ (H : Heap) (locs : List Loc) (ls : Array Slot), va_P (dC, dI) vwCl (W_A cI b n x) H → va_D A (W_A cI b n x) → va_S A s.heap H locs → lv_has ls 4 [(0, .ref b), (1, .int p1), (2, .int x1), (3, .int x2)] → W p l e rmX10_asNumber s m args below meth c H locs 0 0 Q (F0 m 4 ls [])) ?_ H locs ls hP hD hS (lv_sub hl [2, 3, 1, 0] rfl)
  · intro x1 x2 hw H locs ls hP hD hS hl
    refine lv_iload_n hx hb dX10_asNumber_4 rfl (lv_at hl 3 rfl) ?_
    refine lv_iload_n hx hb dX10_asNumber_5 rfl (lv_at hl 1 rfl) ?_
    refine lv_icmp_ge (tgt := 30) hx hb dX10_asNumber_6 (by decide) (fun hc4 => ?_) (fun hc4 => ?_)
    · replace hw := hw.1 hc4
      refine lv_iload_n hx hb dX10_asNumber_30 rfl (lv_at hl 2 rfl) ?_
      exact hret dX10_asNumber_31 hK hP hD hS hw
    · replace hw := hw.2 hc4
      refine lv_iload_n hx hb dX10_asNumber_9 rfl (lv_at hl 3 rfl) ?_
      refine lv_aload_n hx hb dX10_asNumber_10 rfl (lv_at hl 0 rfl) ?_
      refine va_alen hx hb hK hP 0 0 rfl rfl (v := (nI n)) rfl dX10_asNumber_11 ?_
      refine lv_icmp_ge (tgt := 30) hx hb dX10_asNumber_12 (by decide) (fun hc5 => ?_) (fun hc5 => ?_)
      · replace hw := hw.1 hc5
        refine lv_iload_n hx hb dX10_asNumber_30 rfl (lv_at hl 2 rfl) ?_
        exact hret dX10_asNumber_31 hK hP hD hS hw
      · replace hw := hw.2 hc5
        refine lv_iload_n hx hb dX10_asNumber_15 rfl (lv_at hl 2 rfl) ?_
        refine lv_bipush (v := 10) hx hb dX10_asNumber_16 (by decide) ?_
        refine lv_imul hx hb dX10_asNumber_18 ?_
        refine lv_aload_n hx hb dX10_asNumber_19 rfl (lv_at hl 0 rfl) ?_
        refine lv_iload_n hx hb dX10_asNumber_20 rfl (lv_at hl 3 rfl) ?_
        obtain ⟨hb6, hw⟩ := hw
        refine va_iald hx hb hK hP 0 0 rfl rfl hb6 dX10_asNumber_21 ?_
        refine lv_iadd hx hb dX10_asNumber_22 ?_
        refine lv_topi (fun x7 ex7 => ?_)
        replace hw := hw x7 ex7
        refine lv_istore_n (lv' := [(2, .int x7), (0, .ref b), (1, .int p1), (3, .int x2)]) hx hb dX10_asNumber_23 rfl hl (by decide) rfl (fun ls hl => ?_)
        obtain ⟨x8, ex8⟩ : ∃ y : Int32, y = x2 + (1 : Int32) := ⟨_, rfl⟩
        replace hw := hw x8 ex8
        refine lv_iinc (v := x8) (lv' := [(3, .int x8), (2, .int x7), (0, .ref b), (1, .int p1)]) hx hb dX10_asNumber_24 hl (k := 3) rfl (by rw [ex8]; rfl) (by decide) rfl (fun ls hl => ?_)
        refine lv_goto (tgt := 4) hx hb dX10_asNumber_27 (by decide) ?_
        exact hw H locs ls hP hD hS (lv_sub hl [2, 3, 1, 0] rfl)

def w_X10_copy (n1 : Nat) (n2 : Nat) (x : Nat → Int32) (y : Nat → Int32)   (Q : ((Nat → Int32)) → Prop) : Prop := ((¬ (0 : Int32) < 0) ∧ (¬ (0 : Int32) < 0) ∧ (¬ (if (nI n2) < (nI n1) then (nI n2) else (nI n1)) < 0) ∧ ((0 : Int32).toNatClampNeg + (if (nI n2) < (nI n1) then (nI n2) else (nI n1)).toNatClampNeg ≤ n1) ∧ ((0 : Int32).toNatClampNeg + (if (nI n2) < (nI n1) then (nI n2) else (nI n1)).toNatClampNeg ≤ n2)) ∧ Q (va_cpy x y (0 : Int32).toNatClampNeg (0 : Int32).toNatClampNeg (if (nI n2) < (nI n1) then (nI n2) else (nI n1)).toNatClampNeg)
abbrev rmX10_copy : Room := { frames := 1, cells := 0, slots := 0, locals := 60 }
set_option maxHeartbeats 4000000 in
set_option maxRecDepth 100000 in
theorem t_X10_copy (l : Launch) (dC : Nat → ClassId) (dI : Nat → Nat → Nat) (cI : ClassId) (b1 : Nat) (b2 : Nat) (n1 : Nat) (n2 : Nat) (x : Nat → Int32) (sz : Nat) (y : Nat → Int32)    (Q0 : ((Nat → Int32)) → Prop) (hw : w_X10_copy n1 n2 x y   Q0) : Met l yX10_copy wsX10_copy rmX10_copy (g_pre g_T (dC, dI) vwCl [(cI, .int)] (W_C2 cI b1 b2 n1 n2 x y) sz [.ref b1, .ref b2]) (g_qv (dC, dI) vwCl [(cI, .int)] (fun u : ((Nat → Int32)) => (W_C2 cI b1 b2 n1 n2 x u)) Q0 (va_A (W_C2 cI b1 b2 n1 n2 x y) sz)) 0 0 (va_A (W_C2 cI b1 b2 n1 n2 x y) sz) := by
  refine g_startv (by decide) rfl (Nat.le_of_ble_eq_true rfl) ?_
  intro p e s m args below meth c A Q ls hx hb hml hown hts hin hK hP hD hA hS hZ hret hl
  obtain ⟨H, eH⟩ : ∃ H : Heap, H = s.heap := ⟨_, rfl⟩
  obtain ⟨locs, eL⟩ : ∃ L : List Loc, L = [] := ⟨_, rfl⟩
  have hS : va_S A s.heap H locs := by rw [eH, eL]; exact hS
  rw [← eH] at hP
  suffices hg : W p l e rmX10_copy s m args below meth c H locs 0 0 Q (F0 m 0 ls []) by rw [eH, eL] at hg; exact hg
  clear eH eL
  replace hl : lv_has ls 2 [(0, .ref b1), (1, .ref b2)] := hl
  have ml260 := hts (.methodLink RX10 260 Lib.Math.min.name) (by decide +kernel)
  have msmin := hts (.static Lib.Math.min.name) (by decide +kernel)
  have miMath := hts (.initialized "java/lang/Math") (by decide +kernel)
  have mcmin := hts (.code Lib.Math.min.name Lib.Math.min.code 2 (some .int)) (by decide +kernel)
  have al263 := hts (.methodLink RX10 263 arraycopyName) (by decide +kernel)
  have acn := hts (.native arraycopyName) (by decide +kernel)
  have acs := hts (.static arraycopyName) (by decide +kernel)
  have aci := hts (.initialized "java/lang/System") (by decide +kernel)
  unfold w_X10_copy at hw
  refine lv_aload_n hx hb dX10_copy_0 rfl (lv_at hl 0 rfl) ?_
  refine lv_iconst (v := 0) hx hb dX10_copy_1 (by decide) ?_
  refine lv_aload_n hx hb dX10_copy_2 rfl (lv_at hl 1 rfl) ?_
  refine lv_iconst (v := 0) hx hb dX10_copy_3 (by decide) ?_
  refine lv_aload_n hx hb dX10_copy_4 rfl (lv_at hl 0 rfl) ?_
  refine va_alen hx hb hK hP 0 0 rfl rfl (v := (nI n1)) rfl dX10_copy_5 ?_
  refine lv_aload_n hx hb dX10_copy_6 rfl (lv_at hl 1 rfl) ?_
  refine va_alen hx hb hK hP 1 0 rfl rfl (v := (nI n2)) rfl dX10_copy_7 ?_
  refine va_mmin hx hb (hml.trans hl.1.symm) hown ml260 msmin miMath mcmin (Nat.le_of_ble_eq_true rfl) (Nat.le_of_ble_eq_true rfl) (Nat.le_of_ble_eq_true rfl) (Nat.le_of_ble_eq_true rfl) dX10_copy_8 ?_
  obtain ⟨⟨hc1, hc2, hc3, hc4, hc5⟩, hw⟩ := hw
  refine va_copyi hx hb (hml.trans hl.1.symm) hown al263 acn acs aci hK hP hD hS 0 1 0 0 rfl rfl rfl rfl rfl hc1 hc2 hc3 hc4 hc5 (fun _ _ => rfl) (Nat.le_of_ble_eq_true rfl) (Nat.le_of_ble_eq_true rfl) dX10_copy_11 (fun H locs hP hD hS => ?_)
  replace hP : va_P (dC, dI) vwCl (W_C2 cI b1 b2 n1 n2 x (va_cpy x y (0 : Int32).toNatClampNeg (0 : Int32).toNatClampNeg (if (nI n2) < (nI n1) then (nI n2) else (nI n1)).toNatClampNeg)) H := hP
  replace hD : va_D A (W_C2 cI b1 b2 n1 n2 x (va_cpy x y (0 : Int32).toNatClampNeg (0 : Int32).toNatClampNeg (if (nI n2) < (nI n1) then (nI n2) else (nI n1)).toNatClampNeg)) := hD
  exact hret dX10_copy_14 hK hP hD hS hw

def w_X12_clear (k : Nat) (mo : Nat) (bg : Nat → Int32) (of_ : Nat → Int32)   (Q : ((Nat → Int32)) → Prop) : Prop := w_J7_fill_53178 mo of_  (0 : Int32) (fun (u1 : ((Nat → Int32))) => Q u1)
abbrev rmX12_clear : Room := { frames := 1, cells := 0, slots := 0, locals := 23 }
set_option maxHeartbeats 4000000 in
set_option maxRecDepth 100000 in
theorem t_X12_clear (l : Launch) (dC : Nat → ClassId) (dI : Nat → Nat → Nat) (adK : Nat → Nat) (adV : Nat → Nat) (cI : ClassId) (h : Nat) (qB : Nat) (qO : Nat) (k : Nat) (mo : Nat) (bg : Nat → Int32) (sz : Nat) (of_ : Nat → Int32)    (Q0 : ((Nat → Int32)) → Prop) (hw : w_X12_clear k mo bg of_   Q0) : Met l yX12_clear wsX12_clear rmX12_clear (g_pre (cz adK adV) (dC, dI) vwCl [(cI, .int)] (W_T adK adV cI h qB qO k mo bg of_) sz [.ref h]) (g_qv (dC, dI) vwCl [(cI, .int)] (fun u : ((Nat → Int32)) => (W_T adK adV cI h qB qO k mo bg u)) Q0 (va_A (W_T adK adV cI h qB qO k mo bg of_) sz)) 0 0 (va_A (W_T adK adV cI h qB qO k mo bg of_) sz) := by
  refine g_startv (by decide) rfl (Nat.le_of_ble_eq_true rfl) ?_
  intro p e s m args below meth c A Q ls hx hb hml hown hts hin hK hP hD hA hS hZ hret hl
  obtain ⟨H, eH⟩ : ∃ H : Heap, H = s.heap := ⟨_, rfl⟩
  obtain ⟨locs, eL⟩ : ∃ L : List Loc, L = [] := ⟨_, rfl⟩
  have hS : va_S A s.heap H locs := by rw [eH, eL]; exact hS
  rw [← eH] at hP
  suffices hg : W p l e rmX12_clear s m args below meth c H locs 0 0 Q (F0 m 0 ls []) by rw [eH, eL] at hg; exact hg
  clear eH eL
  replace hl : lv_has ls 1 [(0, .ref h)] := hl
  have hf15 := hts (.fieldLink RX12 15 "NumberPile$Tally" "often" "[I") (by decide +kernel)
  have hiX12 : ∀ w ∈ u_ws RX12 TX12 2, w ∈ wsX12_clear := fun w h => List.mem_cons_of_mem _ (List.mem_append_right _ h)
  unfold w_X12_clear at hw
  refine lv_aload_n hx hb dX12_clear_0 rfl (lv_at hl 0 rfl) ?_
  refine va_get (D := (dC, dI)) (ci := 14) (v := .ref qO) (C := RX12) (T := TX12) (N := 2) hx hb hts hiX12 hown hK hP 0 rfl rfl 1 (by decide) hf15 (fun _ h9 => h9) rfl dX12_clear_1 ?_
  refine lv_iconst (v := 0) hx hb dX12_clear_4 (by decide) ?_
  refine g_cv (g_J.plain (W2 := fun u1 : ((Nat → Int32)) => (W_T adK adV cI h qB qO k mo bg u1)) [(h, .inr (14, [.ref qB, .ref qO])), (qB, .inl (cI, (k + 1), .inl bg))] [2] [0, 1] [0, 1, 2] rfl (by decide) rfl (by decide) (by decide) (fun _ => rfl) (by decide)) [0] hK hP hD hS hA rfl (fun hPc hDc hKc hFc => va_runS (As := [.ref qO, .int (0 : Int32)]) (rest := []) ⟨hx, hb, hml, hown, hts⟩ (t_J7_fill_53178 l dC dI cI qO mo H.size of_  (0 : Int32) _ hw) (va_cwS 2 hts gX12_clear_J7_fill_53178 rfl rfl rfl (by decide +kernel) ⟨Nat.le_of_ble_eq_true rfl, Nat.le_of_ble_eq_true rfl⟩) (g_pS g_Tb hPc hDc hKc (fun _ _ _ => trivial)) rfl rfl hl.1 rfl (lv_room (Nat.le_of_ble_eq_true rfl)) dX12_clear_5 ⟨Nat.le_of_ble_eq_true rfl, Nat.le_of_ble_eq_true rfl⟩) (fun u1 H locs hw hP hD hS => ?_)
  replace hP : va_P (dC, dI) vwCl (W_T adK adV cI h qB qO k mo bg u1) H := hP
  replace hD : va_D A (W_T adK adV cI h qB qO k mo bg u1) := hD
  exact hret dX12_clear_8 hK hP hD hS hw

def w_X12_worst (k : Nat) (mo : Nat) (bg : Nat → Int32) (of_ : Nat → Int32)  (p0 : Int32) (Q : Int32 → Unit → Prop) : Prop := (vp_in p0 (k + 1)) ∧ ∀ x2 : Int32, x2 = (bg p0.toNatClampNeg) → (∀ X5 : Int32 → Int32 → Prop, (∀ (x3 : Int32) (x4 : Int32), ((vp_in (p0 + (1 : Int32)) (k + 1)) ∧ ((((bg (p0 + (1 : Int32)).toNatClampNeg) ≤ x4) → Q x3 ()) ∧ (¬ ((bg (p0 + (1 : Int32)).toNatClampNeg) ≤ x4) → (vp_in x4 mo) ∧ ∀ x9 : Int32, x9 = (if x3 < (of_ x4.toNatClampNeg) then (of_ x4.toNatClampNeg) else x3) → ∀ x10 : Int32, x10 = x4 + (1 : Int32) → X5 x9 x10))) → X5 x3 x4) → X5 (0 : Int32) x2)
abbrev rmX12_worst : Room := { frames := 1, cells := 0, slots := 0, locals := 40 }
set_option maxHeartbeats 4000000 in
set_option maxRecDepth 100000 in
theorem t_X12_worst (l : Launch) (dC : Nat → ClassId) (dI : Nat → Nat → Nat) (adK : Nat → Nat) (adV : Nat → Nat) (cI : ClassId) (h : Nat) (qB : Nat) (qO : Nat) (k : Nat) (mo : Nat) (bg : Nat → Int32) (sz : Nat) (of_ : Nat → Int32)   (p0 : Int32) (Q0 : Int32 → Unit → Prop) (hw : w_X12_worst k mo bg of_  p0 Q0) : Met l yX12_worst wsX12_worst rmX12_worst (g_pre (cz adK adV) (dC, dI) vwCl [(cI, .int)] (W_T adK adV cI h qB qO k mo bg of_) sz [.ref h, .int p0]) (g_qi (dC, dI) vwCl [(cI, .int)] (fun u : Unit => (W_T adK adV cI h qB qO k mo bg of_)) Q0 (va_A (W_T adK adV cI h qB qO k mo bg of_) sz)) 0 0 (va_A (W_T adK adV cI h qB qO k mo bg of_) sz) := by
  refine g_starti (by decide) rfl (Nat.le_of_ble_eq_true rfl) ?_
  intro p e s m args below meth c A Q ls hx hb hml hown hts hin hK hP hD hA hS hZ hret hl
  obtain ⟨H, eH⟩ : ∃ H : Heap, H = s.heap := ⟨_, rfl⟩
  obtain ⟨locs, eL⟩ : ∃ L : List Loc, L = [] := ⟨_, rfl⟩
  have hS : va_S A s.heap H locs := by rw [eH, eL]; exact hS
  rw [← eH] at hP
  suffices hg : W p l e rmX12_worst s m args below meth c H locs 0 0 Q (F0 m 0 ls []) by rw [eH, eL] at hg; exact hg
  clear eH eL
  replace hl : lv_has ls 4 [(0, .ref h), (1, .int p0)] := hl
  have hf9 := hts (.fieldLink RX12 9 "NumberPile$Tally" "begin" "[I") (by decide +kernel)
  have hiX12 : ∀ w ∈ u_ws RX12 TX12 2, w ∈ wsX12_worst := fun w h => List.mem_cons_of_mem _ (List.mem_append_right _ h)
  have hf15 := hts (.fieldLink RX12 15 "NumberPile$Tally" "often" "[I") (by decide +kernel)
  have ml28 := hts (.methodLink RX12 28 Lib.Math.max.name) (by decide +kernel)
  have msmax := hts (.static Lib.Math.max.name) (by decide +kernel)
  have miMath := hts (.initialized "java/lang/Math") (by decide +kernel)
  have mcmax := hts (.code Lib.Math.max.name Lib.Math.max.code 2 (some .int)) (by decide +kernel)
  unfold w_X12_worst at hw
  refine lv_iconst (v := 0) hx hb dX12_worst_0 (by decide) ?_
  refine lv_istore_n (lv' := [(2, .int (0 : Int32)), (0, .ref h), (1, .int p0)]) hx hb dX12_worst_1 rfl hl (by decide) rfl (fun ls hl => ?_)
  refine lv_aload_n hx hb dX12_worst_2 rfl (lv_at hl 1 rfl) ?_
  refine va_get (D := (dC, dI)) (ci := 14) (v := .ref qB) (C := RX12) (T := TX12) (N := 2) hx hb hts hiX12 hown hK hP 0 rfl rfl 0 (by decide) hf9 (fun _ h9 => h9) rfl dX12_worst_3 ?_
  refine lv_iload_n hx hb dX12_worst_6 rfl (lv_at hl 2 rfl) ?_
  obtain ⟨hb1, hw⟩ := hw
  refine va_iald hx hb hK hP 1 0 rfl rfl hb1 dX12_worst_7 ?_
  refine lv_topi (fun x2 ex2 => ?_)
  replace hw := hw x2 ex2
  refine lv_istore_n (lv' := [(3, .int x2), (2, .int (0 : Int32)), (0, .ref h), (1, .int p0)]) hx hb dX12_worst_8 rfl hl (by decide) rfl (fun ls hl => ?_)
  refine hw (fun (x3 : Int32) (x4 : Int32) => ∀ (H : Heap) (locs : List Loc) (ls : Array Slot), va_P (dC, dI) vwCl (W_T adK adV cI h qB qO k mo bg of_) H → va_D A (W_T adK adV cI h qB qO k mo bg of_) → va_S A s.heap H locs → lv_has ls 4 [(0, .ref h), (1, .int p0), (2, .int x3), (3, .int x4)] → W p l e rmX12_worst s m args below meth c H locs 0 0 Q (F0 m 9 ls [])) ?_ H locs ls hP hD hS (lv_sub hl [2, 3, 1, 0] rfl)
  · intro x3 x4 hw H locs ls hP hD hS hl
    refine lv_iload_n hx hb dX12_worst_9 rfl (lv_at hl 3 rfl) ?_
    refine lv_aload_n hx hb dX12_worst_10 rfl (lv_at hl 0 rfl) ?_
    refine va_get (D := (dC, dI)) (ci := 14) (v := .ref qB) (C := RX12) (T := TX12) (N := 2) hx hb hts hiX12 hown hK hP 0 rfl rfl 0 (by decide) hf9 (fun _ h9 => h9) rfl dX12_worst_11 ?_
    refine lv_iload_n hx hb dX12_worst_14 rfl (lv_at hl 1 rfl) ?_
    refine lv_iconst (v := 1) hx hb dX12_worst_15 (by decide) ?_
    refine lv_iadd hx hb dX12_worst_16 ?_
    obtain ⟨hb6, hw⟩ := hw
    refine va_iald hx hb hK hP 1 0 rfl rfl hb6 dX12_worst_17 ?_
    refine lv_icmp_ge (tgt := 38) hx hb dX12_worst_18 (by decide) (fun hc7 => ?_) (fun hc7 => ?_)
    · replace hw := hw.1 hc7
      refine lv_iload_n hx hb dX12_worst_38 rfl (lv_at hl 2 rfl) ?_
      exact hret dX12_worst_39 hK hP hD hS hw
    · replace hw := hw.2 hc7
      refine lv_iload_n hx hb dX12_worst_21 rfl (lv_at hl 2 rfl) ?_
      refine lv_aload_n hx hb dX12_worst_22 rfl (lv_at hl 0 rfl) ?_
      refine va_get (D := (dC, dI)) (ci := 14) (v := .ref qO) (C := RX12) (T := TX12) (N := 2) hx hb hts hiX12 hown hK hP 0 rfl rfl 1 (by decide) hf15 (fun _ h9 => h9) rfl dX12_worst_23 ?_
      refine lv_iload_n hx hb dX12_worst_26 rfl (lv_at hl 3 rfl) ?_
      obtain ⟨hb8, hw⟩ := hw
      refine va_iald hx hb hK hP 2 0 rfl rfl hb8 dX12_worst_27 ?_
      refine va_mmax hx hb (hml.trans hl.1.symm) hown ml28 msmax miMath mcmax (Nat.le_of_ble_eq_true rfl) (Nat.le_of_ble_eq_true rfl) (Nat.le_of_ble_eq_true rfl) (Nat.le_of_ble_eq_true rfl) dX12_worst_28 ?_
      refine lv_topi (fun x9 ex9 => ?_)
      replace hw := hw x9 ex9
      refine lv_istore_n (lv' := [(2, .int x9), (0, .ref h), (1, .int p0), (3, .int x4)]) hx hb dX12_worst_31 rfl hl (by decide) rfl (fun ls hl => ?_)
      obtain ⟨x10, ex10⟩ : ∃ y : Int32, y = x4 + (1 : Int32) := ⟨_, rfl⟩
      replace hw := hw x10 ex10
      refine lv_iinc (v := x10) (lv' := [(3, .int x10), (2, .int x9), (0, .ref h), (1, .int p0)]) hx hb dX12_worst_32 hl (k := 3) rfl (by rw [ex10]; rfl) (by decide) rfl (fun ls hl => ?_)
      refine lv_goto (tgt := 9) hx hb dX12_worst_35 (by decide) ?_
      exact hw H locs ls hP hD hS (lv_sub hl [2, 3, 1, 0] rfl)

def w_X12_add (k : Nat) (mo : Nat) (bg : Nat → Int32) (kv : Nat) (vv : Nat → Int32) (of_ : Nat → Int32)   (Q : ((Nat → Int32)) → Prop) : Prop := (∀ X3 : Int32 → (Nat → Int32) → Prop, (∀ (x1 : Int32) (ofv2 : (Nat → Int32)), ((((((nI (k + 1)) - (1 : Int32)) ≤ x1) → Q ofv2) ∧ (¬ (((nI (k + 1)) - (1 : Int32)) ≤ x1) → ((((nI kv) ≤ x1) → Q ofv2) ∧ (¬ ((nI kv) ≤ x1) → (vp_in x1 (k + 1)) ∧ (vp_in x1 kv) ∧ ∀ x8 : Int32, x8 = ((bg x1.toNatClampNeg) + (vv x1.toNatClampNeg)) → (vp_in x1 (k + 1)) ∧ (vp_in (x1 + (1 : Int32)) (k + 1)) ∧ w_X10_isWithin x8 (bg x1.toNatClampNeg) ((bg (x1 + (1 : Int32)).toNatClampNeg) - (1 : Int32)) (fun (r11 : Int32) => ∀ J13 : (Nat → Int32) → Prop, (∀ (ofv12 : (Nat → Int32)), (∀ x14 : Int32, x14 = x1 + (1 : Int32) → X3 x14 ofv12) → J13 ofv12) → (((r11 = 0) → J13 ofv2) ∧ (¬ (r11 = 0) → (vp_in x8 mo) ∧ ∀ x18 : Int32, x18 = ((ofv2 x8.toNatClampNeg) + (1 : Int32)) → (vp_in x8 mo) ∧ J13 (upd ofv2 x8.toNatClampNeg x18))))))))) → X3 x1 ofv2) → X3 (0 : Int32) of_)
abbrev rmX12_add : Room := { frames := 1, cells := 0, slots := 0, locals := 22 }
set_option maxHeartbeats 4000000 in
set_option maxRecDepth 100000 in
theorem t_X12_add (l : Launch) (dC : Nat → ClassId) (dI : Nat → Nat → Nat) (adK : Nat → Nat) (adV : Nat → Nat) (cI : ClassId) (h : Nat) (qB : Nat) (qO : Nat) (k : Nat) (mo : Nat) (bg : Nat → Int32) (qV : Nat) (kv : Nat) (vv : Nat → Int32) (sz : Nat) (of_ : Nat → Int32)    (Q0 : ((Nat → Int32)) → Prop) (hw : w_X12_add k mo bg kv vv of_   Q0) : Met l yX12_add wsX12_add rmX12_add (g_pre (cz adK adV) (dC, dI) vwCl [(cI, .int)] (W_TV adK adV cI h qB qO k mo bg qV kv vv of_) sz [.ref h, .ref qV]) (g_qv (dC, dI) vwCl [(cI, .int)] (fun u : ((Nat → Int32)) => (W_TV adK adV cI h qB qO k mo bg qV kv vv u)) Q0 (va_A (W_TV adK adV cI h qB qO k mo bg qV kv vv of_) sz)) 0 0 (va_A (W_TV adK adV cI h qB qO k mo bg qV kv vv of_) sz) := by
  refine g_startv (by decide) rfl (Nat.le_of_ble_eq_true rfl) ?_
  intro p e s m args below meth c A Q ls hx hb hml hown hts hin hK hP hD hA hS hZ hret hl
  obtain ⟨H, eH⟩ : ∃ H : Heap, H = s.heap := ⟨_, rfl⟩
  obtain ⟨locs, eL⟩ : ∃ L : List Loc, L = [] := ⟨_, rfl⟩
  have hS : va_S A s.heap H locs := by rw [eH, eL]; exact hS
  rw [← eH] at hP
  suffices hg : W p l e rmX12_add s m args below meth c H locs 0 0 Q (F0 m 0 ls []) by rw [eH, eL] at hg; exact hg
  clear eH eL
  replace hl : lv_has ls 4 [(0, .ref h), (1, .ref qV)] := hl
  have hf9 := hts (.fieldLink RX12 9 "NumberPile$Tally" "begin" "[I") (by decide +kernel)
  have hiX12 : ∀ w ∈ u_ws RX12 TX12 2, w ∈ wsX12_add := fun w h => List.mem_cons_of_mem _ (List.mem_append_right _ h)
  have nm24 := hZ.1 _ (List.mem_of_getElem? (i := 18) (rfl : cz_nest[18]? = some (.methodLinkNest RX12 24 yX10_isWithin "NumberPile")))
  have iniRX10 := hts (.initialized RX10) (by decide +kernel)
  have st24 := hts (.static yX10_isWithin) (by decide +kernel)
  have hf15 := hts (.fieldLink RX12 15 "NumberPile$Tally" "often" "[I") (by decide +kernel)
  unfold w_X12_add at hw
  refine lv_iconst (v := 0) hx hb dX12_add_0 (by decide) ?_
  refine lv_istore_n (lv' := [(2, .int (0 : Int32)), (0, .ref h), (1, .ref qV)]) hx hb dX12_add_1 rfl hl (by decide) rfl (fun ls hl => ?_)
  refine hw (fun (x1 : Int32) (ofv2 : (Nat → Int32)) => ∀ (H : Heap) (locs : List Loc) (ls : Array Slot), va_P (dC, dI) vwCl (W_TV adK adV cI h qB qO k mo bg qV kv vv ofv2) H → va_D A (W_TV adK adV cI h qB qO k mo bg qV kv vv ofv2) → va_S A s.heap H locs → lv_has ls 4 [(0, .ref h), (1, .ref qV), (2, .int x1)] → W p l e rmX12_add s m args below meth c H locs 0 0 Q (F0 m 2 ls [])) ?_ H locs ls hP hD hS (lv_sub hl [1, 2, 0] rfl)
  · intro x1 ofv2 hw H locs ls hP hD hS hl
    refine lv_iload_n hx hb dX12_add_2 rfl (lv_at hl 2 rfl) ?_
    refine lv_aload_n hx hb dX12_add_3 rfl (lv_at hl 0 rfl) ?_
    refine va_get (D := (dC, dI)) (ci := 14) (v := .ref qB) (C := RX12) (T := TX12) (N := 2) hx hb hts hiX12 hown hK hP 0 rfl rfl 0 (by decide) hf9 (fun _ h9 => h9) rfl dX12_add_4 ?_
    refine va_alen hx hb hK hP 1 0 rfl rfl (v := (nI (k + 1))) rfl dX12_add_7 ?_
    refine lv_iconst (v := 1) hx hb dX12_add_8 (by decide) ?_
    refine lv_isub hx hb dX12_add_9 ?_
    refine lv_icmp_ge (tgt := 69) hx hb dX12_add_10 (by decide) (fun hc4 => ?_) (fun hc4 => ?_)
    · replace hw := hw.1 hc4
      exact hret dX12_add_69 hK hP hD hS hw
    · replace hw := hw.2 hc4
      refine lv_iload_n hx hb dX12_add_13 rfl (lv_at hl 2 rfl) ?_
      refine lv_aload_n hx hb dX12_add_14 rfl (lv_at hl 1 rfl) ?_
      refine va_alen hx hb hK hP 3 0 rfl rfl (v := (nI kv)) rfl dX12_add_15 ?_
      refine lv_icmp_ge (tgt := 69) hx hb dX12_add_16 (by decide) (fun hc5 => ?_) (fun hc5 => ?_)
      · replace hw := hw.1 hc5
        exact hret dX12_add_69 hK hP hD hS hw
      · replace hw := hw.2 hc5
        refine lv_aload_n hx hb dX12_add_19 rfl (lv_at hl 0 rfl) ?_
        refine va_get (D := (dC, dI)) (ci := 14) (v := .ref qB) (C := RX12) (T := TX12) (N := 2) hx hb hts hiX12 hown hK hP 0 rfl rfl 0 (by decide) hf9 (fun _ h9 => h9) rfl dX12_add_20 ?_
        refine lv_iload_n hx hb dX12_add_23 rfl (lv_at hl 2 rfl) ?_
        obtain ⟨hb6, hw⟩ := hw
        refine va_iald hx hb hK hP 1 0 rfl rfl hb6 dX12_add_24 ?_
        refine lv_aload_n hx hb dX12_add_25 rfl (lv_at hl 1 rfl) ?_
        refine lv_iload_n hx hb dX12_add_26 rfl (lv_at hl 2 rfl) ?_
        obtain ⟨hb7, hw⟩ := hw
        refine va_iald hx hb hK hP 3 0 rfl rfl hb7 dX12_add_27 ?_
        refine lv_iadd hx hb dX12_add_28 ?_
        refine lv_topi (fun x8 ex8 => ?_)
        replace hw := hw x8 ex8
        refine lv_istore_n (lv' := [(3, .int x8), (0, .ref h), (1, .ref qV), (2, .int x1)]) hx hb dX12_add_29 rfl hl (by decide) rfl (fun ls hl => ?_)
        refine lv_iload_n hx hb dX12_add_30 rfl (lv_at hl 0 rfl) ?_
        refine lv_aload_n hx hb dX12_add_31 rfl (lv_at hl 1 rfl) ?_
        refine va_get (D := (dC, dI)) (ci := 14) (v := .ref qB) (C := RX12) (T := TX12) (N := 2) hx hb hts hiX12 hown hK hP 0 rfl rfl 0 (by decide) hf9 (fun _ h9 => h9) rfl dX12_add_32 ?_
        refine lv_iload_n hx hb dX12_add_35 rfl (lv_at hl 3 rfl) ?_
        obtain ⟨hb9, hw⟩ := hw
        refine va_iald hx hb hK hP 1 0 rfl rfl hb9 dX12_add_36 ?_
        refine lv_aload_n hx hb dX12_add_37 rfl (lv_at hl 1 rfl) ?_
        refine va_get (D := (dC, dI)) (ci := 14) (v := .ref qB) (C := RX12) (T := TX12) (N := 2) hx hb hts hiX12 hown hK hP 0 rfl rfl 0 (by decide) hf9 (fun _ h9 => h9) rfl dX12_add_38 ?_
        refine lv_iload_n hx hb dX12_add_41 rfl (lv_at hl 3 rfl) ?_
        refine lv_iconst (v := 1) hx hb dX12_add_42 (by decide) ?_
        refine lv_iadd hx hb dX12_add_43 ?_
        obtain ⟨hb10, hw⟩ := hw
        refine va_iald hx hb hK hP 1 0 rfl rfl hb10 dX12_add_44 ?_
        refine lv_iconst (v := 1) hx hb dX12_add_45 (by decide) ?_
        refine lv_isub hx hb dX12_add_46 ?_
        refine g_c0 (rest := []) (va_runSN (As := [.int x8, .int (bg x1.toNatClampNeg), .int ((bg (x1 + (1 : Int32)).toNatClampNeg) - (1 : Int32))]) (rest := []) ⟨hx, hb, hml, hown, hts⟩ (t_X10_isWithin l  x8 (bg x1.toNatClampNeg) ((bg (x1 + (1 : Int32)).toNatClampNeg) - (1 : Int32)) _ hw) ⟨va_cnB 3 hts gX12_add_X10_isWithin_n24 rfl rfl rfl nm24 iniRX10 (by decide +kernel) ⟨Nat.le_of_ble_eq_true rfl, Nat.le_of_ble_eq_true rfl⟩, st24, trivial⟩ g_p0S rfl rfl hl.1 rfl (lv_room (Nat.le_of_ble_eq_true rfl)) dX12_add_47 ⟨Nat.le_of_ble_eq_true rfl, Nat.le_of_ble_eq_true rfl⟩) (fun r11 hw => ?_)
        replace hw := hw (fun (ofv12 : (Nat → Int32)) => ∀ (H : Heap) (locs : List Loc) (ls : Array Slot), va_P (dC, dI) vwCl (W_TV adK adV cI h qB qO k mo bg qV kv vv ofv12) H → va_D A (W_TV adK adV cI h qB qO k mo bg qV kv vv ofv12) → va_S A s.heap H locs → lv_has ls 4 [(0, .ref h), (1, .ref qV), (2, .int x1)] → W p l e rmX12_add s m args below meth c H locs 0 0 Q (F0 m 63 ls [])) (by
          intro ofv12 hw H locs ls hP hD hS hl
          obtain ⟨x14, ex14⟩ : ∃ y : Int32, y = x1 + (1 : Int32) := ⟨_, rfl⟩
          replace hw := hw x14 ex14
          refine lv_iinc (v := x14) (lv' := [(2, .int x14), (0, .ref h), (1, .ref qV)]) hx hb dX12_add_63 hl (k := 2) rfl (by rw [ex14]; rfl) (by decide) rfl (fun ls hl => ?_)
          refine lv_goto (tgt := 2) hx hb dX12_add_66 (by decide) ?_
          exact hw H locs ls hP hD hS (lv_sub hl [1, 2, 0] rfl))
        refine lv_if_eq (tgt := 63) hx hb dX12_add_50 (by decide) (fun hc15 => ?_) (fun hc15 => ?_)
        · replace hw := hw.1 hc15
          exact hw H locs ls hP hD hS (lv_sub hl [1, 2, 3] rfl)
        · replace hw := hw.2 hc15
          refine lv_aload_n hx hb dX12_add_53 rfl (lv_at hl 1 rfl) ?_
          refine va_get (D := (dC, dI)) (ci := 14) (v := .ref qO) (C := RX12) (T := TX12) (N := 2) hx hb hts hiX12 hown hK hP 0 rfl rfl 1 (by decide) hf15 (fun _ h9 => h9) rfl dX12_add_54 ?_
          refine lv_iload_n hx hb dX12_add_57 rfl (lv_at hl 0 rfl) ?_
          refine lv_dup2_11 hx hb dX12_add_58 rfl rfl ?_
          obtain ⟨hb16, hw⟩ := hw
          refine va_iald hx hb hK hP 2 0 rfl rfl hb16 dX12_add_59 ?_
          refine lv_iconst (v := 1) hx hb dX12_add_60 (by decide) ?_
          refine lv_iadd hx hb dX12_add_61 ?_
          refine lv_topi (fun x18 ex18 => ?_)
          replace hw := hw x18 ex18
          obtain ⟨hb17, hw⟩ := hw
          refine va_iast hx hb hK hP hD hS 2 0 rfl rfl hb17 dX12_add_62 (fun H locs hP hD hS => ?_)
          replace hP : va_P (dC, dI) vwCl (W_TV adK adV cI h qB qO k mo bg qV kv vv (upd ofv2 x8.toNatClampNeg x18)) H := hP
          replace hD : va_D A (W_TV adK adV cI h qB qO k mo bg qV kv vv (upd ofv2 x8.toNatClampNeg x18)) := hD
          exact hw H locs ls hP hD hS (lv_sub hl [1, 2, 3] rfl)

def w_X6_start (k : Nat) (n : Nat) (t : Nat) (at_ : Int32) (rv : Nat → Int32)   (Q : StRSP → Prop) : Prop := ∀ J2 : Int32 → Prop, (∀ (x1 : Int32), ((((¬ x1 = 0) → Q (x1, rv)) ∧ (x1 = 0 → (vp_in (0 : Int32) k) ∧ Q (x1, (upd rv (0 : Int32).toNatClampNeg (-1 : Int32)))))) → J2 x1) → ∀ J5 : Prop, ((J2 (-1 : Int32)) → J5) → ((((nI n) ≤ 0) → J5) ∧ (¬ ((nI n) ≤ 0) → (((¬ (nI k) = (nI k)) → J5) ∧ ((nI k) = (nI k) → J2 (0 : Int32)))))
abbrev rmX6_start : Room := { frames := 0, cells := 0, slots := 0, locals := 0 }
set_option maxHeartbeats 4000000 in
set_option maxRecDepth 100000 in
theorem t_X6_start (l : Launch) (dC : Nat → ClassId) (dI : Nat → Nat → Nat) (cI : ClassId) (h : Nat) (qK : Nat) (qA : Nat) (qV : Nat) (qT : Nat) (n : Nat) (k : Nat) (T : Nat → Int32) (sz : Nat) (t : Nat) (at_ : Int32) (rv : Nat → Int32)    (Q0 : StRSP → Prop) (hw : w_X6_start k n t at_ rv   Q0) : Met l yX6_start wsX6_start rmX6_start (g_pre g_T (dC, dI) vwCl [(cI, .int)] (W_RS cI h qK qA qV qT n k T t at_ rv) sz [.ref h, .ref qT]) (g_qv (dC, dI) vwCl [(cI, .int)] (W_RSPu cI h qK qA qV qT n k T) Q0 (va_A (W_RS cI h qK qA qV qT n k T t at_ rv) sz)) 0 0 (va_A (W_RS cI h qK qA qV qT n k T t at_ rv) sz) := by
  refine g_startv (by decide) rfl (Nat.le_of_ble_eq_true rfl) ?_
  intro p e s m args below meth c A Q ls hx hb hml hown hts hin hK hP hD hA hS hZ hret hl
  obtain ⟨H, eH⟩ : ∃ H : Heap, H = s.heap := ⟨_, rfl⟩
  obtain ⟨locs, eL⟩ : ∃ L : List Loc, L = [] := ⟨_, rfl⟩
  have hS : va_S A s.heap H locs := by rw [eH, eL]; exact hS
  rw [← eH] at hP
  suffices hg : W p l e rmX6_start s m args below meth c H locs 0 0 Q (F0 m 0 ls []) by rw [eH, eL] at hg; exact hg
  clear eH eL
  replace hl : lv_has ls 2 [(0, .ref h), (1, .ref qT)] := hl
  have hf26 := hts (.fieldLink RX6 26 "NumberPile$Rows" "told" "[I") (by decide +kernel)
  have hiX6 : ∀ w ∈ u_ws RX6 TX6 6, w ∈ wsX6_start := fun w h => List.mem_cons_of_mem _ (List.mem_append_right _ h)
  have hf9 := hts (.fieldLink RX6 9 "NumberPile$Rows" "wide" "I") (by decide +kernel)
  have hf29 := hts (.fieldLink RX6 29 "NumberPile$Rows" "at" "I") (by decide +kernel)
  have hf23 := hts (.fieldLink RX6 23 "NumberPile$Rows" "values" "[I") (by decide +kernel)
  unfold w_X6_start at hw
  refine lv_aload_n hx hb dX6_start_0 rfl (lv_at hl 0 rfl) ?_
  refine lv_aload_n hx hb dX6_start_1 rfl (lv_at hl 1 rfl) ?_
  refine va_put (D := (dC, dI)) (ci := 8) (v := .ref qT) (ty := (.array (.int))) (C := RX6) (T := TX6) (N := 6) hx hb hts hiX6 tyX6 tyX6_ok nmX6 hown hK hP hD hS 0 rfl rfl 4 (by decide) hf26 (fun _ h9 => h9) rfl (by decide +kernel) rfl rfl (Nat.le_of_ble_eq_true rfl) dX6_start_2 (fun H locs hP hD hS => ?_)
  replace hP : va_P (dC, dI) vwCl (W_RS cI h qK qA qV qT n k T qT at_ rv) H := hP
  replace hD : va_D A (W_RS cI h qK qA qV qT n k T qT at_ rv) := hD
  refine lv_aload_n hx hb dX6_start_5 rfl (lv_at hl 0 rfl) ?_
  refine lv_aload_n hx hb dX6_start_6 rfl (lv_at hl 0 rfl) ?_
  refine va_get (D := (dC, dI)) (ci := 8) (v := .int (nI n)) (C := RX6) (T := TX6) (N := 6) hx hb hts hiX6 hown hK hP 0 rfl rfl 0 (by decide) hf9 (fun _ h9 => h9) rfl dX6_start_7 ?_
  replace hw := hw (fun (x1 : Int32) => ∀ (H : Heap) (locs : List Loc) (ls : Array Slot), va_P (dC, dI) vwCl (W_RS cI h qK qA qV qT n k T qT at_ rv) H → va_D A (W_RS cI h qK qA qV qT n k T qT at_ rv) → va_S A s.heap H locs → lv_has ls 2 [(0, .ref h)] → W p l e rmX6_start s m args below meth c H locs 0 0 Q (F0 m 31 ls [.int x1, .ref h])) (by
    intro x1 hw H locs ls hP hD hS hl
    refine va_put (D := (dC, dI)) (ci := 8) (v := .int x1) (ty := (.int)) (C := RX6) (T := TX6) (N := 6) hx hb hts hiX6 tyX6 tyX6_ok nmX6 hown hK hP hD hS 0 rfl rfl 5 (by decide) hf29 (fun _ h9 => h9) rfl (by decide +kernel) rfl rfl (Nat.le_of_ble_eq_true rfl) dX6_start_31 (fun H locs hP hD hS => ?_)
    replace hP : va_P (dC, dI) vwCl (W_RS cI h qK qA qV qT n k T qT x1 rv) H := hP
    replace hD : va_D A (W_RS cI h qK qA qV qT n k T qT x1 rv) := hD
    refine lv_aload_n hx hb dX6_start_34 rfl (lv_at hl 0 rfl) ?_
    refine va_get (D := (dC, dI)) (ci := 8) (v := .int x1) (C := RX6) (T := TX6) (N := 6) hx hb hts hiX6 hown hK hP 0 rfl rfl 5 (by decide) hf29 (fun _ h9 => h9) rfl dX6_start_35 ?_
    refine lv_if_ne (tgt := 48) hx hb dX6_start_38 (by decide) (fun hc3 => ?_) (fun hc3 => ?_)
    · replace hw := hw.1 hc3
      exact hret dX6_start_48 hK hP hD hS hw
    · replace hw := hw.2 hc3
      refine lv_aload_n hx hb dX6_start_41 rfl (lv_at hl 0 rfl) ?_
      refine va_get (D := (dC, dI)) (ci := 8) (v := .ref qV) (C := RX6) (T := TX6) (N := 6) hx hb hts hiX6 hown hK hP 0 rfl rfl 3 (by decide) hf23 (fun _ h9 => h9) rfl dX6_start_42 ?_
      refine lv_iconst (v := 0) hx hb dX6_start_45 (by decide) ?_
      refine lv_iconst (v := -1) hx hb dX6_start_46 (by decide) ?_
      obtain ⟨hb4, hw⟩ := hw
      refine va_iast hx hb hK hP hD hS 1 0 rfl rfl hb4 dX6_start_47 (fun H locs hP hD hS => ?_)
      replace hP : va_P (dC, dI) vwCl (W_RS cI h qK qA qV qT n k T qT x1 (upd rv (0 : Int32).toNatClampNeg (-1 : Int32))) H := hP
      replace hD : va_D A (W_RS cI h qK qA qV qT n k T qT x1 (upd rv (0 : Int32).toNatClampNeg (-1 : Int32))) := hD
      exact hret dX6_start_48 hK hP hD hS hw)
  replace hw := hw (∀ (H : Heap) (locs : List Loc) (ls : Array Slot), va_P (dC, dI) vwCl (W_RS cI h qK qA qV qT n k T qT at_ rv) H → va_D A (W_RS cI h qK qA qV qT n k T qT at_ rv) → va_S A s.heap H locs → lv_has ls 2 [(0, .ref h)] → W p l e rmX6_start s m args below meth c H locs 0 0 Q (F0 m 30 ls [.ref h])) (by
    intro hw H locs ls hP hD hS hl
    refine lv_iconst (v := -1) hx hb dX6_start_30 (by decide) ?_
    exact hw H locs ls hP hD hS (lv_sub hl [0] rfl))
  refine lv_if_le (tgt := 30) hx hb dX6_start_10 (by decide) (fun hc6 => ?_) (fun hc6 => ?_)
  · replace hw := hw.1 hc6
    exact hw H locs ls hP hD hS (lv_sub hl [0] rfl)
  · replace hw := hw.2 hc6
    refine lv_aload_n hx hb dX6_start_13 rfl (lv_at hl 0 rfl) ?_
    refine va_get (D := (dC, dI)) (ci := 8) (v := .ref qT) (C := RX6) (T := TX6) (N := 6) hx hb hts hiX6 hown hK hP 0 rfl rfl 4 (by decide) hf26 (fun _ h9 => h9) rfl dX6_start_14 ?_
    refine va_alen hx hb hK hP 2 0 rfl rfl (v := (nI k)) rfl dX6_start_17 ?_
    refine lv_aload_n hx hb dX6_start_18 rfl (lv_at hl 0 rfl) ?_
    refine va_get (D := (dC, dI)) (ci := 8) (v := .ref qV) (C := RX6) (T := TX6) (N := 6) hx hb hts hiX6 hown hK hP 0 rfl rfl 3 (by decide) hf23 (fun _ h9 => h9) rfl dX6_start_19 ?_
    refine va_alen hx hb hK hP 1 0 rfl rfl (v := (nI k)) rfl dX6_start_22 ?_
    refine lv_icmp_ne (tgt := 30) hx hb dX6_start_23 (by decide) (fun hc7 => ?_) (fun hc7 => ?_)
    · replace hw := hw.1 hc7
      exact hw H locs ls hP hD hS (lv_sub hl [0] rfl)
    · replace hw := hw.2 hc7
      refine lv_iconst (v := 0) hx hb dX6_start_26 (by decide) ?_
      refine lv_goto (tgt := 31) hx hb dX6_start_27 (by decide) ?_
      exact hw H locs ls hP hD hS (lv_sub hl [0] rfl)
