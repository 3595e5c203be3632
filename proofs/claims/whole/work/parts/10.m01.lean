def w_X11_in (p0 : Int64) (p1 : Int64) (p2 : Int64) (Q : Int32 → Prop) : Prop := ((((lg_cmp p0 p1) < 0) → Q (0 : Int32)) ∧ (¬ ((lg_cmp p0 p1) < 0) → (((0 < (lg_cmp p0 p2)) → Q (0 : Int32)) ∧ (¬ (0 < (lg_cmp p0 p2)) → Q (1 : Int32)))))
abbrev rmX11_in : Room := { frames := 0, cells := 0, slots := 0, locals := 0 }
set_option maxHeartbeats 4000000 in
set_option maxRecDepth 100000 in
theorem t_X11_in (l : Launch) (p0 : Int64) (p1 : Int64) (p2 : Int64) (Q0 : Int32 → Prop) (hw : w_X11_in p0 p1 p2 Q0) : Met l yX11_in wsX11_in rmX11_in (g_pr0 [.long p0, .long p1, .long p2]) (vp_Si Q0) 0 0 (fun _ => False) := by
  refine g_start0z (by decide) rfl (Nat.le_of_ble_eq_true rfl) ?_
  intro p e s m args below meth c Q H ls hx hb hml hown hts hret hl
  replace hl : lv_has ls 6 [(0, .long p0), (2, .long p1), (4, .long p2)] := hl
  unfold w_X11_in at hw
  refine lv_lload_n hx hb dX11_in_0 rfl (lv_at hl 0 rfl) ?_
  refine lv_lload_n hx hb dX11_in_1 rfl (lv_at hl 1 rfl) ?_
  refine W.lcmp hx hb dX11_in_2 ?_
  refine lv_if_lt (tgt := 17) hx hb dX11_in_3 (by decide) (fun hc1 => ?_) (fun hc1 => ?_)
  · replace hw := hw.1 hc1
    refine lv_iconst (v := 0) hx hb dX11_in_17 (by decide) ?_
    exact hret dX11_in_18 isB_0 hw
  · replace hw := hw.2 hc1
    refine lv_lload_n hx hb dX11_in_6 rfl (lv_at hl 0 rfl) ?_
    refine lv_lload hx hb dX11_in_7 (lv_at hl 2 rfl) ?_
    refine W.lcmp hx hb dX11_in_9 ?_
    refine lv_if_gt (tgt := 17) hx hb dX11_in_10 (by decide) (fun hc2 => ?_) (fun hc2 => ?_)
    · replace hw := hw.1 hc2
      refine lv_iconst (v := 0) hx hb dX11_in_17 (by decide) ?_
      exact hret dX11_in_18 isB_0 hw
    · replace hw := hw.2 hc2
      refine lv_iconst (v := 1) hx hb dX11_in_13 (by decide) ?_
      refine lv_goto (tgt := 18) hx hb dX11_in_14 (by decide) ?_
      exact hret dX11_in_18 isB_1 hw

def w_X11_copy (n1 n2 : Nat) (y1 y2 : Nat → Int32)  (Q : ((Nat → Int32) × (Nat → Int32)) → Prop) : Prop := (∀ X3 : Int32 → ((Nat → Int32) × (Nat → Int32)) → Prop, (∀ (x1 : Int32) (u2 : ((Nat → Int32) × (Nat → Int32))), (((((nI n1) ≤ x1) → Q u2) ∧ (¬ ((nI n1) ≤ x1) → (vp_in x1 n1) ∧ ∀ x7 : Int32, x7 = (u2.1 x1.toNatClampNeg) → (vp_in x1 n2) ∧ ∀ x8 : Int32, x8 = x1 + (1 : Int32) → X3 x8 (u2.1, (upd u2.2 x1.toNatClampNeg x7))))) → X3 x1 u2) → X3 (0 : Int32) (y1, y2))
abbrev rmX11_copy : Room := { frames := 0, cells := 0, slots := 0, locals := 0 }
set_option maxHeartbeats 4000000 in
set_option maxRecDepth 100000 in
theorem t_X11_copy (l : Launch) (dC : Nat → ClassId) (dI : Nat → Nat → Nat) (cI : ClassId) (b1 b2 : Nat) (sz n1 n2 : Nat) (y1 y2 : Nat → Int32)  (Q0 : ((Nat → Int32) × (Nat → Int32)) → Prop) (hw : w_X11_copy n1 n2 y1 y2  Q0) : Met l yX11_copy wsX11_copy rmX11_copy (g_pre g_T (dC, dI) vwCl [(cI, .int)] (CW2 cI b1 b2 n1 n2 y1 y2) sz [.ref b1, .ref b2]) (g_qv (dC, dI) vwCl [(cI, .int)] (CW2u cI b1 b2 n1 n2) Q0 (va_A (CW2 cI b1 b2 n1 n2 y1 y2) sz)) 0 0 (va_A (CW2 cI b1 b2 n1 n2 y1 y2) sz) := by
  refine g_startv (by decide) rfl (Nat.le_of_ble_eq_true rfl) ?_
  intro p e s m args below meth c A Q ls hx hb hml hown hts hin hK hP hD hA hS hZ hret hl
  obtain ⟨H, eH⟩ : ∃ H : Heap, H = s.heap := ⟨_, rfl⟩
  obtain ⟨locs, eL⟩ : ∃ L : List Loc, L = [] := ⟨_, rfl⟩
  have hS : va_S A s.heap H locs := by rw [eH, eL]; exact hS
  rw [← eH] at hP
  suffices hg : W p l e rmX11_copy s m args below meth c H locs 0 0 Q (F0 m 0 ls []) by rw [eH, eL] at hg; exact hg
  clear eH eL
  replace hl : lv_has ls 3 [(0, .ref b1), (1, .ref b2)] := hl
  unfold w_X11_copy at hw
  refine lv_iconst (v := 0) hx hb dX11_copy_0 (by decide) ?_
  refine lv_istore_n (lv' := [(2, .int (0 : Int32)), (0, .ref b1), (1, .ref b2)]) hx hb dX11_copy_1 rfl hl (by decide) rfl (fun ls hl => ?_)
  refine hw (fun (x1 : Int32) (u2 : ((Nat → Int32) × (Nat → Int32))) => ∀ (H : Heap) (locs : List Loc) (ls : Array Slot), va_P (dC, dI) vwCl (CW2 cI b1 b2 n1 n2 u2.1 u2.2) H → va_D A (CW2 cI b1 b2 n1 n2 u2.1 u2.2) → va_S A s.heap H locs → lv_has ls 3 [(0, .ref b1), (1, .ref b2), (2, .int x1)] → W p l e rmX11_copy s m args below meth c H locs 0 0 Q (F0 m 2 ls [])) ?_ H locs ls hP hD hS (lv_sub hl [1, 2, 0] rfl)
  · intro x1 u2 hw H locs ls hP hD hS hl
    refine lv_iload_n hx hb dX11_copy_2 rfl (lv_at hl 2 rfl) ?_
    refine lv_aload_n hx hb dX11_copy_3 rfl (lv_at hl 0 rfl) ?_
    refine va_alen hx hb hK hP 0 0 rfl rfl (v := (nI n1)) rfl dX11_copy_4 ?_
    refine lv_icmp_ge (tgt := 20) hx hb dX11_copy_5 (by decide) (fun hc4 => ?_) (fun hc4 => ?_)
    · replace hw := hw.1 hc4
      exact hret dX11_copy_20 hK hP hD hS hw
    · replace hw := hw.2 hc4
      refine lv_aload_n hx hb dX11_copy_8 rfl (lv_at hl 1 rfl) ?_
      refine lv_iload_n hx hb dX11_copy_9 rfl (lv_at hl 2 rfl) ?_
      refine lv_aload_n hx hb dX11_copy_10 rfl (lv_at hl 0 rfl) ?_
      refine lv_iload_n hx hb dX11_copy_11 rfl (lv_at hl 2 rfl) ?_
      obtain ⟨hb5, hw⟩ := hw
      refine va_iald hx hb hK hP 0 0 rfl rfl hb5 dX11_copy_12 ?_
      refine lv_topi (fun x7 ex7 => ?_)
      replace hw := hw x7 ex7
      obtain ⟨hb6, hw⟩ := hw
      refine va_iast hx hb hK hP hD hS 1 0 rfl rfl hb6 dX11_copy_13 (fun H locs hP hD hS => ?_)
      replace hP : va_P (dC, dI) vwCl (CW2 cI b1 b2 n1 n2 u2.1 (upd u2.2 x1.toNatClampNeg x7)) H := hP
      replace hD : va_D A (CW2 cI b1 b2 n1 n2 u2.1 (upd u2.2 x1.toNatClampNeg x7)) := hD
      obtain ⟨x8, ex8⟩ : ∃ y : Int32, y = x1 + (1 : Int32) := ⟨_, rfl⟩
      replace hw := hw x8 ex8
      refine lv_iinc (v := x8) (lv' := [(2, .int x8), (0, .ref b1), (1, .ref b2)]) hx hb dX11_copy_14 hl (k := 2) rfl (by rw [ex8]; rfl) (by decide) rfl (fun ls hl => ?_)
      refine lv_goto (tgt := 2) hx hb dX11_copy_17 (by decide) ?_
      exact hw H locs ls hP hD hS (lv_sub hl [1, 2, 0] rfl)

def w_X11_power (p0 : Int32) (p1 : Int32) (Q : Int32 → Prop) : Prop := (∀ X3 : Int32 → Int32 → Prop, (∀ (x1 : Int32) (x2 : Int32), ((((p1 ≤ x2) → Q x1) ∧ (¬ (p1 ≤ x2) → ∀ x5 : Int32, x5 = (x1 * p0) → ∀ x6 : Int32, x6 = x2 + (1 : Int32) → X3 x5 x6))) → X3 x1 x2) → X3 (1 : Int32) (0 : Int32))
abbrev rmX11_power : Room := { frames := 0, cells := 0, slots := 0, locals := 0 }
set_option maxHeartbeats 4000000 in
set_option maxRecDepth 100000 in
theorem t_X11_power (l : Launch) (p0 : Int32) (p1 : Int32) (Q0 : Int32 → Prop) (hw : w_X11_power p0 p1 Q0) : Met l yX11_power wsX11_power rmX11_power (g_pr0 [.int p0, .int p1]) (vp_Si Q0) 0 0 (fun _ => False) := by
  refine g_start0i (by decide) rfl (Nat.le_of_ble_eq_true rfl) ?_
  intro p e s m args below meth c Q H ls hx hb hml hown hts hret hl
  replace hl : lv_has ls 4 [(0, .int p0), (1, .int p1)] := hl
  unfold w_X11_power at hw
  refine lv_iconst (v := 1) hx hb dX11_power_0 (by decide) ?_
  refine lv_istore_n (lv' := [(2, .int (1 : Int32)), (0, .int p0), (1, .int p1)]) hx hb dX11_power_1 rfl hl (by decide) rfl (fun ls hl => ?_)
  refine lv_iconst (v := 0) hx hb dX11_power_2 (by decide) ?_
  refine lv_istore_n (lv' := [(3, .int (0 : Int32)), (2, .int (1 : Int32)), (0, .int p0), (1, .int p1)]) hx hb dX11_power_3 rfl hl (by decide) rfl (fun ls hl => ?_)
  refine hw (fun (x1 : Int32) (x2 : Int32) => ∀ (ls : Array Slot), lv_has ls 4 [(0, .int p0), (1, .int p1), (2, .int x1), (3, .int x2)] → W p l e rmX11_power s m args below meth c H [] 0 0 Q (F0 m 4 ls [])) ?_ ls (lv_sub hl [2, 3, 1, 0] rfl)
  · intro x1 x2 hw ls hl
    refine lv_iload_n hx hb dX11_power_4 rfl (lv_at hl 3 rfl) ?_
    refine lv_iload_n hx hb dX11_power_5 rfl (lv_at hl 1 rfl) ?_
    refine lv_icmp_ge (tgt := 19) hx hb dX11_power_6 (by decide) (fun hc4 => ?_) (fun hc4 => ?_)
    · replace hw := hw.1 hc4
      refine lv_iload_n hx hb dX11_power_19 rfl (lv_at hl 2 rfl) ?_
      exact hret dX11_power_20 hw
    · replace hw := hw.2 hc4
      refine lv_iload_n hx hb dX11_power_9 rfl (lv_at hl 2 rfl) ?_
      refine lv_iload_n hx hb dX11_power_10 rfl (lv_at hl 0 rfl) ?_
      refine lv_imul hx hb dX11_power_11 ?_
      refine lv_topi (fun x5 ex5 => ?_)
      replace hw := hw x5 ex5
      refine lv_istore_n (lv' := [(2, .int x5), (0, .int p0), (1, .int p1), (3, .int x2)]) hx hb dX11_power_12 rfl hl (by decide) rfl (fun ls hl => ?_)
      obtain ⟨x6, ex6⟩ : ∃ y : Int32, y = x2 + (1 : Int32) := ⟨_, rfl⟩
      replace hw := hw x6 ex6
      refine lv_iinc (v := x6) (lv' := [(3, .int x6), (2, .int x5), (0, .int p0), (1, .int p1)]) hx hb dX11_power_13 hl (k := 3) rfl (by rw [ex6]; rfl) (by decide) rfl (fun ls hl => ?_)
      refine lv_goto (tgt := 4) hx hb dX11_power_16 (by decide) ?_
      exact hw ls (lv_sub hl [2, 3, 1, 0] rfl)

def w_X11_kindBy (p0 : Int32) (Q : Int32 → Prop) : Prop := ((p0 = 103 → Q (1 : Int32)) ∧ (¬ p0 = 103 → ((p0 = 108 → Q (4 : Int32)) ∧ (¬ p0 = 108 → ((p0 = 109 → Q (2 : Int32)) ∧ (¬ p0 = 109 → ((p0 = 115 → Q (0 : Int32)) ∧ (¬ p0 = 115 → ((p0 = 119 → Q (3 : Int32)) ∧ (¬ p0 = 119 → Q (-1 : Int32)))))))))))
abbrev rmX11_kindBy : Room := { frames := 0, cells := 0, slots := 0, locals := 0 }
set_option maxHeartbeats 4000000 in
set_option maxRecDepth 100000 in
theorem t_X11_kindBy (l : Launch) (p0 : Int32) (Q0 : Int32 → Prop) (hw : w_X11_kindBy p0 Q0) : Met l yX11_kindBy wsX11_kindBy rmX11_kindBy (g_pr0 [.int p0]) (vp_Si Q0) 0 0 (fun _ => False) := by
  refine g_start0i (by decide) rfl (Nat.le_of_ble_eq_true rfl) ?_
  intro p e s m args below meth c Q H ls hx hb hml hown hts hret hl
  replace hl : lv_has ls 1 [(0, .int p0)] := hl
  unfold w_X11_kindBy at hw
  refine lv_iload_n hx hb dX11_kindBy_0 rfl (lv_at hl 0 rfl) ?_
  by_cases hc1 : p0 = 103
  · replace hw := hw.1 hc1
    refine lv_lookup (tgt := 54) (off := 53) hx hb dX11_kindBy_1 (by decide) (by rw [hc1]; first | done | rfl) (by decide) ?_
    refine lv_iconst (v := 1) hx hb dX11_kindBy_54 (by decide) ?_
    exact hret dX11_kindBy_55 hw
  · replace hw := hw.2 hc1
    by_cases hc2 : p0 = 108
    · replace hw := hw.1 hc2
      refine lv_lookup (tgt := 60) (off := 59) hx hb dX11_kindBy_1 (by decide) (by rw [hc2]; first | done | rfl) (by decide) ?_
      refine lv_iconst (v := 4) hx hb dX11_kindBy_60 (by decide) ?_
      exact hret dX11_kindBy_61 hw
    · replace hw := hw.2 hc2
      by_cases hc3 : p0 = 109
      · replace hw := hw.1 hc3
        refine lv_lookup (tgt := 56) (off := 55) hx hb dX11_kindBy_1 (by decide) (by rw [hc3]; first | done | rfl) (by decide) ?_
        refine lv_iconst (v := 2) hx hb dX11_kindBy_56 (by decide) ?_
        exact hret dX11_kindBy_57 hw
      · replace hw := hw.2 hc3
        by_cases hc4 : p0 = 115
        · replace hw := hw.1 hc4
          refine lv_lookup (tgt := 52) (off := 51) hx hb dX11_kindBy_1 (by decide) (by rw [hc4]; first | done | rfl) (by decide) ?_
          refine lv_iconst (v := 0) hx hb dX11_kindBy_52 (by decide) ?_
          exact hret dX11_kindBy_53 hw
        · replace hw := hw.2 hc4
          by_cases hc5 : p0 = 119
          · replace hw := hw.1 hc5
            refine lv_lookup (tgt := 58) (off := 57) hx hb dX11_kindBy_1 (by decide) (by rw [hc5]; first | done | rfl) (by decide) ?_
            refine lv_iconst (v := 3) hx hb dX11_kindBy_58 (by decide) ?_
            exact hret dX11_kindBy_59 hw
          · replace hw := hw.2 hc5
            refine lv_lookup (tgt := 62) (off := 61) hx hb dX11_kindBy_1 (by decide) (by show Op.lookupswitch.offset [(103, 53), (108, 59), (109, 55), (115, 51), (119, 57)] 61 _ = _; rw [lv_osw (a := 103) hc1 (by decide), lv_osw (a := 108) hc2 (by decide), lv_osw (a := 109) hc3 (by decide), lv_osw (a := 115) hc4 (by decide), lv_osw (a := 119) hc5 (by decide)]; first | done | rfl) (by decide) ?_
            refine lv_iconst (v := -1) hx hb dX11_kindBy_62 (by decide) ?_
            exact hret dX11_kindBy_63 hw

def w_X11_bricksOf (p0 : Int32) (Q : Int32 → Prop) : Prop := Q ((p0 * (p0 + (1 : Int32))) / (2 : Int32))
abbrev rmX11_bricksOf : Room := { frames := 0, cells := 0, slots := 0, locals := 0 }
set_option maxHeartbeats 4000000 in
set_option maxRecDepth 100000 in
theorem t_X11_bricksOf (l : Launch) (p0 : Int32) (Q0 : Int32 → Prop) (hw : w_X11_bricksOf p0 Q0) : Met l yX11_bricksOf wsX11_bricksOf rmX11_bricksOf (g_pr0 [.int p0]) (vp_Si Q0) 0 0 (fun _ => False) := by
  refine g_start0i (by decide) rfl (Nat.le_of_ble_eq_true rfl) ?_
  intro p e s m args below meth c Q H ls hx hb hml hown hts hret hl
  replace hl : lv_has ls 1 [(0, .int p0)] := hl
  unfold w_X11_bricksOf at hw
  refine lv_iload_n hx hb dX11_bricksOf_0 rfl (lv_at hl 0 rfl) ?_
  refine lv_iload_n hx hb dX11_bricksOf_1 rfl (lv_at hl 0 rfl) ?_
  refine lv_iconst (v := 1) hx hb dX11_bricksOf_2 (by decide) ?_
  refine lv_iadd hx hb dX11_bricksOf_3 ?_
  refine lv_imul hx hb dX11_bricksOf_4 ?_
  refine lv_iconst (v := 2) hx hb dX11_bricksOf_5 (by decide) ?_
  refine lv_idiv hx hb dX11_bricksOf_6 (by decide) ?_
  exact hret dX11_bricksOf_7 hw

def w_X11_madeBy (p0 : Int32) (p1 : Int32) (p2 : Int32) (Q : Int32 → Prop) : Prop := ((p0 = 1 → (((p1 ≤ p2) → Q (p2 - p1)) ∧ (¬ (p1 ≤ p2) → Q (p1 - p2)))) ∧ (¬ p0 = 1 → ((p0 = 2 → (((p1 ≤ p2) → Q p2) ∧ (¬ (p1 ≤ p2) → Q p1))) ∧ (¬ p0 = 2 → ((p0 = 3 → Q (((2 : Int32) * p1) + p2)) ∧ (¬ p0 = 3 → ((p0 = 4 → Q ((((2 : Int32) * p1) + p2) - (((2 : Int32) * p1) + p2) / (10 : Int32) * (10 : Int32))) ∧ (¬ p0 = 4 → Q (p1 + p2)))))))))
abbrev rmX11_madeBy : Room := { frames := 0, cells := 0, slots := 0, locals := 0 }
set_option maxHeartbeats 4000000 in
set_option maxRecDepth 100000 in
theorem t_X11_madeBy (l : Launch) (p0 : Int32) (p1 : Int32) (p2 : Int32) (Q0 : Int32 → Prop) (hw : w_X11_madeBy p0 p1 p2 Q0) : Met l yX11_madeBy wsX11_madeBy rmX11_madeBy (g_pr0 [.int p0, .int p1, .int p2]) (vp_Si Q0) 0 0 (fun _ => False) := by
  refine g_start0i (by decide) rfl (Nat.le_of_ble_eq_true rfl) ?_
  intro p e s m args below meth c Q H ls hx hb hml hown hts hret hl
  replace hl : lv_has ls 3 [(0, .int p0), (1, .int p1), (2, .int p2)] := hl
  unfold w_X11_madeBy at hw
  refine lv_iload_n hx hb dX11_madeBy_0 rfl (lv_at hl 0 rfl) ?_
  by_cases hc1 : p0 = 1
  · replace hw := hw.1 hc1
    refine lv_tableIn (tgt := 32) hx hb dX11_madeBy_1 (by rw [hc1]; decide) (by rw [hc1]; decide) (by rw [hc1]; rfl) (by decide) ?_
    refine lv_iload_n hx hb dX11_madeBy_32 rfl (lv_at hl 1 rfl) ?_
    refine lv_iload_n hx hb dX11_madeBy_33 rfl (lv_at hl 2 rfl) ?_
    refine lv_icmp_le (tgt := 43) hx hb dX11_madeBy_34 (by decide) (fun hc2 => ?_) (fun hc2 => ?_)
    · replace hw := hw.1 hc2
      refine lv_iload_n hx hb dX11_madeBy_43 rfl (lv_at hl 2 rfl) ?_
      refine lv_iload_n hx hb dX11_madeBy_44 rfl (lv_at hl 1 rfl) ?_
      refine lv_isub hx hb dX11_madeBy_45 ?_
      exact hret dX11_madeBy_46 hw
    · replace hw := hw.2 hc2
      refine lv_iload_n hx hb dX11_madeBy_37 rfl (lv_at hl 1 rfl) ?_
      refine lv_iload_n hx hb dX11_madeBy_38 rfl (lv_at hl 2 rfl) ?_
      refine lv_isub hx hb dX11_madeBy_39 ?_
      refine lv_goto (tgt := 46) hx hb dX11_madeBy_40 (by decide) ?_
      exact hret dX11_madeBy_46 hw
  · replace hw := hw.2 hc1
    by_cases hc3 : p0 = 2
    · replace hw := hw.1 hc3
      refine lv_tableIn (tgt := 47) hx hb dX11_madeBy_1 (by rw [hc3]; decide) (by rw [hc3]; decide) (by rw [hc3]; rfl) (by decide) ?_
      refine lv_iload_n hx hb dX11_madeBy_47 rfl (lv_at hl 1 rfl) ?_
      refine lv_iload_n hx hb dX11_madeBy_48 rfl (lv_at hl 2 rfl) ?_
      refine lv_icmp_le (tgt := 56) hx hb dX11_madeBy_49 (by decide) (fun hc4 => ?_) (fun hc4 => ?_)
      · replace hw := hw.1 hc4
        refine lv_iload_n hx hb dX11_madeBy_56 rfl (lv_at hl 2 rfl) ?_
        exact hret dX11_madeBy_57 hw
      · replace hw := hw.2 hc4
        refine lv_iload_n hx hb dX11_madeBy_52 rfl (lv_at hl 1 rfl) ?_
        refine lv_goto (tgt := 57) hx hb dX11_madeBy_53 (by decide) ?_
        exact hret dX11_madeBy_57 hw
    · replace hw := hw.2 hc3
      by_cases hc5 : p0 = 3
      · replace hw := hw.1 hc5
        refine lv_tableIn (tgt := 58) hx hb dX11_madeBy_1 (by rw [hc5]; decide) (by rw [hc5]; decide) (by rw [hc5]; rfl) (by decide) ?_
        refine lv_iconst (v := 2) hx hb dX11_madeBy_58 (by decide) ?_
        refine lv_iload_n hx hb dX11_madeBy_59 rfl (lv_at hl 1 rfl) ?_
        refine lv_imul hx hb dX11_madeBy_60 ?_
        refine lv_iload_n hx hb dX11_madeBy_61 rfl (lv_at hl 2 rfl) ?_
        refine lv_iadd hx hb dX11_madeBy_62 ?_
        exact hret dX11_madeBy_63 hw
      · replace hw := hw.2 hc5
        by_cases hc6 : p0 = 4
        · replace hw := hw.1 hc6
          refine lv_tableIn (tgt := 64) hx hb dX11_madeBy_1 (by rw [hc6]; decide) (by rw [hc6]; decide) (by rw [hc6]; rfl) (by decide) ?_
          refine lv_iconst (v := 2) hx hb dX11_madeBy_64 (by decide) ?_
          refine lv_iload_n hx hb dX11_madeBy_65 rfl (lv_at hl 1 rfl) ?_
          refine lv_imul hx hb dX11_madeBy_66 ?_
          refine lv_iload_n hx hb dX11_madeBy_67 rfl (lv_at hl 2 rfl) ?_
          refine lv_iadd hx hb dX11_madeBy_68 ?_
          refine lv_bipush (v := 10) hx hb dX11_madeBy_69 (by decide) ?_
          refine lv_irem hx hb dX11_madeBy_71 (by decide) ?_
          exact hret dX11_madeBy_72 hw
        · replace hw := hw.2 hc6
          refine lv_tableOut (tgt := 73) hx hb dX11_madeBy_1 (by have z0 := lv_neT hc1 (a := 1) rfl; have z1 := lv_neT hc3 (a := 2) rfl; have z2 := lv_neT hc5 (a := 3) rfl; have z3 := lv_neT hc6 (a := 4) rfl; omega) (by decide) ?_
          refine lv_iload_n hx hb dX11_madeBy_73 rfl (lv_at hl 1 rfl) ?_
          refine lv_iload_n hx hb dX11_madeBy_74 rfl (lv_at hl 2 rfl) ?_
          refine lv_iadd hx hb dX11_madeBy_75 ?_
          exact hret dX11_madeBy_76 hw

def w_X11_worstBy (p0 : Int32) (p1 : Int32) (p2 : Int32) (Q : Int32 → Prop) : Prop := (∀ X3 : Int32 → Int32 → Prop, (∀ (x1 : Int32) (x2 : Int32), (((((5 : Int32) ≤ x2) → Q x1) ∧ (¬ ((5 : Int32) ≤ x2) → (∀ X7 : Int32 → Int32 → Prop, (∀ (x5 : Int32) (x6 : Int32), (((((5 : Int32) ≤ x6) → ∀ J10 : Int32 → Prop, (∀ (x9 : Int32), (∀ x11 : Int32, x11 = x2 + (1 : Int32) → X3 x9 x11) → J10 x9) → ∀ J12 : Prop, ((J10 x1) → J12) → (((¬ ((p0 >>> (x2 &&& 31)) &&& (1 : Int32)) = (1 : Int32)) → J12) ∧ (((p0 >>> (x2 &&& 31)) &&& (1 : Int32)) = (1 : Int32) → (((x5 ≤ x1) → J12) ∧ (¬ (x5 ≤ x1) → J10 x5))))) ∧ (¬ ((5 : Int32) ≤ x6) → w_X11_madeBy x6 p1 p2 (fun (r15 : Int32) => w_X11_madeBy x2 p1 p2 (fun (r16 : Int32) => ∀ J18 : Int32 → Prop, (∀ (x17 : Int32), (∀ x19 : Int32, x19 = (x5 + x17) → ∀ x20 : Int32, x20 = x6 + (1 : Int32) → X7 x19 x20) → J18 x17) → (((¬ r15 = r16) → J18 (0 : Int32)) ∧ (r15 = r16 → J18 ((p0 >>> (x6 &&& 31)) &&& (1 : Int32))))))))) → X7 x5 x6) → X7 (0 : Int32) (0 : Int32))))) → X3 x1 x2) → X3 (0 : Int32) (0 : Int32))
abbrev rmX11_worstBy : Room := { frames := 1, cells := 0, slots := 0, locals := 22 }
set_option maxHeartbeats 4000000 in
set_option maxRecDepth 100000 in
theorem t_X11_worstBy (l : Launch) (p0 : Int32) (p1 : Int32) (p2 : Int32) (Q0 : Int32 → Prop) (hw : w_X11_worstBy p0 p1 p2 Q0) : Met l yX11_worstBy wsX11_worstBy rmX11_worstBy (g_pr0 [.int p0, .int p1, .int p2]) (vp_Si Q0) 0 0 (fun _ => False) := by
  refine g_start0i (by decide) rfl (Nat.le_of_ble_eq_true rfl) ?_
  intro p e s m args below meth c Q H ls hx hb hml hown hts hret hl
  replace hl : lv_has ls 7 [(0, .int p0), (1, .int p1), (2, .int p2)] := hl
  unfold w_X11_worstBy at hw
  refine lv_iconst (v := 0) hx hb dX11_worstBy_0 (by decide) ?_
  refine lv_istore_n (lv' := [(3, .int (0 : Int32)), (0, .int p0), (1, .int p1), (2, .int p2)]) hx hb dX11_worstBy_1 rfl hl (by decide) rfl (fun ls hl => ?_)
  refine lv_iconst (v := 0) hx hb dX11_worstBy_2 (by decide) ?_
  refine lv_istore (lv' := [(4, .int (0 : Int32)), (3, .int (0 : Int32)), (0, .int p0), (1, .int p1), (2, .int p2)]) hx hb dX11_worstBy_3 hl (by decide) rfl (fun ls hl => ?_)
  refine hw (fun (x1 : Int32) (x2 : Int32) => ∀ (ls : Array Slot), lv_has ls 7 [(0, .int p0), (1, .int p1), (2, .int p2), (3, .int x1), (4, .int x2)] → W p l e rmX11_worstBy s m args below meth c H [] 0 0 Q (F0 m 5 ls [])) ?_ ls (lv_sub hl [2, 3, 4, 1, 0] rfl)
  · intro x1 x2 hw ls hl
    refine lv_iload hx hb dX11_worstBy_5 (lv_at hl 4 rfl) ?_
    refine lv_iconst (v := 5) hx hb dX11_worstBy_7 (by decide) ?_
    refine lv_icmp_ge (tgt := 90) hx hb dX11_worstBy_8 (by decide) (fun hc4 => ?_) (fun hc4 => ?_)
    · replace hw := hw.1 hc4
      refine lv_iload_n hx hb dX11_worstBy_90 rfl (lv_at hl 3 rfl) ?_
      exact hret dX11_worstBy_91 hw
    · replace hw := hw.2 hc4
      refine lv_iconst (v := 0) hx hb dX11_worstBy_11 (by decide) ?_
      refine lv_istore (lv' := [(5, .int (0 : Int32)), (0, .int p0), (1, .int p1), (2, .int p2), (3, .int x1), (4, .int x2)]) hx hb dX11_worstBy_12 hl (by decide) rfl (fun ls hl => ?_)
      refine lv_iconst (v := 0) hx hb dX11_worstBy_14 (by decide) ?_
      refine lv_istore (lv' := [(6, .int (0 : Int32)), (5, .int (0 : Int32)), (0, .int p0), (1, .int p1), (2, .int p2), (3, .int x1), (4, .int x2)]) hx hb dX11_worstBy_15 hl (by decide) rfl (fun ls hl => ?_)
      refine hw (fun (x5 : Int32) (x6 : Int32) => ∀ (ls : Array Slot), lv_has ls 7 [(0, .int p0), (1, .int p1), (2, .int p2), (3, .int x1), (4, .int x2), (5, .int x5), (6, .int x6)] → W p l e rmX11_worstBy s m args below meth c H [] 0 0 Q (F0 m 17 ls [])) ?_ ls (lv_sub hl [2, 3, 4, 5, 6, 1, 0] rfl)
      · intro x5 x6 hw ls hl
        refine lv_iload hx hb dX11_worstBy_17 (lv_at hl 6 rfl) ?_
        refine lv_iconst (v := 5) hx hb dX11_worstBy_19 (by decide) ?_
        refine lv_icmp_ge (tgt := 61) hx hb dX11_worstBy_20 (by decide) (fun hc8 => ?_) (fun hc8 => ?_)
        · replace hw := hw.1 hc8
          refine lv_iload_n hx hb dX11_worstBy_61 rfl (lv_at hl 0 rfl) ?_
          refine lv_iload hx hb dX11_worstBy_62 (lv_at hl 4 rfl) ?_
          refine lv_ishr hx hb dX11_worstBy_64 ?_
          refine lv_iconst (v := 1) hx hb dX11_worstBy_65 (by decide) ?_
          refine lv_iand hx hb dX11_worstBy_66 ?_
          refine lv_iconst (v := 1) hx hb dX11_worstBy_67 (by decide) ?_
          replace hw := hw (fun (x9 : Int32) => ∀ (ls : Array Slot), lv_has ls 7 [(0, .int p0), (1, .int p1), (2, .int p2), (4, .int x2)] → W p l e rmX11_worstBy s m args below meth c H [] 0 0 Q (F0 m 83 ls [.int x9])) (by
            intro x9 hw ls hl
            refine lv_istore_n (lv' := [(3, .int x9), (0, .int p0), (1, .int p1), (2, .int p2), (4, .int x2)]) hx hb dX11_worstBy_83 rfl hl (by decide) rfl (fun ls hl => ?_)
            obtain ⟨x11, ex11⟩ : ∃ y : Int32, y = x2 + (1 : Int32) := ⟨_, rfl⟩
            replace hw := hw x11 ex11
            refine lv_iinc (v := x11) (lv' := [(4, .int x11), (3, .int x9), (0, .int p0), (1, .int p1), (2, .int p2)]) hx hb dX11_worstBy_84 hl (k := 4) rfl (by rw [ex11]; rfl) (by decide) rfl (fun ls hl => ?_)
            refine lv_goto (tgt := 5) hx hb dX11_worstBy_87 (by decide) ?_
            exact hw ls (lv_sub hl [2, 3, 4, 1, 0] rfl))
          replace hw := hw (∀ (ls : Array Slot), lv_has ls 7 [(0, .int p0), (1, .int p1), (2, .int p2), (3, .int x1), (4, .int x2)] → W p l e rmX11_worstBy s m args below meth c H [] 0 0 Q (F0 m 82 ls [])) (by
            intro hw ls hl
            refine lv_iload_n hx hb dX11_worstBy_82 rfl (lv_at hl 3 rfl) ?_
            exact hw ls (lv_sub hl [0, 1, 2, 4] rfl))
          refine lv_icmp_ne (tgt := 82) hx hb dX11_worstBy_68 (by decide) (fun hc13 => ?_) (fun hc13 => ?_)
          · replace hw := hw.1 hc13
            exact hw ls (lv_sub hl [0, 1, 2, 3, 4] rfl)
          · replace hw := hw.2 hc13
            refine lv_iload hx hb dX11_worstBy_71 (lv_at hl 5 rfl) ?_
            refine lv_iload_n hx hb dX11_worstBy_73 rfl (lv_at hl 3 rfl) ?_
            refine lv_icmp_le (tgt := 82) hx hb dX11_worstBy_74 (by decide) (fun hc14 => ?_) (fun hc14 => ?_)
            · replace hw := hw.1 hc14
              exact hw ls (lv_sub hl [0, 1, 2, 3, 4] rfl)
            · replace hw := hw.2 hc14
              refine lv_iload hx hb dX11_worstBy_77 (lv_at hl 5 rfl) ?_
              refine lv_goto (tgt := 83) hx hb dX11_worstBy_79 (by decide) ?_
              exact hw ls (lv_sub hl [0, 1, 2, 4] rfl)
        · replace hw := hw.2 hc8
          refine lv_iload hx hb dX11_worstBy_23 (lv_at hl 5 rfl) ?_
          refine lv_iload hx hb dX11_worstBy_25 (lv_at hl 6 rfl) ?_
          refine lv_iload_n hx hb dX11_worstBy_27 rfl (lv_at hl 1 rfl) ?_
          refine lv_iload_n hx hb dX11_worstBy_28 rfl (lv_at hl 2 rfl) ?_
          refine g_callP (rest := [.int x5]) [.int x6, .int p1, .int p2] ⟨hx, hb, hml, hown, hts⟩ (t_X11_madeBy l x6 p1 p2 _ hw) (va_cwS 3 hts gX11_worstBy_X11_madeBy rfl rfl rfl (by decide +kernel) ⟨Nat.le_of_ble_eq_true rfl, Nat.le_of_ble_eq_true rfl⟩) rfl hl.1 (Nat.le_of_ble_eq_true rfl) dX11_worstBy_29 ⟨Nat.le_of_ble_eq_true rfl, Nat.le_of_ble_eq_true rfl⟩ (fun r15 hw => ?_)
          refine lv_iload hx hb dX11_worstBy_32 (lv_at hl 4 rfl) ?_
          refine lv_iload_n hx hb dX11_worstBy_34 rfl (lv_at hl 1 rfl) ?_
          refine lv_iload_n hx hb dX11_worstBy_35 rfl (lv_at hl 2 rfl) ?_
          refine g_callP (rest := [.int r15, .int x5]) [.int x2, .int p1, .int p2] ⟨hx, hb, hml, hown, hts⟩ (t_X11_madeBy l x2 p1 p2 _ hw) (va_cwS 3 hts gX11_worstBy_X11_madeBy rfl rfl rfl (by decide +kernel) ⟨Nat.le_of_ble_eq_true rfl, Nat.le_of_ble_eq_true rfl⟩) rfl hl.1 (Nat.le_of_ble_eq_true rfl) dX11_worstBy_36 ⟨Nat.le_of_ble_eq_true rfl, Nat.le_of_ble_eq_true rfl⟩ (fun r16 hw => ?_)
          replace hw := hw (fun (x17 : Int32) => ∀ (ls : Array Slot), lv_has ls 7 [(0, .int p0), (1, .int p1), (2, .int p2), (3, .int x1), (4, .int x2), (6, .int x6)] → W p l e rmX11_worstBy s m args below meth c H [] 0 0 Q (F0 m 52 ls [.int x17, .int x5])) (by
            intro x17 hw ls hl
            refine lv_iadd hx hb dX11_worstBy_52 ?_
            refine lv_topi (fun x19 ex19 => ?_)
            replace hw := hw x19 ex19
            refine lv_istore (lv' := [(5, .int x19), (0, .int p0), (1, .int p1), (2, .int p2), (3, .int x1), (4, .int x2), (6, .int x6)]) hx hb dX11_worstBy_53 hl (by decide) rfl (fun ls hl => ?_)
            obtain ⟨x20, ex20⟩ : ∃ y : Int32, y = x6 + (1 : Int32) := ⟨_, rfl⟩
            replace hw := hw x20 ex20
            refine lv_iinc (v := x20) (lv' := [(6, .int x20), (5, .int x19), (0, .int p0), (1, .int p1), (2, .int p2), (3, .int x1), (4, .int x2)]) hx hb dX11_worstBy_55 hl (k := 6) rfl (by rw [ex20]; rfl) (by decide) rfl (fun ls hl => ?_)
            refine lv_goto (tgt := 17) hx hb dX11_worstBy_58 (by decide) ?_
            exact hw ls (lv_sub hl [2, 3, 4, 5, 6, 1, 0] rfl))
          refine lv_icmp_ne (tgt := 51) hx hb dX11_worstBy_39 (by decide) (fun hc21 => ?_) (fun hc21 => ?_)
          · replace hw := hw.1 hc21
            refine lv_iconst (v := 0) hx hb dX11_worstBy_51 (by decide) ?_
            exact hw ls (lv_sub hl [0, 1, 2, 3, 4, 6] rfl)
          · replace hw := hw.2 hc21
            refine lv_iload_n hx hb dX11_worstBy_42 rfl (lv_at hl 0 rfl) ?_
            refine lv_iload hx hb dX11_worstBy_43 (lv_at hl 6 rfl) ?_
            refine lv_ishr hx hb dX11_worstBy_45 ?_
            refine lv_iconst (v := 1) hx hb dX11_worstBy_46 (by decide) ?_
            refine lv_iand hx hb dX11_worstBy_47 ?_
            refine lv_goto (tgt := 52) hx hb dX11_worstBy_48 (by decide) ?_
            exact hw ls (lv_sub hl [0, 1, 2, 3, 4, 6] rfl)

def w_X11_letter (f : Nat → Int32) (g : Int64) (a : Nat → Nat → Int32) (p0 : Int32) (Q : Int32 → MSt → Prop) : Prop := w_X11_in (p0.toInt64) (1 : Int64) (126 : Int64) (fun (r1 : Int32) => (((¬ r1 = 0) → (((¬ (f 1) = (18 : Int32)) → (vp_in (f 1) 18) ∧ ∀ x5 : Int32, x5 = ((f 1) + (1 : Int32)) → Q x5 ((upd f 1 x5), g, (va_up a 0 (upd (a 0) (f 1).toNatClampNeg p0)))) ∧ ((f 1) = (18 : Int32) → Q (-104 : Int32) (f, g, a)))) ∧ (r1 = 0 → Q (-102 : Int32) (f, g, a))))
abbrev rmX11_letter : Room := { frames := 1, cells := 0, slots := 0, locals := 25 }
set_option maxHeartbeats 4000000 in
set_option maxRecDepth 100000 in
theorem t_X11_letter (l : Launch) (dC : Nat → ClassId) (dI : Nat → Nat → Nat) (cI : ClassId) (h : Nat) (q : Nat → Nat) (sz : Nat) (f : Nat → Int32) (g : Int64) (a : Nat → Nat → Int32) (p0 : Int32) (Q0 : Int32 → MSt → Prop) (hw : w_X11_letter f g a p0 Q0) : Met l yX11_letter wsX11_letter rmX11_letter (g_pre g_T (dC, dI) vwCl [(cI, .int)] (MW cI h q f g a) sz [.ref h, .int p0]) (g_qi (dC, dI) vwCl [(cI, .int)] (MWu cI h q) Q0 (va_A (MW cI h q f g a) sz)) 0 0 (va_A (MW cI h q f g a) sz) := by
  refine g_starti (by decide) rfl (Nat.le_of_ble_eq_true rfl) ?_
  intro p e s m args below meth c A Q ls hx hb hml hown hts hin hK hP hD hA hS hZ hret hl
  obtain ⟨H, eH⟩ : ∃ H : Heap, H = s.heap := ⟨_, rfl⟩
  obtain ⟨locs, eL⟩ : ∃ L : List Loc, L = [] := ⟨_, rfl⟩
  have hS : va_S A s.heap H locs := by rw [eH, eL]; exact hS
  rw [← eH] at hP
  suffices hg : W p l e rmX11_letter s m args below meth c H locs 0 0 Q (F0 m 0 ls []) by rw [eH, eL] at hg; exact hg
  clear eH eL
  replace hl : lv_has ls 2 [(0, .ref h), (1, .int p0)] := hl
  have kc53 := hts (.constantLong RX11 53 (126)) (by decide +kernel)
  have hf59 := hts (.fieldLink RX11 59 "NumberPileModel" "pageMany" "I") (by decide +kernel)
  have hiX11 : ∀ w ∈ u_ws RX11 TX11 29, w ∈ wsX11_letter := fun w h => List.mem_cons_of_mem _ (List.mem_append_right _ h)
  have hf7 := hts (.fieldLink RX11 7 "NumberPileModel" "page" "[I") (by decide +kernel)
  unfold w_X11_letter at hw
  refine lv_iload_n hx hb dX11_letter_0 rfl (lv_at hl 1 rfl) ?_
  refine lv_i2l hx hb dX11_letter_1 rfl ?_
  refine lv_lconst (v := 1) hx hb dX11_letter_2 (by decide) ?_
  refine lv_ldc2 hx hb hown kc53 dX11_letter_3 ?_
  refine g_callP (rest := []) [.long (p0.toInt64), .long (1 : Int64), .long (126 : Int64)] ⟨hx, hb, hml, hown, hts⟩ (t_X11_in l (p0.toInt64) (1 : Int64) (126 : Int64) _ hw) (va_cwS 3 hts gX11_letter_X11_in rfl rfl rfl (by decide +kernel) ⟨Nat.le_of_ble_eq_true rfl, Nat.le_of_ble_eq_true rfl⟩) rfl hl.1 (Nat.le_of_ble_eq_true rfl) dX11_letter_6 ⟨Nat.le_of_ble_eq_true rfl, Nat.le_of_ble_eq_true rfl⟩ (fun r1 hw => ?_)
  refine lv_if_ne (tgt := 15) hx hb dX11_letter_9 (by decide) (fun hc2 => ?_) (fun hc2 => ?_)
  · replace hw := hw.1 hc2
    refine lv_aload_n hx hb dX11_letter_15 rfl (lv_at hl 0 rfl) ?_
    refine va_get (D := (dC, dI)) (ci := 13) (v := .int (f 1)) (C := RX11) (T := TX11) (N := 29) hx hb hts hiX11 hown hK hP 0 rfl rfl 1 (by decide) hf59 (fun _ h9 => h9) rfl dX11_letter_16 ?_
    refine lv_bipush (v := 18) hx hb dX11_letter_19 (by decide) ?_
    refine lv_icmp_ne (tgt := 27) hx hb dX11_letter_21 (by decide) (fun hc3 => ?_) (fun hc3 => ?_)
    · replace hw := hw.1 hc3
      refine lv_aload_n hx hb dX11_letter_27 rfl (lv_at hl 0 rfl) ?_
      refine va_get (D := (dC, dI)) (ci := 13) (v := .ref (q 0)) (C := RX11) (T := TX11) (N := 29) hx hb hts hiX11 hown hK hP 0 rfl rfl 0 (by decide) hf7 (fun _ h9 => h9) rfl dX11_letter_28 ?_
      refine lv_aload_n hx hb dX11_letter_31 rfl (lv_at hl 0 rfl) ?_
      refine va_get (D := (dC, dI)) (ci := 13) (v := .int (f 1)) (C := RX11) (T := TX11) (N := 29) hx hb hts hiX11 hown hK hP 0 rfl rfl 1 (by decide) hf59 (fun _ h9 => h9) rfl dX11_letter_32 ?_
      refine lv_iload_n hx hb dX11_letter_35 rfl (lv_at hl 1 rfl) ?_
      obtain ⟨hb4, hw⟩ := hw
      refine va_iast hx hb hK hP hD hS 1 0 rfl rfl hb4 dX11_letter_36 (fun H locs hP hD hS => ?_)
      replace hP : va_P (dC, dI) vwCl (MW cI h q f g (va_up a 0 (upd (a 0) (f 1).toNatClampNeg p0))) H := hP
      replace hD : va_D A (MW cI h q f g (va_up a 0 (upd (a 0) (f 1).toNatClampNeg p0))) := hD
      refine lv_aload_n hx hb dX11_letter_37 rfl (lv_at hl 0 rfl) ?_
      refine lv_dup hx hb dX11_letter_38 rfl ?_
      refine va_get (D := (dC, dI)) (ci := 13) (v := .int (f 1)) (C := RX11) (T := TX11) (N := 29) hx hb hts hiX11 hown hK hP 0 rfl rfl 1 (by decide) hf59 (fun _ h9 => h9) rfl dX11_letter_39 ?_
      refine lv_iconst (v := 1) hx hb dX11_letter_42 (by decide) ?_
      refine lv_iadd hx hb dX11_letter_43 ?_
      refine lv_topi (fun x5 ex5 => ?_)
      replace hw := hw x5 ex5
      refine va_put (D := (dC, dI)) (ci := 13) (v := .int x5) (ty := (.int)) (C := RX11) (T := TX11) (N := 29) hx hb hts hiX11 tyX11 tyX11_ok nmX11 hown hK hP hD hS 0 rfl rfl 1 (by decide) hf59 (fun _ h9 => h9) rfl (by decide +kernel) rfl rfl (Nat.le_of_ble_eq_true rfl) dX11_letter_44 (fun H locs hP hD hS => ?_)
      replace hP : va_P (dC, dI) vwCl (MW cI h q (upd f 1 x5) g (va_up a 0 (upd (a 0) (f 1).toNatClampNeg p0))) H := hP
      replace hD : va_D A (MW cI h q (upd f 1 x5) g (va_up a 0 (upd (a 0) (f 1).toNatClampNeg p0))) := hD
      refine lv_aload_n hx hb dX11_letter_47 rfl (lv_at hl 0 rfl) ?_
      refine va_get (D := (dC, dI)) (ci := 13) (v := .int x5) (C := RX11) (T := TX11) (N := 29) hx hb hts hiX11 hown hK hP 0 rfl rfl 1 (by decide) hf59 (fun _ h9 => h9) rfl dX11_letter_48 ?_
      exact hret dX11_letter_51 hK hP hD hS hw
    · replace hw := hw.2 hc3
      refine lv_bipush (v := -104) hx hb dX11_letter_24 (by decide) ?_
      exact hret dX11_letter_26 hK hP hD hS hw
  · replace hw := hw.2 hc2
    refine lv_bipush (v := -102) hx hb dX11_letter_12 (by decide) ?_
    exact hret dX11_letter_14 hK hP hD hS hw

def w_X11_blank (f : Nat → Int32) (g : Int64) (a : Nat → Nat → Int32)  (Q : Int32 → MSt → Prop) : Prop := ∀ x1 : Int32, x1 = (f 1) → Q x1 ((upd f 1 (0 : Int32)), g, a)
abbrev rmX11_blank : Room := { frames := 0, cells := 0, slots := 0, locals := 0 }
set_option maxHeartbeats 4000000 in
set_option maxRecDepth 100000 in
theorem t_X11_blank (l : Launch) (dC : Nat → ClassId) (dI : Nat → Nat → Nat) (cI : ClassId) (h : Nat) (q : Nat → Nat) (sz : Nat) (f : Nat → Int32) (g : Int64) (a : Nat → Nat → Int32)  (Q0 : Int32 → MSt → Prop) (hw : w_X11_blank f g a  Q0) : Met l yX11_blank wsX11_blank rmX11_blank (g_pre g_T (dC, dI) vwCl [(cI, .int)] (MW cI h q f g a) sz [.ref h]) (g_qi (dC, dI) vwCl [(cI, .int)] (MWu cI h q) Q0 (va_A (MW cI h q f g a) sz)) 0 0 (va_A (MW cI h q f g a) sz) := by
  refine g_starti (by decide) rfl (Nat.le_of_ble_eq_true rfl) ?_
  intro p e s m args below meth c A Q ls hx hb hml hown hts hin hK hP hD hA hS hZ hret hl
  obtain ⟨H, eH⟩ : ∃ H : Heap, H = s.heap := ⟨_, rfl⟩
  obtain ⟨locs, eL⟩ : ∃ L : List Loc, L = [] := ⟨_, rfl⟩
  have hS : va_S A s.heap H locs := by rw [eH, eL]; exact hS
  rw [← eH] at hP
  suffices hg : W p l e rmX11_blank s m args below meth c H locs 0 0 Q (F0 m 0 ls []) by rw [eH, eL] at hg; exact hg
  clear eH eL
  replace hl : lv_has ls 2 [(0, .ref h)] := hl
  have hf59 := hts (.fieldLink RX11 59 "NumberPileModel" "pageMany" "I") (by decide +kernel)
  have hiX11 : ∀ w ∈ u_ws RX11 TX11 29, w ∈ wsX11_blank := fun w h => List.mem_cons_of_mem _ (List.mem_append_right _ h)
  unfold w_X11_blank at hw
  refine lv_aload_n hx hb dX11_blank_0 rfl (lv_at hl 0 rfl) ?_
  refine va_get (D := (dC, dI)) (ci := 13) (v := .int (f 1)) (C := RX11) (T := TX11) (N := 29) hx hb hts hiX11 hown hK hP 0 rfl rfl 1 (by decide) hf59 (fun _ h9 => h9) rfl dX11_blank_1 ?_
  refine lv_topi (fun x1 ex1 => ?_)
  replace hw := hw x1 ex1
  refine lv_istore_n (lv' := [(1, .int x1), (0, .ref h)]) hx hb dX11_blank_4 rfl hl (by decide) rfl (fun ls hl => ?_)
  refine lv_aload_n hx hb dX11_blank_5 rfl (lv_at hl 1 rfl) ?_
  refine lv_iconst (v := 0) hx hb dX11_blank_6 (by decide) ?_
  refine va_put (D := (dC, dI)) (ci := 13) (v := .int (0 : Int32)) (ty := (.int)) (C := RX11) (T := TX11) (N := 29) hx hb hts hiX11 tyX11 tyX11_ok nmX11 hown hK hP hD hS 0 rfl rfl 1 (by decide) hf59 (fun _ h9 => h9) rfl (by decide +kernel) rfl rfl (Nat.le_of_ble_eq_true rfl) dX11_blank_7 (fun H locs hP hD hS => ?_)
  replace hP : va_P (dC, dI) vwCl (MW cI h q (upd f 1 (0 : Int32)) g a) H := hP
  replace hD : va_D A (MW cI h q (upd f 1 (0 : Int32)) g a) := hD
  refine lv_iload_n hx hb dX11_blank_10 rfl (lv_at hl 0 rfl) ?_
  exact hret dX11_blank_11 hK hP hD hS hw

def w_X11_isRowSign (f : Nat → Int32) (g : Int64) (a : Nat → Nat → Int32) (p0 : Int32) (Q : Int32 → MSt → Prop) : Prop := (((¬ (f 3) = (f 2)) → w_X11_kindBy p0 (fun (r2 : Int32) => (vp_in (f 4) 10) ∧ ∀ x4 : Int32, x4 = ((f 4) + (1 : Int32)) → ∀ x5 : Int32, x5 = ((f 3) + (1 : Int32)) → w_X11_kindBy p0 (fun (r6 : Int32) => (((r6 = (-1 : Int32)) → Q (0 : Int32) ((upd (upd f 4 x4) 3 x5), g, (va_up a 5 (upd (a 5) (f 4).toNatClampNeg r2)))) ∧ (¬ (r6 = (-1 : Int32)) → Q (1 : Int32) ((upd (upd f 4 x4) 3 x5), g, (va_up a 5 (upd (a 5) (f 4).toNatClampNeg r2)))))))) ∧ ((f 3) = (f 2) → ∀ x8 : Int32, x8 = ((f 2) - (1 : Int32)) → ∀ J10 : Int32 → Prop, (∀ (x9 : Int32), ((((¬ p0 = x9) → Q (0 : Int32) ((upd (upd f 2 x8) 3 (0 : Int32)), g, a)) ∧ (p0 = x9 → Q (1 : Int32) ((upd (upd f 2 x8) 3 (0 : Int32)), g, a)))) → J10 x9) → (((¬ x8 = 0) → J10 (44 : Int32)) ∧ (x8 = 0 → J10 (59 : Int32)))))
abbrev rmX11_isRowSign : Room := { frames := 1, cells := 0, slots := 0, locals := 20 }
set_option maxHeartbeats 4000000 in
set_option maxRecDepth 100000 in
theorem t_X11_isRowSign (l : Launch) (dC : Nat → ClassId) (dI : Nat → Nat → Nat) (cI : ClassId) (h : Nat) (q : Nat → Nat) (sz : Nat) (f : Nat → Int32) (g : Int64) (a : Nat → Nat → Int32) (p0 : Int32) (Q0 : Int32 → MSt → Prop) (hw : w_X11_isRowSign f g a p0 Q0) : Met l yX11_isRowSign wsX11_isRowSign rmX11_isRowSign (g_pre g_T (dC, dI) vwCl [(cI, .int)] (MW cI h q f g a) sz [.ref h, .int p0]) (g_qi (dC, dI) vwCl [(cI, .int)] (MWu cI h q) Q0 (va_A (MW cI h q f g a) sz)) 0 0 (va_A (MW cI h q f g a) sz) := by
  refine g_startz (by decide) rfl (Nat.le_of_ble_eq_true rfl) ?_
  intro p e s m args below meth c A Q ls hx hb hml hown hts hin hK hP hD hA hS hZ hret hl
  obtain ⟨H, eH⟩ : ∃ H : Heap, H = s.heap := ⟨_, rfl⟩
  obtain ⟨locs, eL⟩ : ∃ L : List Loc, L = [] := ⟨_, rfl⟩
  have hS : va_S A s.heap H locs := by rw [eH, eL]; exact hS
  rw [← eH] at hP
  suffices hg : W p l e rmX11_isRowSign s m args below meth c H locs 0 0 Q (F0 m 0 ls []) by rw [eH, eL] at hg; exact hg
  clear eH eL
  replace hl : lv_has ls 2 [(0, .ref h), (1, .int p0)] := hl
  have hf62 := hts (.fieldLink RX11 62 "NumberPileModel" "readHere" "I") (by decide +kernel)
  have hiX11 : ∀ w ∈ u_ws RX11 TX11 29, w ∈ wsX11_isRowSign := fun w h => List.mem_cons_of_mem _ (List.mem_append_right _ h)
  have hf65 := hts (.fieldLink RX11 65 "NumberPileModel" "readRow" "I") (by decide +kernel)
  have hf13 := hts (.fieldLink RX11 13 "NumberPileModel" "readKinds" "[I") (by decide +kernel)
  have hf68 := hts (.fieldLink RX11 68 "NumberPileModel" "readMany" "I") (by decide +kernel)
  unfold w_X11_isRowSign at hw
  refine lv_aload_n hx hb dX11_isRowSign_0 rfl (lv_at hl 0 rfl) ?_
  refine va_get (D := (dC, dI)) (ci := 13) (v := .int (f 3)) (C := RX11) (T := TX11) (N := 29) hx hb hts hiX11 hown hK hP 0 rfl rfl 3 (by decide) hf62 (fun _ h9 => h9) rfl dX11_isRowSign_1 ?_
  refine lv_aload_n hx hb dX11_isRowSign_4 rfl (lv_at hl 0 rfl) ?_
  refine va_get (D := (dC, dI)) (ci := 13) (v := .int (f 2)) (C := RX11) (T := TX11) (N := 29) hx hb hts hiX11 hown hK hP 0 rfl rfl 2 (by decide) hf65 (fun _ h9 => h9) rfl dX11_isRowSign_5 ?_
  refine lv_icmp_ne (tgt := 50) hx hb dX11_isRowSign_8 (by decide) (fun hc1 => ?_) (fun hc1 => ?_)
  · replace hw := hw.1 hc1
    refine lv_aload_n hx hb dX11_isRowSign_50 rfl (lv_at hl 0 rfl) ?_
    refine va_get (D := (dC, dI)) (ci := 13) (v := .ref (q 5)) (C := RX11) (T := TX11) (N := 29) hx hb hts hiX11 hown hK hP 0 rfl rfl 5 (by decide) hf13 (fun _ h9 => h9) rfl dX11_isRowSign_51 ?_
    refine lv_aload_n hx hb dX11_isRowSign_54 rfl (lv_at hl 0 rfl) ?_
    refine va_get (D := (dC, dI)) (ci := 13) (v := .int (f 4)) (C := RX11) (T := TX11) (N := 29) hx hb hts hiX11 hown hK hP 0 rfl rfl 4 (by decide) hf68 (fun _ h9 => h9) rfl dX11_isRowSign_55 ?_
    refine lv_iload_n hx hb dX11_isRowSign_58 rfl (lv_at hl 1 rfl) ?_
    refine g_callP (rest := [.int (f 4), .ref (q 5)]) [.int p0] ⟨hx, hb, hml, hown, hts⟩ (t_X11_kindBy l p0 _ hw) (va_cwS 1 hts gX11_isRowSign_X11_kindBy rfl rfl rfl (by decide +kernel) ⟨Nat.le_of_ble_eq_true rfl, Nat.le_of_ble_eq_true rfl⟩) rfl hl.1 (Nat.le_of_ble_eq_true rfl) dX11_isRowSign_59 ⟨Nat.le_of_ble_eq_true rfl, Nat.le_of_ble_eq_true rfl⟩ (fun r2 hw => ?_)
    obtain ⟨hb3, hw⟩ := hw
    refine va_iast hx hb hK hP hD hS 2 0 rfl rfl hb3 dX11_isRowSign_62 (fun H locs hP hD hS => ?_)
    replace hP : va_P (dC, dI) vwCl (MW cI h q f g (va_up a 5 (upd (a 5) (f 4).toNatClampNeg r2))) H := hP
    replace hD : va_D A (MW cI h q f g (va_up a 5 (upd (a 5) (f 4).toNatClampNeg r2))) := hD
    refine lv_aload_n hx hb dX11_isRowSign_63 rfl (lv_at hl 0 rfl) ?_
    refine lv_dup hx hb dX11_isRowSign_64 rfl ?_
    refine va_get (D := (dC, dI)) (ci := 13) (v := .int (f 4)) (C := RX11) (T := TX11) (N := 29) hx hb hts hiX11 hown hK hP 0 rfl rfl 4 (by decide) hf68 (fun _ h9 => h9) rfl dX11_isRowSign_65 ?_
    refine lv_iconst (v := 1) hx hb dX11_isRowSign_68 (by decide) ?_
    refine lv_iadd hx hb dX11_isRowSign_69 ?_
    refine lv_topi (fun x4 ex4 => ?_)
    replace hw := hw x4 ex4
    refine va_put (D := (dC, dI)) (ci := 13) (v := .int x4) (ty := (.int)) (C := RX11) (T := TX11) (N := 29) hx hb hts hiX11 tyX11 tyX11_ok nmX11 hown hK hP hD hS 0 rfl rfl 4 (by decide) hf68 (fun _ h9 => h9) rfl (by decide +kernel) rfl rfl (Nat.le_of_ble_eq_true rfl) dX11_isRowSign_70 (fun H locs hP hD hS => ?_)
    replace hP : va_P (dC, dI) vwCl (MW cI h q (upd f 4 x4) g (va_up a 5 (upd (a 5) (f 4).toNatClampNeg r2))) H := hP
    replace hD : va_D A (MW cI h q (upd f 4 x4) g (va_up a 5 (upd (a 5) (f 4).toNatClampNeg r2))) := hD
    refine lv_aload_n hx hb dX11_isRowSign_73 rfl (lv_at hl 0 rfl) ?_
    refine lv_dup hx hb dX11_isRowSign_74 rfl ?_
    refine va_get (D := (dC, dI)) (ci := 13) (v := .int (f 3)) (C := RX11) (T := TX11) (N := 29) hx hb hts hiX11 hown hK hP 0 rfl rfl 3 (by decide) hf62 (fun _ h9 => h9) rfl dX11_isRowSign_75 ?_
    refine lv_iconst (v := 1) hx hb dX11_isRowSign_78 (by decide) ?_
    refine lv_iadd hx hb dX11_isRowSign_79 ?_
    refine lv_topi (fun x5 ex5 => ?_)
    replace hw := hw x5 ex5
    refine va_put (D := (dC, dI)) (ci := 13) (v := .int x5) (ty := (.int)) (C := RX11) (T := TX11) (N := 29) hx hb hts hiX11 tyX11 tyX11_ok nmX11 hown hK hP hD hS 0 rfl rfl 3 (by decide) hf62 (fun _ h9 => h9) rfl (by decide +kernel) rfl rfl (Nat.le_of_ble_eq_true rfl) dX11_isRowSign_80 (fun H locs hP hD hS => ?_)
    replace hP : va_P (dC, dI) vwCl (MW cI h q (upd (upd f 4 x4) 3 x5) g (va_up a 5 (upd (a 5) (f 4).toNatClampNeg r2))) H := hP
    replace hD : va_D A (MW cI h q (upd (upd f 4 x4) 3 x5) g (va_up a 5 (upd (a 5) (f 4).toNatClampNeg r2))) := hD
    refine lv_iload_n hx hb dX11_isRowSign_83 rfl (lv_at hl 1 rfl) ?_
    refine g_callP (rest := []) [.int p0] ⟨hx, hb, hml, hown, hts⟩ (t_X11_kindBy l p0 _ hw) (va_cwS 1 hts gX11_isRowSign_X11_kindBy rfl rfl rfl (by decide +kernel) ⟨Nat.le_of_ble_eq_true rfl, Nat.le_of_ble_eq_true rfl⟩) rfl hl.1 (Nat.le_of_ble_eq_true rfl) dX11_isRowSign_84 ⟨Nat.le_of_ble_eq_true rfl, Nat.le_of_ble_eq_true rfl⟩ (fun r6 hw => ?_)
    refine lv_iconst (v := -1) hx hb dX11_isRowSign_87 (by decide) ?_
    refine lv_icmp_eq (tgt := 95) hx hb dX11_isRowSign_88 (by decide) (fun hc7 => ?_) (fun hc7 => ?_)
    · replace hw := hw.1 hc7
      refine lv_iconst (v := 0) hx hb dX11_isRowSign_95 (by decide) ?_
      exact hret dX11_isRowSign_96 hK hP hD hS isB_0 hw
    · replace hw := hw.2 hc7
      refine lv_iconst (v := 1) hx hb dX11_isRowSign_91 (by decide) ?_
      refine lv_goto (tgt := 96) hx hb dX11_isRowSign_92 (by decide) ?_
      exact hret dX11_isRowSign_96 hK hP hD hS isB_1 hw
  · replace hw := hw.2 hc1
    refine lv_aload_n hx hb dX11_isRowSign_11 rfl (lv_at hl 0 rfl) ?_
    refine lv_dup hx hb dX11_isRowSign_12 rfl ?_
    refine va_get (D := (dC, dI)) (ci := 13) (v := .int (f 2)) (C := RX11) (T := TX11) (N := 29) hx hb hts hiX11 hown hK hP 0 rfl rfl 2 (by decide) hf65 (fun _ h9 => h9) rfl dX11_isRowSign_13 ?_
    refine lv_iconst (v := 1) hx hb dX11_isRowSign_16 (by decide) ?_
    refine lv_isub hx hb dX11_isRowSign_17 ?_
    refine lv_topi (fun x8 ex8 => ?_)
    replace hw := hw x8 ex8
    refine va_put (D := (dC, dI)) (ci := 13) (v := .int x8) (ty := (.int)) (C := RX11) (T := TX11) (N := 29) hx hb hts hiX11 tyX11 tyX11_ok nmX11 hown hK hP hD hS 0 rfl rfl 2 (by decide) hf65 (fun _ h9 => h9) rfl (by decide +kernel) rfl rfl (Nat.le_of_ble_eq_true rfl) dX11_isRowSign_18 (fun H locs hP hD hS => ?_)
    replace hP : va_P (dC, dI) vwCl (MW cI h q (upd f 2 x8) g a) H := hP
    replace hD : va_D A (MW cI h q (upd f 2 x8) g a) := hD
    refine lv_aload_n hx hb dX11_isRowSign_21 rfl (lv_at hl 0 rfl) ?_
    refine lv_iconst (v := 0) hx hb dX11_isRowSign_22 (by decide) ?_
    refine va_put (D := (dC, dI)) (ci := 13) (v := .int (0 : Int32)) (ty := (.int)) (C := RX11) (T := TX11) (N := 29) hx hb hts hiX11 tyX11 tyX11_ok nmX11 hown hK hP hD hS 0 rfl rfl 3 (by decide) hf62 (fun _ h9 => h9) rfl (by decide +kernel) rfl rfl (Nat.le_of_ble_eq_true rfl) dX11_isRowSign_23 (fun H locs hP hD hS => ?_)
    replace hP : va_P (dC, dI) vwCl (MW cI h q (upd (upd f 2 x8) 3 (0 : Int32)) g a) H := hP
    replace hD : va_D A (MW cI h q (upd (upd f 2 x8) 3 (0 : Int32)) g a) := hD
    refine lv_iload_n hx hb dX11_isRowSign_26 rfl (lv_at hl 1 rfl) ?_
    refine lv_aload_n hx hb dX11_isRowSign_27 rfl (lv_at hl 0 rfl) ?_
    refine va_get (D := (dC, dI)) (ci := 13) (v := .int x8) (C := RX11) (T := TX11) (N := 29) hx hb hts hiX11 hown hK hP 0 rfl rfl 2 (by decide) hf65 (fun _ h9 => h9) rfl dX11_isRowSign_28 ?_
    replace hw := hw (fun (x9 : Int32) => ∀ (H : Heap) (locs : List Loc) (ls : Array Slot), va_P (dC, dI) vwCl (MW cI h q (upd (upd f 2 x8) 3 (0 : Int32)) g a) H → va_D A (MW cI h q (upd (upd f 2 x8) 3 (0 : Int32)) g a) → va_S A s.heap H locs → lv_has ls 2 [] → W p l e rmX11_isRowSign s m args below meth c H locs 0 0 Q (F0 m 41 ls [.int x9, .int p0])) (by
      intro x9 hw H locs ls hP hD hS hl
      refine lv_icmp_ne (tgt := 48) hx hb dX11_isRowSign_41 (by decide) (fun hc11 => ?_) (fun hc11 => ?_)
      · replace hw := hw.1 hc11
        refine lv_iconst (v := 0) hx hb dX11_isRowSign_48 (by decide) ?_
        exact hret dX11_isRowSign_49 hK hP hD hS isB_0 hw
      · replace hw := hw.2 hc11
        refine lv_iconst (v := 1) hx hb dX11_isRowSign_44 (by decide) ?_
        refine lv_goto (tgt := 49) hx hb dX11_isRowSign_45 (by decide) ?_
        exact hret dX11_isRowSign_49 hK hP hD hS isB_1 hw)
    refine lv_if_ne (tgt := 39) hx hb dX11_isRowSign_31 (by decide) (fun hc12 => ?_) (fun hc12 => ?_)
    · replace hw := hw.1 hc12
      refine lv_bipush (v := 44) hx hb dX11_isRowSign_39 (by decide) ?_
      exact hw H locs ls hP hD hS (lv_sub hl [] rfl)
    · replace hw := hw.2 hc12
      refine lv_bipush (v := 59) hx hb dX11_isRowSign_34 (by decide) ?_
      refine lv_goto (tgt := 41) hx hb dX11_isRowSign_36 (by decide) ?_
      exact hw H locs ls hP hD hS (lv_sub hl [] rfl)

def w_X11_isFigureSign (f : Nat → Int32) (g : Int64) (a : Nat → Nat → Int32) (p0 : Int32) (Q : Int32 → MSt → Prop) : Prop := ∀ x1 : Int32, x1 = ((f 3) + (1 : Int32)) → w_X11_in (p0.toInt64) (48 : Int64) (57 : Int64) (fun (r2 : Int32) => (((r2 = 0) → Q (0 : Int32) ((upd f 3 x1), g, a)) ∧ (¬ (r2 = 0) → (vp_in (0 : Int32) 18) ∧ ((((((a 0) (0 : Int32).toNatClampNeg) - (48 : Int32)) < x1) → Q (0 : Int32) ((upd f 3 x1), g, a)) ∧ (¬ ((((a 0) (0 : Int32).toNatClampNeg) - (48 : Int32)) < x1) → Q (1 : Int32) ((upd f 3 x1), g, a))))))
abbrev rmX11_isFigureSign : Room := { frames := 1, cells := 0, slots := 0, locals := 25 }
set_option maxHeartbeats 4000000 in
set_option maxRecDepth 100000 in
theorem t_X11_isFigureSign (l : Launch) (dC : Nat → ClassId) (dI : Nat → Nat → Nat) (cI : ClassId) (h : Nat) (q : Nat → Nat) (sz : Nat) (f : Nat → Int32) (g : Int64) (a : Nat → Nat → Int32) (p0 : Int32) (Q0 : Int32 → MSt → Prop) (hw : w_X11_isFigureSign f g a p0 Q0) : Met l yX11_isFigureSign wsX11_isFigureSign rmX11_isFigureSign (g_pre g_T (dC, dI) vwCl [(cI, .int)] (MW cI h q f g a) sz [.ref h, .int p0]) (g_qi (dC, dI) vwCl [(cI, .int)] (MWu cI h q) Q0 (va_A (MW cI h q f g a) sz)) 0 0 (va_A (MW cI h q f g a) sz) := by
  refine g_startz (by decide) rfl (Nat.le_of_ble_eq_true rfl) ?_
  intro p e s m args below meth c A Q ls hx hb hml hown hts hin hK hP hD hA hS hZ hret hl
  obtain ⟨H, eH⟩ : ∃ H : Heap, H = s.heap := ⟨_, rfl⟩
  obtain ⟨locs, eL⟩ : ∃ L : List Loc, L = [] := ⟨_, rfl⟩
  have hS : va_S A s.heap H locs := by rw [eH, eL]; exact hS
  rw [← eH] at hP
  suffices hg : W p l e rmX11_isFigureSign s m args below meth c H locs 0 0 Q (F0 m 0 ls []) by rw [eH, eL] at hg; exact hg
  clear eH eL
  replace hl : lv_has ls 2 [(0, .ref h), (1, .int p0)] := hl
  have hf62 := hts (.fieldLink RX11 62 "NumberPileModel" "readHere" "I") (by decide +kernel)
  have hiX11 : ∀ w ∈ u_ws RX11 TX11 29, w ∈ wsX11_isFigureSign := fun w h => List.mem_cons_of_mem _ (List.mem_append_right _ h)
  have kc75 := hts (.constantLong RX11 75 (48)) (by decide +kernel)
  have kc77 := hts (.constantLong RX11 77 (57)) (by decide +kernel)
  have hf7 := hts (.fieldLink RX11 7 "NumberPileModel" "page" "[I") (by decide +kernel)
  unfold w_X11_isFigureSign at hw
  refine lv_aload_n hx hb dX11_isFigureSign_0 rfl (lv_at hl 0 rfl) ?_
  refine lv_dup hx hb dX11_isFigureSign_1 rfl ?_
  refine va_get (D := (dC, dI)) (ci := 13) (v := .int (f 3)) (C := RX11) (T := TX11) (N := 29) hx hb hts hiX11 hown hK hP 0 rfl rfl 3 (by decide) hf62 (fun _ h9 => h9) rfl dX11_isFigureSign_2 ?_
  refine lv_iconst (v := 1) hx hb dX11_isFigureSign_5 (by decide) ?_
  refine lv_iadd hx hb dX11_isFigureSign_6 ?_
  refine lv_topi (fun x1 ex1 => ?_)
  replace hw := hw x1 ex1
  refine va_put (D := (dC, dI)) (ci := 13) (v := .int x1) (ty := (.int)) (C := RX11) (T := TX11) (N := 29) hx hb hts hiX11 tyX11 tyX11_ok nmX11 hown hK hP hD hS 0 rfl rfl 3 (by decide) hf62 (fun _ h9 => h9) rfl (by decide +kernel) rfl rfl (Nat.le_of_ble_eq_true rfl) dX11_isFigureSign_7 (fun H locs hP hD hS => ?_)
  replace hP : va_P (dC, dI) vwCl (MW cI h q (upd f 3 x1) g a) H := hP
  replace hD : va_D A (MW cI h q (upd f 3 x1) g a) := hD
  refine lv_iload_n hx hb dX11_isFigureSign_10 rfl (lv_at hl 1 rfl) ?_
  refine lv_i2l hx hb dX11_isFigureSign_11 rfl ?_
  refine lv_ldc2 hx hb hown kc75 dX11_isFigureSign_12 ?_
  refine lv_ldc2 hx hb hown kc77 dX11_isFigureSign_15 ?_
  refine g_callP (rest := []) [.long (p0.toInt64), .long (48 : Int64), .long (57 : Int64)] ⟨hx, hb, hml, hown, hts⟩ (t_X11_in l (p0.toInt64) (48 : Int64) (57 : Int64) _ hw) (va_cwS 3 hts gX11_isFigureSign_X11_in rfl rfl rfl (by decide +kernel) ⟨Nat.le_of_ble_eq_true rfl, Nat.le_of_ble_eq_true rfl⟩) rfl hl.1 (Nat.le_of_ble_eq_true rfl) dX11_isFigureSign_18 ⟨Nat.le_of_ble_eq_true rfl, Nat.le_of_ble_eq_true rfl⟩ (fun r2 hw => ?_)
  refine lv_if_eq (tgt := 44) hx hb dX11_isFigureSign_21 (by decide) (fun hc3 => ?_) (fun hc3 => ?_)
  · replace hw := hw.1 hc3
    refine lv_iconst (v := 0) hx hb dX11_isFigureSign_44 (by decide) ?_
    exact hret dX11_isFigureSign_45 hK hP hD hS isB_0 hw
  · replace hw := hw.2 hc3
    refine lv_aload_n hx hb dX11_isFigureSign_24 rfl (lv_at hl 0 rfl) ?_
    refine va_get (D := (dC, dI)) (ci := 13) (v := .int x1) (C := RX11) (T := TX11) (N := 29) hx hb hts hiX11 hown hK hP 0 rfl rfl 3 (by decide) hf62 (fun _ h9 => h9) rfl dX11_isFigureSign_25 ?_
    refine lv_aload_n hx hb dX11_isFigureSign_28 rfl (lv_at hl 0 rfl) ?_
    refine va_get (D := (dC, dI)) (ci := 13) (v := .ref (q 0)) (C := RX11) (T := TX11) (N := 29) hx hb hts hiX11 hown hK hP 0 rfl rfl 0 (by decide) hf7 (fun _ h9 => h9) rfl dX11_isFigureSign_29 ?_
    refine lv_iconst (v := 0) hx hb dX11_isFigureSign_32 (by decide) ?_
    obtain ⟨hb4, hw⟩ := hw
    refine va_iald hx hb hK hP 1 0 rfl rfl hb4 dX11_isFigureSign_33 ?_
    refine lv_bipush (v := 48) hx hb dX11_isFigureSign_34 (by decide) ?_
    refine lv_isub hx hb dX11_isFigureSign_36 ?_
    refine lv_icmp_gt (tgt := 44) hx hb dX11_isFigureSign_37 (by decide) (fun hc5 => ?_) (fun hc5 => ?_)
    · replace hw := hw.1 hc5
      refine lv_iconst (v := 0) hx hb dX11_isFigureSign_44 (by decide) ?_
      exact hret dX11_isFigureSign_45 hK hP hD hS isB_0 hw
    · replace hw := hw.2 hc5
      refine lv_iconst (v := 1) hx hb dX11_isFigureSign_40 (by decide) ?_
      refine lv_goto (tgt := 45) hx hb dX11_isFigureSign_41 (by decide) ?_
      exact hret dX11_isFigureSign_45 hK hP hD hS isB_1 hw

def w_X11_isGood (f : Nat → Int32) (g : Int64) (a : Nat → Nat → Int32) (p0 : Int32) (Q : Int32 → MSt → Prop) : Prop := (vp_in p0 18) ∧ ∀ x2 : Int32, x2 = ((a 0) p0.toNatClampNeg) → ((p0 = 0 → ∀ x4 : Int32, x4 = ((x2 - (48 : Int32)) - (1 : Int32)) → ∀ x5 : Int32, x5 = (x2 - (48 : Int32)) → w_X11_in (x2.toInt64) (50 : Int64) (52 : Int64) (fun (r6 : Int32) => isB r6 ∧ Q r6 ((upd (upd (upd f 2 x4) 3 (0 : Int32)) 4 x5), g, a))) ∧ (¬ p0 = 0 → ((p0 = 1 → (((¬ x2 = (59 : Int32)) → Q (0 : Int32) (f, g, a)) ∧ (x2 = (59 : Int32) → Q (1 : Int32) (f, g, a)))) ∧ (¬ p0 = 1 → ((((f 2) ≤ 0) → w_X11_isFigureSign f g a x2 (fun (r11 : Int32) (u10 : MSt) => isB r11 ∧ Q r11 u10)) ∧ (¬ ((f 2) ≤ 0) → w_X11_isRowSign f g a x2 (fun (r13 : Int32) (u12 : MSt) => isB r13 ∧ Q r13 u12)))))))
abbrev rmX11_isGood : Room := { frames := 2, cells := 0, slots := 0, locals := 46 }
set_option maxHeartbeats 4000000 in
set_option maxRecDepth 100000 in
theorem t_X11_isGood (l : Launch) (dC : Nat → ClassId) (dI : Nat → Nat → Nat) (cI : ClassId) (h : Nat) (q : Nat → Nat) (sz : Nat) (f : Nat → Int32) (g : Int64) (a : Nat → Nat → Int32) (p0 : Int32) (Q0 : Int32 → MSt → Prop) (hw : w_X11_isGood f g a p0 Q0) : Met l yX11_isGood wsX11_isGood rmX11_isGood (g_pre g_T (dC, dI) vwCl [(cI, .int)] (MW cI h q f g a) sz [.ref h, .int p0]) (g_qi (dC, dI) vwCl [(cI, .int)] (MWu cI h q) Q0 (va_A (MW cI h q f g a) sz)) 0 0 (va_A (MW cI h q f g a) sz) := by
  refine g_startz (by decide) rfl (Nat.le_of_ble_eq_true rfl) ?_
  intro p e s m args below meth c A Q ls hx hb hml hown hts hin hK hP hD hA hS hZ hret hl
  obtain ⟨H, eH⟩ : ∃ H : Heap, H = s.heap := ⟨_, rfl⟩
  obtain ⟨locs, eL⟩ : ∃ L : List Loc, L = [] := ⟨_, rfl⟩
  have hS : va_S A s.heap H locs := by rw [eH, eL]; exact hS
  rw [← eH] at hP
  suffices hg : W p l e rmX11_isGood s m args below meth c H locs 0 0 Q (F0 m 0 ls []) by rw [eH, eL] at hg; exact hg
  clear eH eL
  replace hl : lv_has ls 3 [(0, .ref h), (1, .int p0)] := hl
  have hf7 := hts (.fieldLink RX11 7 "NumberPileModel" "page" "[I") (by decide +kernel)
  have hiX11 : ∀ w ∈ u_ws RX11 TX11 29, w ∈ wsX11_isGood := fun w h => List.mem_cons_of_mem _ (List.mem_append_right _ h)
  have hf65 := hts (.fieldLink RX11 65 "NumberPileModel" "readRow" "I") (by decide +kernel)
  have hf62 := hts (.fieldLink RX11 62 "NumberPileModel" "readHere" "I") (by decide +kernel)
  have hf68 := hts (.fieldLink RX11 68 "NumberPileModel" "readMany" "I") (by decide +kernel)
  have kc79 := hts (.constantLong RX11 79 (50)) (by decide +kernel)
  have kc81 := hts (.constantLong RX11 81 (52)) (by decide +kernel)
  unfold w_X11_isGood at hw
  refine lv_aload_n hx hb dX11_isGood_0 rfl (lv_at hl 0 rfl) ?_
  refine va_get (D := (dC, dI)) (ci := 13) (v := .ref (q 0)) (C := RX11) (T := TX11) (N := 29) hx hb hts hiX11 hown hK hP 0 rfl rfl 0 (by decide) hf7 (fun _ h9 => h9) rfl dX11_isGood_1 ?_
  refine lv_iload_n hx hb dX11_isGood_4 rfl (lv_at hl 1 rfl) ?_
  obtain ⟨hb1, hw⟩ := hw
  refine va_iald hx hb hK hP 1 0 rfl rfl hb1 dX11_isGood_5 ?_
  refine lv_topi (fun x2 ex2 => ?_)
  replace hw := hw x2 ex2
  refine lv_istore_n (lv' := [(2, .int x2), (0, .ref h), (1, .int p0)]) hx hb dX11_isGood_6 rfl hl (by decide) rfl (fun ls hl => ?_)
  refine lv_iload_n hx hb dX11_isGood_7 rfl (lv_at hl 2 rfl) ?_
  by_cases hc3 : p0 = 0
  · replace hw := hw.1 hc3
    refine lv_lookup (tgt := 36) (off := 28) hx hb dX11_isGood_8 (by decide) (by rw [hc3]; first | done | rfl) (by decide) ?_
    refine lv_aload_n hx hb dX11_isGood_36 rfl (lv_at hl 1 rfl) ?_
    refine lv_iload_n hx hb dX11_isGood_37 rfl (lv_at hl 0 rfl) ?_
    refine lv_bipush (v := 48) hx hb dX11_isGood_38 (by decide) ?_
    refine lv_isub hx hb dX11_isGood_40 ?_
    refine lv_iconst (v := 1) hx hb dX11_isGood_41 (by decide) ?_
    refine lv_isub hx hb dX11_isGood_42 ?_
    refine lv_topi (fun x4 ex4 => ?_)
    replace hw := hw x4 ex4
    refine va_put (D := (dC, dI)) (ci := 13) (v := .int x4) (ty := (.int)) (C := RX11) (T := TX11) (N := 29) hx hb hts hiX11 tyX11 tyX11_ok nmX11 hown hK hP hD hS 0 rfl rfl 2 (by decide) hf65 (fun _ h9 => h9) rfl (by decide +kernel) rfl rfl (Nat.le_of_ble_eq_true rfl) dX11_isGood_43 (fun H locs hP hD hS => ?_)
    replace hP : va_P (dC, dI) vwCl (MW cI h q (upd f 2 x4) g a) H := hP
    replace hD : va_D A (MW cI h q (upd f 2 x4) g a) := hD
    refine lv_aload_n hx hb dX11_isGood_46 rfl (lv_at hl 1 rfl) ?_
    refine lv_iconst (v := 0) hx hb dX11_isGood_47 (by decide) ?_
    refine va_put (D := (dC, dI)) (ci := 13) (v := .int (0 : Int32)) (ty := (.int)) (C := RX11) (T := TX11) (N := 29) hx hb hts hiX11 tyX11 tyX11_ok nmX11 hown hK hP hD hS 0 rfl rfl 3 (by decide) hf62 (fun _ h9 => h9) rfl (by decide +kernel) rfl rfl (Nat.le_of_ble_eq_true rfl) dX11_isGood_48 (fun H locs hP hD hS => ?_)
    replace hP : va_P (dC, dI) vwCl (MW cI h q (upd (upd f 2 x4) 3 (0 : Int32)) g a) H := hP
    replace hD : va_D A (MW cI h q (upd (upd f 2 x4) 3 (0 : Int32)) g a) := hD
    refine lv_aload_n hx hb dX11_isGood_51 rfl (lv_at hl 1 rfl) ?_
    refine lv_iload_n hx hb dX11_isGood_52 rfl (lv_at hl 0 rfl) ?_
    refine lv_bipush (v := 48) hx hb dX11_isGood_53 (by decide) ?_
    refine lv_isub hx hb dX11_isGood_55 ?_
    refine lv_topi (fun x5 ex5 => ?_)
    replace hw := hw x5 ex5
    refine va_put (D := (dC, dI)) (ci := 13) (v := .int x5) (ty := (.int)) (C := RX11) (T := TX11) (N := 29) hx hb hts hiX11 tyX11 tyX11_ok nmX11 hown hK hP hD hS 0 rfl rfl 4 (by decide) hf68 (fun _ h9 => h9) rfl (by decide +kernel) rfl rfl (Nat.le_of_ble_eq_true rfl) dX11_isGood_56 (fun H locs hP hD hS => ?_)
    replace hP : va_P (dC, dI) vwCl (MW cI h q (upd (upd (upd f 2 x4) 3 (0 : Int32)) 4 x5) g a) H := hP
    replace hD : va_D A (MW cI h q (upd (upd (upd f 2 x4) 3 (0 : Int32)) 4 x5) g a) := hD
    refine lv_iload_n hx hb dX11_isGood_59 rfl (lv_at hl 0 rfl) ?_
    refine lv_i2l hx hb dX11_isGood_60 rfl ?_
    refine lv_ldc2 hx hb hown kc79 dX11_isGood_61 ?_
    refine lv_ldc2 hx hb hown kc81 dX11_isGood_64 ?_
    refine g_callP (rest := []) [.long (x2.toInt64), .long (50 : Int64), .long (52 : Int64)] ⟨hx, hb, hml, hown, hts⟩ (t_X11_in l (x2.toInt64) (50 : Int64) (52 : Int64) _ hw) (va_cwS 3 hts gX11_isGood_X11_in rfl rfl rfl (by decide +kernel) ⟨Nat.le_of_ble_eq_true rfl, Nat.le_of_ble_eq_true rfl⟩) rfl hl.1 (Nat.le_of_ble_eq_true rfl) dX11_isGood_67 ⟨Nat.le_of_ble_eq_true rfl, Nat.le_of_ble_eq_true rfl⟩ (fun r6 hw => ?_)
    obtain ⟨hz, hw⟩ := hw
    exact hret dX11_isGood_70 hK hP hD hS hz hw
  · replace hw := hw.2 hc3
    by_cases hc7 : p0 = 1
    · replace hw := hw.1 hc7
      refine lv_lookup (tgt := 71) (off := 63) hx hb dX11_isGood_8 (by decide) (by rw [hc7]; first | done | rfl) (by decide) ?_
      refine lv_iload_n hx hb dX11_isGood_71 rfl (lv_at hl 0 rfl) ?_
      refine lv_bipush (v := 59) hx hb dX11_isGood_72 (by decide) ?_
      refine lv_icmp_ne (tgt := 81) hx hb dX11_isGood_74 (by decide) (fun hc8 => ?_) (fun hc8 => ?_)
      · replace hw := hw.1 hc8
        refine lv_iconst (v := 0) hx hb dX11_isGood_81 (by decide) ?_
        exact hret dX11_isGood_82 hK hP hD hS isB_0 hw
      · replace hw := hw.2 hc8
        refine lv_iconst (v := 1) hx hb dX11_isGood_77 (by decide) ?_
        refine lv_goto (tgt := 82) hx hb dX11_isGood_78 (by decide) ?_
        exact hret dX11_isGood_82 hK hP hD hS isB_1 hw
    · replace hw := hw.2 hc7
      refine lv_lookup (tgt := 83) (off := 75) hx hb dX11_isGood_8 (by decide) (by show Op.lookupswitch.offset [(0, 28), (1, 63)] 75 _ = _; rw [lv_osw (a := 0) hc3 (by decide), lv_osw (a := 1) hc7 (by decide)]; first | done | rfl) (by decide) ?_
      refine lv_aload_n hx hb dX11_isGood_83 rfl (lv_at hl 1 rfl) ?_
      refine va_get (D := (dC, dI)) (ci := 13) (v := .int (f 2)) (C := RX11) (T := TX11) (N := 29) hx hb hts hiX11 hown hK hP 0 rfl rfl 2 (by decide) hf65 (fun _ h9 => h9) rfl dX11_isGood_84 ?_
      refine lv_if_le (tgt := 98) hx hb dX11_isGood_87 (by decide) (fun hc9 => ?_) (fun hc9 => ?_)
      · replace hw := hw.1 hc9
        refine lv_aload_n hx hb dX11_isGood_98 rfl (lv_at hl 1 rfl) ?_
        refine lv_iload_n hx hb dX11_isGood_99 rfl (lv_at hl 0 rfl) ?_
        refine g_callVi (rest := []) (W2 := (MWu cI h q)) [.int x2] [0, 1, 2, 3, 4, 5, 6, 7, 8, 9, 10, 11, 12, 13] [] [0] [0, 1, 2, 3, 4, 5, 6, 7, 8, 9, 10, 11, 12, 13] g_Tb (fun _ _ _ _ => trivial) ⟨hx, hb, hml, hown, hts⟩ (t_X11_isFigureSign l dC dI cI h q H.size f g a x2 _ hw) (cwV 1 hts gX11_isGood_X11_isFigureSign rfl rfl rfl (by decide +kernel) ⟨Nat.le_of_ble_eq_true rfl, Nat.le_of_ble_eq_true rfl⟩) hK hP hD hS hA rfl (by decide) (wr := []) rfl (by decide) (by decide) rfl (fun _ => rfl) (by decide) (q0 := 0) rfl rfl rfl hl.1 (Nat.le_of_ble_eq_true rfl) dX11_isGood_100 ⟨Nat.le_of_ble_eq_true rfl, Nat.le_of_ble_eq_true rfl⟩ (fun r11 u10 H locs hw hP hD hS => ?_)
        obtain ⟨hz, hw⟩ := hw
        exact hret dX11_isGood_103 hK hP hD hS hz hw
      · replace hw := hw.2 hc9
        refine lv_aload_n hx hb dX11_isGood_90 rfl (lv_at hl 1 rfl) ?_
        refine lv_iload_n hx hb dX11_isGood_91 rfl (lv_at hl 0 rfl) ?_
        refine g_callVi (rest := []) (W2 := (MWu cI h q)) [.int x2] [0, 1, 2, 3, 4, 5, 6, 7, 8, 9, 10, 11, 12, 13] [] [0] [0, 1, 2, 3, 4, 5, 6, 7, 8, 9, 10, 11, 12, 13] g_Tb (fun _ _ _ _ => trivial) ⟨hx, hb, hml, hown, hts⟩ (t_X11_isRowSign l dC dI cI h q H.size f g a x2 _ hw) (cwV 1 hts gX11_isGood_X11_isRowSign rfl rfl rfl (by decide +kernel) ⟨Nat.le_of_ble_eq_true rfl, Nat.le_of_ble_eq_true rfl⟩) hK hP hD hS hA rfl (by decide) (wr := []) rfl (by decide) (by decide) rfl (fun _ => rfl) (by decide) (q0 := 0) rfl rfl rfl hl.1 (Nat.le_of_ble_eq_true rfl) dX11_isGood_92 ⟨Nat.le_of_ble_eq_true rfl, Nat.le_of_ble_eq_true rfl⟩ (fun r13 u12 H locs hw hP hD hS => ?_)
        refine lv_goto (tgt := 103) hx hb dX11_isGood_95 (by decide) ?_
        obtain ⟨hz, hw⟩ := hw
        exact hret dX11_isGood_103 hK hP hD hS hz hw

def w_X11_faultOf (f : Nat → Int32) (g : Int64) (a : Nat → Nat → Int32)  (Q : Int32 → MSt → Prop) : Prop := (∀ X3 : Int32 → MSt → Prop, (∀ (x1 : Int32) (u2 : MSt), (((((u2.1 1) ≤ x1) → Q x1 u2) ∧ (¬ ((u2.1 1) ≤ x1) → w_X11_isGood u2.1 (u2.2.1) u2.2.2 x1 (fun (r6 : Int32) (u5 : MSt) => (((r6 = 0) → Q x1 u5) ∧ (¬ (r6 = 0) → ∀ x8 : Int32, x8 = x1 + (1 : Int32) → X3 x8 u5)))))) → X3 x1 u2) → X3 (0 : Int32) (f, g, a))
abbrev rmX11_faultOf : Room := { frames := 3, cells := 0, slots := 0, locals := 68 }
set_option maxHeartbeats 4000000 in
set_option maxRecDepth 100000 in
theorem t_X11_faultOf (l : Launch) (dC : Nat → ClassId) (dI : Nat → Nat → Nat) (cI : ClassId) (h : Nat) (q : Nat → Nat) (sz : Nat) (f : Nat → Int32) (g : Int64) (a : Nat → Nat → Int32)  (Q0 : Int32 → MSt → Prop) (hw : w_X11_faultOf f g a  Q0) : Met l yX11_faultOf wsX11_faultOf rmX11_faultOf (g_pre g_T (dC, dI) vwCl [(cI, .int)] (MW cI h q f g a) sz [.ref h]) (g_qi (dC, dI) vwCl [(cI, .int)] (MWu cI h q) Q0 (va_A (MW cI h q f g a) sz)) 0 0 (va_A (MW cI h q f g a) sz) := by
  refine g_starti (by decide) rfl (Nat.le_of_ble_eq_true rfl) ?_
  intro p e s m args below meth c A Q ls hx hb hml hown hts hin hK hP hD hA hS hZ hret hl
  obtain ⟨H, eH⟩ : ∃ H : Heap, H = s.heap := ⟨_, rfl⟩
  obtain ⟨locs, eL⟩ : ∃ L : List Loc, L = [] := ⟨_, rfl⟩
  have hS : va_S A s.heap H locs := by rw [eH, eL]; exact hS
  rw [← eH] at hP
  suffices hg : W p l e rmX11_faultOf s m args below meth c H locs 0 0 Q (F0 m 0 ls []) by rw [eH, eL] at hg; exact hg
  clear eH eL
  replace hl : lv_has ls 2 [(0, .ref h)] := hl
  have hf59 := hts (.fieldLink RX11 59 "NumberPileModel" "pageMany" "I") (by decide +kernel)
  have hiX11 : ∀ w ∈ u_ws RX11 TX11 29, w ∈ wsX11_faultOf := fun w h => List.mem_cons_of_mem _ (List.mem_append_right _ h)
  unfold w_X11_faultOf at hw
  refine lv_iconst (v := 0) hx hb dX11_faultOf_0 (by decide) ?_
  refine lv_istore_n (lv' := [(1, .int (0 : Int32)), (0, .ref h)]) hx hb dX11_faultOf_1 rfl hl (by decide) rfl (fun ls hl => ?_)
  refine hw (fun (x1 : Int32) (u2 : MSt) => ∀ (H : Heap) (locs : List Loc) (ls : Array Slot), va_P (dC, dI) vwCl (MW cI h q u2.1 (u2.2.1) u2.2.2) H → va_D A (MW cI h q u2.1 (u2.2.1) u2.2.2) → va_S A s.heap H locs → lv_has ls 2 [(0, .ref h), (1, .int x1)] → W p l e rmX11_faultOf s m args below meth c H locs 0 0 Q (F0 m 2 ls [])) ?_ H locs ls hP hD hS (lv_sub hl [1, 0] rfl)
  · intro x1 u2 hw H locs ls hP hD hS hl
    refine lv_iload_n hx hb dX11_faultOf_2 rfl (lv_at hl 1 rfl) ?_
    refine lv_aload_n hx hb dX11_faultOf_3 rfl (lv_at hl 0 rfl) ?_
    refine va_get (D := (dC, dI)) (ci := 13) (v := .int (u2.1 1)) (C := RX11) (T := TX11) (N := 29) hx hb hts hiX11 hown hK hP 0 rfl rfl 1 (by decide) hf59 (fun _ h9 => h9) rfl dX11_faultOf_4 ?_
    refine lv_icmp_ge (tgt := 24) hx hb dX11_faultOf_7 (by decide) (fun hc4 => ?_) (fun hc4 => ?_)
    · replace hw := hw.1 hc4
      refine lv_iload_n hx hb dX11_faultOf_24 rfl (lv_at hl 1 rfl) ?_
      exact hret dX11_faultOf_25 hK hP hD hS hw
    · replace hw := hw.2 hc4
      refine lv_aload_n hx hb dX11_faultOf_10 rfl (lv_at hl 0 rfl) ?_
      refine lv_iload_n hx hb dX11_faultOf_11 rfl (lv_at hl 1 rfl) ?_
      refine g_callVi (rest := []) (W2 := (MWu cI h q)) [.int x1] [0, 1, 2, 3, 4, 5, 6, 7, 8, 9, 10, 11, 12, 13] [] [0] [0, 1, 2, 3, 4, 5, 6, 7, 8, 9, 10, 11, 12, 13] g_Tb (fun _ _ _ _ => trivial) ⟨hx, hb, hml, hown, hts⟩ (t_X11_isGood l dC dI cI h q H.size u2.1 (u2.2.1) u2.2.2 x1 _ hw) (cwV 1 hts gX11_faultOf_X11_isGood rfl rfl rfl (by decide +kernel) ⟨Nat.le_of_ble_eq_true rfl, Nat.le_of_ble_eq_true rfl⟩) hK hP hD hS hA rfl (by decide) (wr := []) rfl (by decide) (by decide) rfl (fun _ => rfl) (by decide) (q0 := 0) rfl rfl rfl hl.1 (Nat.le_of_ble_eq_true rfl) dX11_faultOf_12 ⟨Nat.le_of_ble_eq_true rfl, Nat.le_of_ble_eq_true rfl⟩ (fun r6 u5 H locs hw hP hD hS => ?_)
      refine lv_if_eq (tgt := 24) hx hb dX11_faultOf_15 (by decide) (fun hc7 => ?_) (fun hc7 => ?_)
      · replace hw := hw.1 hc7
        refine lv_iload_n hx hb dX11_faultOf_24 rfl (lv_at hl 1 rfl) ?_
        exact hret dX11_faultOf_25 hK hP hD hS hw
      · replace hw := hw.2 hc7
        obtain ⟨x8, ex8⟩ : ∃ y : Int32, y = x1 + (1 : Int32) := ⟨_, rfl⟩
        replace hw := hw x8 ex8
        refine lv_iinc (v := x8) (lv' := [(1, .int x8), (0, .ref h)]) hx hb dX11_faultOf_18 hl (k := 1) rfl (by rw [ex8]; rfl) (by decide) rfl (fun ls hl => ?_)
        refine lv_goto (tgt := 2) hx hb dX11_faultOf_21 (by decide) ?_
        exact hw H locs ls hP hD hS (lv_sub hl [1, 0] rfl)

def w_X11_fault (f : Nat → Int32) (g : Int64) (a : Nat → Nat → Int32)  (Q : Int32 → MSt → Prop) : Prop := w_X11_faultOf f g a (fun (r2 : Int32) (u1 : MSt) => Q r2 u1)
abbrev rmX11_fault : Room := { frames := 4, cells := 0, slots := 0, locals := 89 }
set_option maxHeartbeats 4000000 in
set_option maxRecDepth 100000 in
theorem t_X11_fault (l : Launch) (dC : Nat → ClassId) (dI : Nat → Nat → Nat) (cI : ClassId) (h : Nat) (q : Nat → Nat) (sz : Nat) (f : Nat → Int32) (g : Int64) (a : Nat → Nat → Int32)  (Q0 : Int32 → MSt → Prop) (hw : w_X11_fault f g a  Q0) : Met l yX11_fault wsX11_fault rmX11_fault (g_pre g_T (dC, dI) vwCl [(cI, .int)] (MW cI h q f g a) sz [.ref h]) (g_qi (dC, dI) vwCl [(cI, .int)] (MWu cI h q) Q0 (va_A (MW cI h q f g a) sz)) 0 0 (va_A (MW cI h q f g a) sz) := by
  refine g_starti (by decide) rfl (Nat.le_of_ble_eq_true rfl) ?_
  intro p e s m args below meth c A Q ls hx hb hml hown hts hin hK hP hD hA hS hZ hret hl
  obtain ⟨H, eH⟩ : ∃ H : Heap, H = s.heap := ⟨_, rfl⟩
  obtain ⟨locs, eL⟩ : ∃ L : List Loc, L = [] := ⟨_, rfl⟩
  have hS : va_S A s.heap H locs := by rw [eH, eL]; exact hS
  rw [← eH] at hP
  suffices hg : W p l e rmX11_fault s m args below meth c H locs 0 0 Q (F0 m 0 ls []) by rw [eH, eL] at hg; exact hg
  clear eH eL
  replace hl : lv_has ls 1 [(0, .ref h)] := hl
  unfold w_X11_fault at hw
  refine lv_aload_n hx hb dX11_fault_0 rfl (lv_at hl 0 rfl) ?_
  refine g_callVi (rest := []) (W2 := (MWu cI h q)) [] [0, 1, 2, 3, 4, 5, 6, 7, 8, 9, 10, 11, 12, 13] [] [0] [0, 1, 2, 3, 4, 5, 6, 7, 8, 9, 10, 11, 12, 13] g_Tb (fun _ _ _ _ => trivial) ⟨hx, hb, hml, hown, hts⟩ (t_X11_faultOf l dC dI cI h q H.size f g a _ hw) (cwV 0 hts gX11_fault_X11_faultOf rfl rfl rfl (by decide +kernel) ⟨Nat.le_of_ble_eq_true rfl, Nat.le_of_ble_eq_true rfl⟩) hK hP hD hS hA rfl (by decide) (wr := []) rfl (by decide) (by decide) rfl (fun _ => rfl) (by decide) (q0 := 0) rfl rfl rfl hl.1 (Nat.le_of_ble_eq_true rfl) dX11_fault_1 ⟨Nat.le_of_ble_eq_true rfl, Nat.le_of_ble_eq_true rfl⟩ (fun r2 u1 H locs hw hP hD hS => ?_)
  exact hret dX11_fault_4 hK hP hD hS hw

def w_X11_pile (f : Nat → Int32) (g : Int64) (a : Nat → Nat → Int32)  (Q : Int32 → MSt → Prop) : Prop := ((((f 1) < (2 : Int32)) → Q (-103 : Int32) (f, g, a)) ∧ (¬ ((f 1) < (2 : Int32)) → w_X11_faultOf f g a (fun (r3 : Int32) (u2 : MSt) => (((r3 < (u2.1 1)) → Q (-103 : Int32) u2) ∧ (¬ (r3 < (u2.1 1)) → (((¬ (u2.1 2) = 0) → Q (-103 : Int32) u2) ∧ ((u2.1 2) = 0 → (vp_in (0 : Int32) 18) ∧ ((((u2.1 3) = (((u2.2.2 0) (0 : Int32).toNatClampNeg) - (48 : Int32))) → (vp_in (0 : Int32) 18) ∧ ∀ x9 : Int32, x9 = (((u2.2.2 0) (0 : Int32).toNatClampNeg) - (48 : Int32)) → w_X11_bricksOf x9 (fun (r10 : Int32) => w_X11_copy 10 10 (u2.2.2 5) (u2.2.2 10) (fun (u11 : (Nat → Int32) × (Nat → Int32)) => (∀ X14 : Int32 → MSt → Prop, (∀ (x12 : Int32) (u13 : MSt), (((((u13.1 6) ≤ x12) → (∀ X18 : Int32 → MSt → Prop, (∀ (x16 : Int32) (u17 : MSt), (((((10 : Int32) ≤ x16) → ∀ x20 : Int32, x20 = ((u17.1 9) + (1 : Int32)) → Q (u17.1 7) ((upd (upd (upd (upd u17.1 8 (0 : Int32)) 18 (0 : Int32)) 9 x20) 1 (0 : Int32)), u17.2.1, u17.2.2)) ∧ (¬ ((10 : Int32) ≤ x16) → (vp_in x16 10) ∧ ∀ x22 : Int32, x22 = x16 + (1 : Int32) → X18 x22 (u17.1, u17.2.1, (va_up u17.2.2 12 (upd (u17.2.2 12) x16.toNatClampNeg (-1 : Int32))))))) → X18 x16 u17) → X18 (0 : Int32) u13)) ∧ (¬ ((u13.1 6) ≤ x12) → (vp_in (((u13.1 1) - (u13.1 6)) + x12) 18) ∧ ∀ x25 : Int32, x25 = (((u13.2.2 0) (((u13.1 1) - (u13.1 6)) + x12).toNatClampNeg) - (48 : Int32)) → (vp_in x12 4) ∧ ∀ x26 : Int32, x26 = x12 + (1 : Int32) → X14 x26 (u13.1, u13.2.1, (va_up u13.2.2 11 (upd (u13.2.2 11) x12.toNatClampNeg x25)))))) → X14 x12 u13) → X14 (0 : Int32) ((upd (upd u2.1 6 x9) 7 r10), u2.2.1, (va_up (va_up u2.2.2 5 u11.1) 10 u11.2)))))) ∧ (¬ ((u2.1 3) = (((u2.2.2 0) (0 : Int32).toNatClampNeg) - (48 : Int32))) → Q (-103 : Int32) u2)))))))))
abbrev rmX11_pile : Room := { frames := 4, cells := 0, slots := 0, locals := 89 }
set_option maxHeartbeats 4000000 in
set_option maxRecDepth 100000 in
theorem t_X11_pile (l : Launch) (dC : Nat → ClassId) (dI : Nat → Nat → Nat) (cI : ClassId) (h : Nat) (q : Nat → Nat) (sz : Nat) (f : Nat → Int32) (g : Int64) (a : Nat → Nat → Int32)  (Q0 : Int32 → MSt → Prop) (hw : w_X11_pile f g a  Q0) : Met l yX11_pile wsX11_pile rmX11_pile (g_pre g_T (dC, dI) vwCl [(cI, .int)] (MW cI h q f g a) sz [.ref h]) (g_qi (dC, dI) vwCl [(cI, .int)] (MWu cI h q) Q0 (va_A (MW cI h q f g a) sz)) 0 0 (va_A (MW cI h q f g a) sz) := by
  refine g_starti (by decide) rfl (Nat.le_of_ble_eq_true rfl) ?_
  intro p e s m args below meth c A Q ls hx hb hml hown hts hin hK hP hD hA hS hZ hret hl
  obtain ⟨H, eH⟩ : ∃ H : Heap, H = s.heap := ⟨_, rfl⟩
  obtain ⟨locs, eL⟩ : ∃ L : List Loc, L = [] := ⟨_, rfl⟩
  have hS : va_S A s.heap H locs := by rw [eH, eL]; exact hS
  rw [← eH] at hP
  suffices hg : W p l e rmX11_pile s m args below meth c H locs 0 0 Q (F0 m 0 ls []) by rw [eH, eL] at hg; exact hg
  clear eH eL
  replace hl : lv_has ls 2 [(0, .ref h)] := hl
  have hf59 := hts (.fieldLink RX11 59 "NumberPileModel" "pageMany" "I") (by decide +kernel)
  have hiX11 : ∀ w ∈ u_ws RX11 TX11 29, w ∈ wsX11_pile := fun w h => List.mem_cons_of_mem _ (List.mem_append_right _ h)
  have hf65 := hts (.fieldLink RX11 65 "NumberPileModel" "readRow" "I") (by decide +kernel)
  have hf62 := hts (.fieldLink RX11 62 "NumberPileModel" "readHere" "I") (by decide +kernel)
  have hf7 := hts (.fieldLink RX11 7 "NumberPileModel" "page" "[I") (by decide +kernel)
  have hf97 := hts (.fieldLink RX11 97 "NumberPileModel" "wide" "I") (by decide +kernel)
  have hf103 := hts (.fieldLink RX11 103 "NumberPileModel" "bricks" "I") (by decide +kernel)
  have hf13 := hts (.fieldLink RX11 13 "NumberPileModel" "readKinds" "[I") (by decide +kernel)
  have hf16 := hts (.fieldLink RX11 16 "NumberPileModel" "kinds" "[I") (by decide +kernel)
  have hf110 := hts (.fieldLink RX11 110 "NumberPileModel" "changes" "I") (by decide +kernel)
  have hf113 := hts (.fieldLink RX11 113 "NumberPileModel" "seenMany" "I") (by decide +kernel)
  have hf116 := hts (.fieldLink RX11 116 "NumberPileModel" "pilesRead" "I") (by decide +kernel)
  have hf22 := hts (.fieldLink RX11 22 "NumberPileModel" "told" "[I") (by decide +kernel)
  have hf19 := hts (.fieldLink RX11 19 "NumberPileModel" "figures" "[I") (by decide +kernel)
  unfold w_X11_pile at hw
  refine lv_aload_n hx hb dX11_pile_0 rfl (lv_at hl 0 rfl) ?_
  refine va_get (D := (dC, dI)) (ci := 13) (v := .int (f 1)) (C := RX11) (T := TX11) (N := 29) hx hb hts hiX11 hown hK hP 0 rfl rfl 1 (by decide) hf59 (fun _ h9 => h9) rfl dX11_pile_1 ?_
  refine lv_iconst (v := 2) hx hb dX11_pile_4 (by decide) ?_
  refine lv_icmp_lt (tgt := 42) hx hb dX11_pile_5 (by decide) (fun hc1 => ?_) (fun hc1 => ?_)
  · replace hw := hw.1 hc1
    refine lv_bipush (v := -103) hx hb dX11_pile_42 (by decide) ?_
    exact hret dX11_pile_44 hK hP hD hS hw
  · replace hw := hw.2 hc1
    refine lv_aload_n hx hb dX11_pile_8 rfl (lv_at hl 0 rfl) ?_
    refine g_callVi (rest := []) (W2 := (MWu cI h q)) [] [0, 1, 2, 3, 4, 5, 6, 7, 8, 9, 10, 11, 12, 13] [] [0] [0, 1, 2, 3, 4, 5, 6, 7, 8, 9, 10, 11, 12, 13] g_Tb (fun _ _ _ _ => trivial) ⟨hx, hb, hml, hown, hts⟩ (t_X11_faultOf l dC dI cI h q H.size f g a _ hw) (cwV 0 hts gX11_pile_X11_faultOf rfl rfl rfl (by decide +kernel) ⟨Nat.le_of_ble_eq_true rfl, Nat.le_of_ble_eq_true rfl⟩) hK hP hD hS hA rfl (by decide) (wr := []) rfl (by decide) (by decide) rfl (fun _ => rfl) (by decide) (q0 := 0) rfl rfl rfl hl.1 (Nat.le_of_ble_eq_true rfl) dX11_pile_9 ⟨Nat.le_of_ble_eq_true rfl, Nat.le_of_ble_eq_true rfl⟩ (fun r3 u2 H locs hw hP hD hS => ?_)
    refine lv_aload_n hx hb dX11_pile_12 rfl (lv_at hl 0 rfl) ?_
    refine va_get (D := (dC, dI)) (ci := 13) (v := .int (u2.1 1)) (C := RX11) (T := TX11) (N := 29) hx hb hts hiX11 hown hK hP 0 rfl rfl 1 (by decide) hf59 (fun _ h9 => h9) rfl dX11_pile_13 ?_
    refine lv_icmp_lt (tgt := 42) hx hb dX11_pile_16 (by decide) (fun hc4 => ?_) (fun hc4 => ?_)
    · replace hw := hw.1 hc4
      refine lv_bipush (v := -103) hx hb dX11_pile_42 (by decide) ?_
      exact hret dX11_pile_44 hK hP hD hS hw
    · replace hw := hw.2 hc4
      refine lv_aload_n hx hb dX11_pile_19 rfl (lv_at hl 0 rfl) ?_
      refine va_get (D := (dC, dI)) (ci := 13) (v := .int (u2.1 2)) (C := RX11) (T := TX11) (N := 29) hx hb hts hiX11 hown hK hP 0 rfl rfl 2 (by decide) hf65 (fun _ h9 => h9) rfl dX11_pile_20 ?_
      refine lv_if_ne (tgt := 42) hx hb dX11_pile_23 (by decide) (fun hc5 => ?_) (fun hc5 => ?_)
      · replace hw := hw.1 hc5
        refine lv_bipush (v := -103) hx hb dX11_pile_42 (by decide) ?_
        exact hret dX11_pile_44 hK hP hD hS hw
      · replace hw := hw.2 hc5
        refine lv_aload_n hx hb dX11_pile_26 rfl (lv_at hl 0 rfl) ?_
        refine va_get (D := (dC, dI)) (ci := 13) (v := .int (u2.1 3)) (C := RX11) (T := TX11) (N := 29) hx hb hts hiX11 hown hK hP 0 rfl rfl 3 (by decide) hf62 (fun _ h9 => h9) rfl dX11_pile_27 ?_
        refine lv_aload_n hx hb dX11_pile_30 rfl (lv_at hl 0 rfl) ?_
        refine va_get (D := (dC, dI)) (ci := 13) (v := .ref (q 0)) (C := RX11) (T := TX11) (N := 29) hx hb hts hiX11 hown hK hP 0 rfl rfl 0 (by decide) hf7 (fun _ h9 => h9) rfl dX11_pile_31 ?_
        refine lv_iconst (v := 0) hx hb dX11_pile_34 (by decide) ?_
        obtain ⟨hb6, hw⟩ := hw
        refine va_iald hx hb hK hP 1 0 rfl rfl hb6 dX11_pile_35 ?_
        refine lv_bipush (v := 48) hx hb dX11_pile_36 (by decide) ?_
        refine lv_isub hx hb dX11_pile_38 ?_
        refine lv_icmp_eq (tgt := 45) hx hb dX11_pile_39 (by decide) (fun hc7 => ?_) (fun hc7 => ?_)
        · replace hw := hw.1 hc7
          refine lv_aload_n hx hb dX11_pile_45 rfl (lv_at hl 0 rfl) ?_
          refine lv_aload_n hx hb dX11_pile_46 rfl (lv_at hl 0 rfl) ?_
          refine va_get (D := (dC, dI)) (ci := 13) (v := .ref (q 0)) (C := RX11) (T := TX11) (N := 29) hx hb hts hiX11 hown hK hP 0 rfl rfl 0 (by decide) hf7 (fun _ h9 => h9) rfl dX11_pile_47 ?_
          refine lv_iconst (v := 0) hx hb dX11_pile_50 (by decide) ?_
          obtain ⟨hb8, hw⟩ := hw
          refine va_iald hx hb hK hP 1 0 rfl rfl hb8 dX11_pile_51 ?_
          refine lv_bipush (v := 48) hx hb dX11_pile_52 (by decide) ?_
          refine lv_isub hx hb dX11_pile_54 ?_
          refine lv_topi (fun x9 ex9 => ?_)
          replace hw := hw x9 ex9
          refine va_put (D := (dC, dI)) (ci := 13) (v := .int x9) (ty := (.int)) (C := RX11) (T := TX11) (N := 29) hx hb hts hiX11 tyX11 tyX11_ok nmX11 hown hK hP hD hS 0 rfl rfl 6 (by decide) hf97 (fun _ h9 => h9) rfl (by decide +kernel) rfl rfl (Nat.le_of_ble_eq_true rfl) dX11_pile_55 (fun H locs hP hD hS => ?_)
          replace hP : va_P (dC, dI) vwCl (MW cI h q (upd u2.1 6 x9) (u2.2.1) u2.2.2) H := hP
          replace hD : va_D A (MW cI h q (upd u2.1 6 x9) (u2.2.1) u2.2.2) := hD
          refine lv_aload_n hx hb dX11_pile_58 rfl (lv_at hl 0 rfl) ?_
          refine lv_aload_n hx hb dX11_pile_59 rfl (lv_at hl 0 rfl) ?_
          refine va_get (D := (dC, dI)) (ci := 13) (v := .int x9) (C := RX11) (T := TX11) (N := 29) hx hb hts hiX11 hown hK hP 0 rfl rfl 6 (by decide) hf97 (fun _ h9 => h9) rfl dX11_pile_60 ?_
          refine g_callP (rest := [.ref h]) [.int x9] ⟨hx, hb, hml, hown, hts⟩ (t_X11_bricksOf l x9 _ hw) (va_cwS 1 hts gX11_pile_X11_bricksOf rfl rfl rfl (by decide +kernel) ⟨Nat.le_of_ble_eq_true rfl, Nat.le_of_ble_eq_true rfl⟩) rfl hl.1 (Nat.le_of_ble_eq_true rfl) dX11_pile_63 ⟨Nat.le_of_ble_eq_true rfl, Nat.le_of_ble_eq_true rfl⟩ (fun r10 hw => ?_)
          refine va_put (D := (dC, dI)) (ci := 13) (v := .int r10) (ty := (.int)) (C := RX11) (T := TX11) (N := 29) hx hb hts hiX11 tyX11 tyX11_ok nmX11 hown hK hP hD hS 0 rfl rfl 7 (by decide) hf103 (fun _ h9 => h9) rfl (by decide +kernel) rfl rfl (Nat.le_of_ble_eq_true rfl) dX11_pile_66 (fun H locs hP hD hS => ?_)
          replace hP : va_P (dC, dI) vwCl (MW cI h q (upd (upd u2.1 6 x9) 7 r10) (u2.2.1) u2.2.2) H := hP
          replace hD : va_D A (MW cI h q (upd (upd u2.1 6 x9) 7 r10) (u2.2.1) u2.2.2) := hD
          refine lv_aload_n hx hb dX11_pile_69 rfl (lv_at hl 0 rfl) ?_
          refine va_get (D := (dC, dI)) (ci := 13) (v := .ref (q 5)) (C := RX11) (T := TX11) (N := 29) hx hb hts hiX11 hown hK hP 0 rfl rfl 5 (by decide) hf13 (fun _ h9 => h9) rfl dX11_pile_70 ?_
          refine lv_aload_n hx hb dX11_pile_73 rfl (lv_at hl 0 rfl) ?_
          refine va_get (D := (dC, dI)) (ci := 13) (v := .ref (q 10)) (C := RX11) (T := TX11) (N := 29) hx hb hts hiX11 hown hK hP 0 rfl rfl 10 (by decide) hf16 (fun _ h9 => h9) rfl dX11_pile_74 ?_
          refine g_callSv (rest := []) (W2 := fun u11 => (MW cI h q (upd (upd u2.1 6 x9) 7 r10) (u2.2.1) (va_up (va_up u2.2.2 5 u11.1) 10 u11.2))) [.ref (q 5), .ref (q 10)] [2, 3] [0, 1, 4, 5, 6, 7, 8, 9, 10, 11, 12, 13] [0] [0, 1, 12, 13, 2, 3, 4, 5, 6, 7, 8, 9, 10, 11] g_Tb (fun _ _ _ _ => trivial) ⟨hx, hb, hml, hown, hts⟩ (t_X11_copy l dC dI cI (q 5) (q 10) H.size 10 10 (u2.2.2 5) (u2.2.2 10) _ hw) (va_cwS 2 hts gX11_pile_X11_copy rfl rfl rfl (by decide +kernel) ⟨Nat.le_of_ble_eq_true rfl, Nat.le_of_ble_eq_true rfl⟩) hK hP hD hS hA rfl (by decide) (wr := [(h, .inr (13, MWf q (upd (upd u2.1 6 x9) 7 r10) (u2.2.1))), (q 0, .inl (cI, 18, .inl (u2.2.2 0))), (q 11, .inl (cI, 4, .inl (u2.2.2 11))), (q 12, .inl (cI, 10, .inl (u2.2.2 12))), (q 13, .inl (cI, 10, .inl (u2.2.2 13))), (q 14, .inl (cI, 4, .inl (u2.2.2 14))), (q 16, .inl (cI, 1000, .inl (u2.2.2 16))), (q 19, .inl (cI, 24, .inl (u2.2.2 19))), (q 24, .inl (cI, 10, .inl (u2.2.2 24))), (q 25, .inl (cI, 4, .inl (u2.2.2 25))), (q 26, .inl (cI, 10, .inl (u2.2.2 26))), (q 27, .inl (cI, 24, .inl (u2.2.2 27)))]) rfl (by decide) (by decide) rfl (fun _ => rfl) (by decide) rfl hl.1 (Nat.le_of_ble_eq_true rfl) dX11_pile_77 ⟨Nat.le_of_ble_eq_true rfl, Nat.le_of_ble_eq_true rfl⟩ (fun u11 H locs hw hP hD hS => ?_)
          refine lv_iconst (v := 0) hx hb dX11_pile_80 (by decide) ?_
          refine lv_istore_n (lv' := [(1, .int (0 : Int32)), (0, .ref h)]) hx hb dX11_pile_81 rfl hl (by decide) rfl (fun ls hl => ?_)
          refine hw (fun (x12 : Int32) (u13 : MSt) => ∀ (H : Heap) (locs : List Loc) (ls : Array Slot), va_P (dC, dI) vwCl (MW cI h q u13.1 (u13.2.1) u13.2.2) H → va_D A (MW cI h q u13.1 (u13.2.1) u13.2.2) → va_S A s.heap H locs → lv_has ls 2 [(0, .ref h), (1, .int x12)] → W p l e rmX11_pile s m args below meth c H locs 0 0 Q (F0 m 82 ls [])) ?_ H locs ls hP hD hS (lv_sub hl [1, 0] rfl)
          · intro x12 u13 hw H locs ls hP hD hS hl
            refine lv_iload_n hx hb dX11_pile_82 rfl (lv_at hl 1 rfl) ?_
            refine lv_aload_n hx hb dX11_pile_83 rfl (lv_at hl 0 rfl) ?_
            refine va_get (D := (dC, dI)) (ci := 13) (v := .int (u13.1 6)) (C := RX11) (T := TX11) (N := 29) hx hb hts hiX11 hown hK hP 0 rfl rfl 6 (by decide) hf97 (fun _ h9 => h9) rfl dX11_pile_84 ?_
            refine lv_icmp_ge (tgt := 121) hx hb dX11_pile_87 (by decide) (fun hc15 => ?_) (fun hc15 => ?_)
            · replace hw := hw.1 hc15
              refine lv_iconst (v := 0) hx hb dX11_pile_121 (by decide) ?_
              refine lv_istore_n (lv' := [(1, .int (0 : Int32)), (0, .ref h)]) hx hb dX11_pile_122 rfl hl (by decide) rfl (fun ls hl => ?_)
              refine hw (fun (x16 : Int32) (u17 : MSt) => ∀ (H : Heap) (locs : List Loc) (ls : Array Slot), va_P (dC, dI) vwCl (MW cI h q u17.1 (u17.2.1) u17.2.2) H → va_D A (MW cI h q u17.1 (u17.2.1) u17.2.2) → va_S A s.heap H locs → lv_has ls 2 [(0, .ref h), (1, .int x16)] → W p l e rmX11_pile s m args below meth c H locs 0 0 Q (F0 m 123 ls [])) ?_ H locs ls hP hD hS (lv_sub hl [1, 0] rfl)
              · intro x16 u17 hw H locs ls hP hD hS hl
                refine lv_iload_n hx hb dX11_pile_123 rfl (lv_at hl 1 rfl) ?_
                refine lv_bipush (v := 10) hx hb dX11_pile_124 (by decide) ?_
                refine lv_icmp_ge (tgt := 142) hx hb dX11_pile_126 (by decide) (fun hc19 => ?_) (fun hc19 => ?_)
                · replace hw := hw.1 hc19
                  refine lv_aload_n hx hb dX11_pile_142 rfl (lv_at hl 0 rfl) ?_
                  refine lv_iconst (v := 0) hx hb dX11_pile_143 (by decide) ?_
                  refine va_put (D := (dC, dI)) (ci := 13) (v := .int (0 : Int32)) (ty := (.int)) (C := RX11) (T := TX11) (N := 29) hx hb hts hiX11 tyX11 tyX11_ok nmX11 hown hK hP hD hS 0 rfl rfl 8 (by decide) hf110 (fun _ h9 => h9) rfl (by decide +kernel) rfl rfl (Nat.le_of_ble_eq_true rfl) dX11_pile_144 (fun H locs hP hD hS => ?_)
                  replace hP : va_P (dC, dI) vwCl (MW cI h q (upd u17.1 8 (0 : Int32)) (u17.2.1) u17.2.2) H := hP
                  replace hD : va_D A (MW cI h q (upd u17.1 8 (0 : Int32)) (u17.2.1) u17.2.2) := hD
                  refine lv_aload_n hx hb dX11_pile_147 rfl (lv_at hl 0 rfl) ?_
                  refine lv_iconst (v := 0) hx hb dX11_pile_148 (by decide) ?_
                  refine va_put (D := (dC, dI)) (ci := 13) (v := .int (0 : Int32)) (ty := (.int)) (C := RX11) (T := TX11) (N := 29) hx hb hts hiX11 tyX11 tyX11_ok nmX11 hown hK hP hD hS 0 rfl rfl 18 (by decide) hf113 (fun _ h9 => h9) rfl (by decide +kernel) rfl rfl (Nat.le_of_ble_eq_true rfl) dX11_pile_149 (fun H locs hP hD hS => ?_)
                  replace hP : va_P (dC, dI) vwCl (MW cI h q (upd (upd u17.1 8 (0 : Int32)) 18 (0 : Int32)) (u17.2.1) u17.2.2) H := hP
                  replace hD : va_D A (MW cI h q (upd (upd u17.1 8 (0 : Int32)) 18 (0 : Int32)) (u17.2.1) u17.2.2) := hD
                  refine lv_aload_n hx hb dX11_pile_152 rfl (lv_at hl 0 rfl) ?_
                  refine lv_dup hx hb dX11_pile_153 rfl ?_
                  refine va_get (D := (dC, dI)) (ci := 13) (v := .int (u17.1 9)) (C := RX11) (T := TX11) (N := 29) hx hb hts hiX11 hown hK hP 0 rfl rfl 9 (by decide) hf116 (fun _ h9 => h9) rfl dX11_pile_154 ?_
                  refine lv_iconst (v := 1) hx hb dX11_pile_157 (by decide) ?_
                  refine lv_iadd hx hb dX11_pile_158 ?_
                  refine lv_topi (fun x20 ex20 => ?_)
                  replace hw := hw x20 ex20
                  refine va_put (D := (dC, dI)) (ci := 13) (v := .int x20) (ty := (.int)) (C := RX11) (T := TX11) (N := 29) hx hb hts hiX11 tyX11 tyX11_ok nmX11 hown hK hP hD hS 0 rfl rfl 9 (by decide) hf116 (fun _ h9 => h9) rfl (by decide +kernel) rfl rfl (Nat.le_of_ble_eq_true rfl) dX11_pile_159 (fun H locs hP hD hS => ?_)
                  replace hP : va_P (dC, dI) vwCl (MW cI h q (upd (upd (upd u17.1 8 (0 : Int32)) 18 (0 : Int32)) 9 x20) (u17.2.1) u17.2.2) H := hP
                  replace hD : va_D A (MW cI h q (upd (upd (upd u17.1 8 (0 : Int32)) 18 (0 : Int32)) 9 x20) (u17.2.1) u17.2.2) := hD
                  refine lv_aload_n hx hb dX11_pile_162 rfl (lv_at hl 0 rfl) ?_
                  refine lv_iconst (v := 0) hx hb dX11_pile_163 (by decide) ?_
                  refine va_put (D := (dC, dI)) (ci := 13) (v := .int (0 : Int32)) (ty := (.int)) (C := RX11) (T := TX11) (N := 29) hx hb hts hiX11 tyX11 tyX11_ok nmX11 hown hK hP hD hS 0 rfl rfl 1 (by decide) hf59 (fun _ h9 => h9) rfl (by decide +kernel) rfl rfl (Nat.le_of_ble_eq_true rfl) dX11_pile_164 (fun H locs hP hD hS => ?_)
                  replace hP : va_P (dC, dI) vwCl (MW cI h q (upd (upd (upd (upd u17.1 8 (0 : Int32)) 18 (0 : Int32)) 9 x20) 1 (0 : Int32)) (u17.2.1) u17.2.2) H := hP
                  replace hD : va_D A (MW cI h q (upd (upd (upd (upd u17.1 8 (0 : Int32)) 18 (0 : Int32)) 9 x20) 1 (0 : Int32)) (u17.2.1) u17.2.2) := hD
                  refine lv_aload_n hx hb dX11_pile_167 rfl (lv_at hl 0 rfl) ?_
                  refine va_get (D := (dC, dI)) (ci := 13) (v := .int (u17.1 7)) (C := RX11) (T := TX11) (N := 29) hx hb hts hiX11 hown hK hP 0 rfl rfl 7 (by decide) hf103 (fun _ h9 => h9) rfl dX11_pile_168 ?_
                  exact hret dX11_pile_171 hK hP hD hS hw
                · replace hw := hw.2 hc19
                  refine lv_aload_n hx hb dX11_pile_129 rfl (lv_at hl 0 rfl) ?_
                  refine va_get (D := (dC, dI)) (ci := 13) (v := .ref (q 12)) (C := RX11) (T := TX11) (N := 29) hx hb hts hiX11 hown hK hP 0 rfl rfl 12 (by decide) hf22 (fun _ h9 => h9) rfl dX11_pile_130 ?_
                  refine lv_iload_n hx hb dX11_pile_133 rfl (lv_at hl 1 rfl) ?_
                  refine lv_iconst (v := -1) hx hb dX11_pile_134 (by decide) ?_
                  obtain ⟨hb21, hw⟩ := hw
                  refine va_iast hx hb hK hP hD hS 5 0 rfl rfl hb21 dX11_pile_135 (fun H locs hP hD hS => ?_)
                  replace hP : va_P (dC, dI) vwCl (MW cI h q u17.1 (u17.2.1) (va_up u17.2.2 12 (upd (u17.2.2 12) x16.toNatClampNeg (-1 : Int32)))) H := hP
                  replace hD : va_D A (MW cI h q u17.1 (u17.2.1) (va_up u17.2.2 12 (upd (u17.2.2 12) x16.toNatClampNeg (-1 : Int32)))) := hD
                  obtain ⟨x22, ex22⟩ : ∃ y : Int32, y = x16 + (1 : Int32) := ⟨_, rfl⟩
                  replace hw := hw x22 ex22
                  refine lv_iinc (v := x22) (lv' := [(1, .int x22), (0, .ref h)]) hx hb dX11_pile_136 hl (k := 1) rfl (by rw [ex22]; rfl) (by decide) rfl (fun ls hl => ?_)
                  refine lv_goto (tgt := 123) hx hb dX11_pile_139 (by decide) ?_
                  exact hw H locs ls hP hD hS (lv_sub hl [1, 0] rfl)
            · replace hw := hw.2 hc15
              refine lv_aload_n hx hb dX11_pile_90 rfl (lv_at hl 0 rfl) ?_
              refine va_get (D := (dC, dI)) (ci := 13) (v := .ref (q 11)) (C := RX11) (T := TX11) (N := 29) hx hb hts hiX11 hown hK hP 0 rfl rfl 11 (by decide) hf19 (fun _ h9 => h9) rfl dX11_pile_91 ?_
              refine lv_iload_n hx hb dX11_pile_94 rfl (lv_at hl 1 rfl) ?_
              refine lv_aload_n hx hb dX11_pile_95 rfl (lv_at hl 0 rfl) ?_
              refine va_get (D := (dC, dI)) (ci := 13) (v := .ref (q 0)) (C := RX11) (T := TX11) (N := 29) hx hb hts hiX11 hown hK hP 0 rfl rfl 0 (by decide) hf7 (fun _ h9 => h9) rfl dX11_pile_96 ?_
              refine lv_aload_n hx hb dX11_pile_99 rfl (lv_at hl 0 rfl) ?_
              refine va_get (D := (dC, dI)) (ci := 13) (v := .int (u13.1 1)) (C := RX11) (T := TX11) (N := 29) hx hb hts hiX11 hown hK hP 0 rfl rfl 1 (by decide) hf59 (fun _ h9 => h9) rfl dX11_pile_100 ?_
              refine lv_aload_n hx hb dX11_pile_103 rfl (lv_at hl 0 rfl) ?_
              refine va_get (D := (dC, dI)) (ci := 13) (v := .int (u13.1 6)) (C := RX11) (T := TX11) (N := 29) hx hb hts hiX11 hown hK hP 0 rfl rfl 6 (by decide) hf97 (fun _ h9 => h9) rfl dX11_pile_104 ?_
              refine lv_isub hx hb dX11_pile_107 ?_
              refine lv_iload_n hx hb dX11_pile_108 rfl (lv_at hl 1 rfl) ?_
              refine lv_iadd hx hb dX11_pile_109 ?_
              obtain ⟨hb23, hw⟩ := hw
              refine va_iald hx hb hK hP 1 0 rfl rfl hb23 dX11_pile_110 ?_
              refine lv_bipush (v := 48) hx hb dX11_pile_111 (by decide) ?_
              refine lv_isub hx hb dX11_pile_113 ?_
              refine lv_topi (fun x25 ex25 => ?_)
              replace hw := hw x25 ex25
              obtain ⟨hb24, hw⟩ := hw
              refine va_iast hx hb hK hP hD hS 4 0 rfl rfl hb24 dX11_pile_114 (fun H locs hP hD hS => ?_)
              replace hP : va_P (dC, dI) vwCl (MW cI h q u13.1 (u13.2.1) (va_up u13.2.2 11 (upd (u13.2.2 11) x12.toNatClampNeg x25))) H := hP
              replace hD : va_D A (MW cI h q u13.1 (u13.2.1) (va_up u13.2.2 11 (upd (u13.2.2 11) x12.toNatClampNeg x25))) := hD
              obtain ⟨x26, ex26⟩ : ∃ y : Int32, y = x12 + (1 : Int32) := ⟨_, rfl⟩
              replace hw := hw x26 ex26
              refine lv_iinc (v := x26) (lv' := [(1, .int x26), (0, .ref h)]) hx hb dX11_pile_115 hl (k := 1) rfl (by rw [ex26]; rfl) (by decide) rfl (fun ls hl => ?_)
              refine lv_goto (tgt := 82) hx hb dX11_pile_118 (by decide) ?_
              exact hw H locs ls hP hD hS (lv_sub hl [1, 0] rfl)
        · replace hw := hw.2 hc7
          refine lv_bipush (v := -103) hx hb dX11_pile_42 (by decide) ?_
          exact hret dX11_pile_44 hK hP hD hS hw
