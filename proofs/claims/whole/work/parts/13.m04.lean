def w_X11_swing (f : Nat → Int32) (g : Int64) (a : Nat → Nat → Int32) (p0 : Int32) (Q : Int32 → MSt → Prop) : Prop := w_X11_isFigure f g a p0 (fun (r2 : Int32) (u1 : MSt) => (((r2 = 0) → Q (-101 : Int32) u1) ∧ (¬ (r2 = 0) → w_X11_swingOf u1.1 (u1.2.1) u1.2.2 p0 (fun (r5 : Int32) (u4 : MSt) => Q r5 u4))))
abbrev rmX11_swing : Room := { frames := 5, cells := 0, slots := 0, locals := 106 }
set_option maxHeartbeats 4000000 in
set_option maxRecDepth 100000 in
theorem t_X11_swing (l : Launch) (dC : Nat → ClassId) (dI : Nat → Nat → Nat) (cI : ClassId) (h : Nat) (q : Nat → Nat) (sz : Nat) (f : Nat → Int32) (g : Int64) (a : Nat → Nat → Int32) (p0 : Int32) (Q0 : Int32 → MSt → Prop) (hw : w_X11_swing f g a p0 Q0) : Met l yX11_swing wsX11_swing rmX11_swing (g_pre g_T (dC, dI) vwCl [(cI, .int)] (MW cI h q f g a) sz [.ref h, .int p0]) (g_qi (dC, dI) vwCl [(cI, .int)] (MWu cI h q) Q0 (va_A (MW cI h q f g a) sz)) 0 0 (va_A (MW cI h q f g a) sz) := by
  refine g_starti (by decide) rfl (Nat.le_of_ble_eq_true rfl) ?_
  intro p e s m args below meth c A Q ls hx hb hml hown hts hin hK hP hD hA hS hZ hret hl
  obtain ⟨H, eH⟩ : ∃ H : Heap, H = s.heap := ⟨_, rfl⟩
  obtain ⟨locs, eL⟩ : ∃ L : List Loc, L = [] := ⟨_, rfl⟩
  have hS : va_S A s.heap H locs := by rw [eH, eL]; exact hS
  rw [← eH] at hP
  suffices hg : W p l e rmX11_swing s m args below meth c H locs 0 0 Q (F0 m 0 ls []) by rw [eH, eL] at hg; exact hg
  clear eH eL
  replace hl : lv_has ls 2 [(0, .ref h), (1, .int p0)] := hl
  unfold w_X11_swing at hw
  refine lv_aload_n hx hb dX11_swing_0 rfl (lv_at hl 0 rfl) ?_
  refine lv_iload_n hx hb dX11_swing_1 rfl (lv_at hl 1 rfl) ?_
  refine g_callVi (rest := []) (W2 := (MWu cI h q)) [.int p0] [0, 1, 2, 3, 4, 5, 6, 7, 8, 9, 10, 11, 12, 13] [] [0] [0, 1, 2, 3, 4, 5, 6, 7, 8, 9, 10, 11, 12, 13] g_Tb (fun _ _ _ _ => trivial) ⟨hx, hb, hml, hown, hts⟩ (t_X11_isFigure l dC dI cI h q H.size f g a p0 _ hw) (cwV 1 hts gX11_swing_X11_isFigure rfl rfl rfl (by decide +kernel) ⟨Nat.le_of_ble_eq_true rfl, Nat.le_of_ble_eq_true rfl⟩) hK hP hD hS hA rfl (by decide) (wr := []) rfl (by decide) (by decide) rfl (fun _ => rfl) (by decide) (q0 := 0) rfl rfl rfl hl.1 (Nat.le_of_ble_eq_true rfl) dX11_swing_2 ⟨Nat.le_of_ble_eq_true rfl, Nat.le_of_ble_eq_true rfl⟩ (fun r2 u1 H locs hw hP hD hS => ?_)
  refine lv_if_eq (tgt := 16) hx hb dX11_swing_5 (by decide) (fun hc3 => ?_) (fun hc3 => ?_)
  · replace hw := hw.1 hc3
    refine lv_bipush (v := -101) hx hb dX11_swing_16 (by decide) ?_
    exact hret dX11_swing_18 hK hP hD hS hw
  · replace hw := hw.2 hc3
    refine lv_aload_n hx hb dX11_swing_8 rfl (lv_at hl 0 rfl) ?_
    refine lv_iload_n hx hb dX11_swing_9 rfl (lv_at hl 1 rfl) ?_
    refine g_callVi (rest := []) (W2 := (MWu cI h q)) [.int p0] [0, 1, 2, 3, 4, 5, 6, 7, 8, 9, 10, 11, 12, 13] [] [0] [0, 1, 2, 3, 4, 5, 6, 7, 8, 9, 10, 11, 12, 13] g_Tb (fun _ _ _ _ => trivial) ⟨hx, hb, hml, hown, hts⟩ (t_X11_swingOf l dC dI cI h q H.size u1.1 (u1.2.1) u1.2.2 p0 _ hw) (cwV 1 hts gX11_swing_X11_swingOf rfl rfl rfl (by decide +kernel) ⟨Nat.le_of_ble_eq_true rfl, Nat.le_of_ble_eq_true rfl⟩) hK hP hD hS hA rfl (by decide) (wr := []) rfl (by decide) (by decide) rfl (fun _ => rfl) (by decide) (q0 := 0) rfl rfl rfl hl.1 (Nat.le_of_ble_eq_true rfl) dX11_swing_10 ⟨Nat.le_of_ble_eq_true rfl, Nat.le_of_ble_eq_true rfl⟩ (fun r5 u4 H locs hw hP hD hS => ?_)
    refine lv_goto (tgt := 18) hx hb dX11_swing_13 (by decide) ?_
    exact hret dX11_swing_18 hK hP hD hS hw

def w_X11_isSorted (f : Nat → Int32) (g : Int64) (a : Nat → Nat → Int32) (p0 : Int32) (p1 : Int32) (Q : Int32 → MSt → Prop) : Prop := (∀ X2 : Int32 → Prop, (∀ (x1 : Int32), (((((10 : Int32) ≤ x1) → Q (1 : Int32) (f, g, a)) ∧ (¬ ((10 : Int32) ≤ x1) → (∀ X8 : Int32 → Int32 → Int32 → Int32 → Prop, (∀ (x4 : Int32) (x5 : Int32) (x6 : Int32) (x7 : Int32), (((((f 6) ≤ x7) → (((x4 = 0) → ∀ x11 : Int32, x11 = x1 + (1 : Int32) → X2 x11) ∧ (¬ (x4 = 0) → Q (0 : Int32) (f, g, a)))) ∧ (¬ ((f 6) ≤ x7) → ∀ J13 : Int32 → Prop, (∀ (x12 : Int32), (∀ J15 : Int32 → Prop, (∀ (x14 : Int32), (∀ x16 : Int32, x16 = (x4 + (x12 - x14)) → ∀ x17 : Int32, x17 = (x5 / (10 : Int32)) → ∀ x18 : Int32, x18 = (x6 / (10 : Int32)) → ∀ x19 : Int32, x19 = x7 + (1 : Int32) → X8 x16 x17 x18 x19) → J15 x14) → (((¬ (x6 - x6 / (10 : Int32) * (10 : Int32)) = x1) → J15 (0 : Int32)) ∧ ((x6 - x6 / (10 : Int32) * (10 : Int32)) = x1 → J15 (1 : Int32)))) → J13 x12) → (((¬ (x5 - x5 / (10 : Int32) * (10 : Int32)) = x1) → J13 (0 : Int32)) ∧ ((x5 - x5 / (10 : Int32) * (10 : Int32)) = x1 → J13 (1 : Int32)))))) → X8 x4 x5 x6 x7) → X8 (0 : Int32) p0 p1 (0 : Int32))))) → X2 x1) → X2 (0 : Int32))
abbrev rmX11_isSorted : Room := { frames := 0, cells := 0, slots := 0, locals := 0 }
set_option maxHeartbeats 4000000 in
set_option maxRecDepth 100000 in
theorem t_X11_isSorted (l : Launch) (dC : Nat → ClassId) (dI : Nat → Nat → Nat) (cI : ClassId) (h : Nat) (q : Nat → Nat) (sz : Nat) (f : Nat → Int32) (g : Int64) (a : Nat → Nat → Int32) (p0 : Int32) (p1 : Int32) (Q0 : Int32 → MSt → Prop) (hw : w_X11_isSorted f g a p0 p1 Q0) : Met l yX11_isSorted wsX11_isSorted rmX11_isSorted (g_pre g_T (dC, dI) vwCl [(cI, .int)] (MW cI h q f g a) sz [.ref h, .int p0, .int p1]) (g_qi (dC, dI) vwCl [(cI, .int)] (MWu cI h q) Q0 (va_A (MW cI h q f g a) sz)) 0 0 (va_A (MW cI h q f g a) sz) := by
  refine g_startz (by decide) rfl (Nat.le_of_ble_eq_true rfl) ?_
  intro p e s m args below meth c A Q ls hx hb hml hown hts hin hK hP hD hA hS hZ hret hl
  obtain ⟨H, eH⟩ : ∃ H : Heap, H = s.heap := ⟨_, rfl⟩
  obtain ⟨locs, eL⟩ : ∃ L : List Loc, L = [] := ⟨_, rfl⟩
  have hS : va_S A s.heap H locs := by rw [eH, eL]; exact hS
  rw [← eH] at hP
  suffices hg : W p l e rmX11_isSorted s m args below meth c H locs 0 0 Q (F0 m 0 ls []) by rw [eH, eL] at hg; exact hg
  clear eH eL
  replace hl : lv_has ls 8 [(0, .ref h), (1, .int p0), (2, .int p1)] := hl
  have hf97 := hts (.fieldLink RX11 97 "NumberPileModel" "wide" "I") (by decide +kernel)
  have hiX11 : ∀ w ∈ u_ws RX11 TX11 29, w ∈ wsX11_isSorted := fun w h => List.mem_cons_of_mem _ (List.mem_append_right _ h)
  unfold w_X11_isSorted at hw
  refine lv_iconst (v := 0) hx hb dX11_isSorted_0 (by decide) ?_
  refine lv_istore_n (lv' := [(3, .int (0 : Int32)), (0, .ref h), (1, .int p0), (2, .int p1)]) hx hb dX11_isSorted_1 rfl hl (by decide) rfl (fun ls hl => ?_)
  refine hw (fun (x1 : Int32) => ∀ (H : Heap) (locs : List Loc) (ls : Array Slot), va_P (dC, dI) vwCl (MW cI h q f g a) H → va_D A (MW cI h q f g a) → va_S A s.heap H locs → lv_has ls 8 [(0, .ref h), (1, .int p0), (2, .int p1), (3, .int x1)] → W p l e rmX11_isSorted s m args below meth c H locs 0 0 Q (F0 m 2 ls [])) ?_ H locs ls hP hD hS (lv_sub hl [1, 2, 3, 0] rfl)
  · intro x1 hw H locs ls hP hD hS hl
    refine lv_iload_n hx hb dX11_isSorted_2 rfl (lv_at hl 3 rfl) ?_
    refine lv_bipush (v := 10) hx hb dX11_isSorted_3 (by decide) ?_
    refine lv_icmp_ge (tgt := 96) hx hb dX11_isSorted_5 (by decide) (fun hc3 => ?_) (fun hc3 => ?_)
    · replace hw := hw.1 hc3
      refine lv_iconst (v := 1) hx hb dX11_isSorted_96 (by decide) ?_
      exact hret dX11_isSorted_97 hK hP hD hS isB_1 hw
    · replace hw := hw.2 hc3
      refine lv_iconst (v := 0) hx hb dX11_isSorted_8 (by decide) ?_
      refine lv_istore (lv' := [(4, .int (0 : Int32)), (0, .ref h), (1, .int p0), (2, .int p1), (3, .int x1)]) hx hb dX11_isSorted_9 hl (by decide) rfl (fun ls hl => ?_)
      refine lv_iload_n hx hb dX11_isSorted_11 rfl (lv_at hl 2 rfl) ?_
      refine lv_istore (lv' := [(5, .int p0), (4, .int (0 : Int32)), (0, .ref h), (1, .int p0), (2, .int p1), (3, .int x1)]) hx hb dX11_isSorted_12 hl (by decide) rfl (fun ls hl => ?_)
      refine lv_iload_n hx hb dX11_isSorted_14 rfl (lv_at hl 4 rfl) ?_
      refine lv_istore (lv' := [(6, .int p1), (5, .int p0), (4, .int (0 : Int32)), (0, .ref h), (1, .int p0), (2, .int p1), (3, .int x1)]) hx hb dX11_isSorted_15 hl (by decide) rfl (fun ls hl => ?_)
      refine lv_iconst (v := 0) hx hb dX11_isSorted_17 (by decide) ?_
      refine lv_istore (lv' := [(7, .int (0 : Int32)), (6, .int p1), (5, .int p0), (4, .int (0 : Int32)), (0, .ref h), (1, .int p0), (2, .int p1), (3, .int x1)]) hx hb dX11_isSorted_18 hl (by decide) rfl (fun ls hl => ?_)
      refine hw (fun (x4 : Int32) (x5 : Int32) (x6 : Int32) (x7 : Int32) => ∀ (H : Heap) (locs : List Loc) (ls : Array Slot), va_P (dC, dI) vwCl (MW cI h q f g a) H → va_D A (MW cI h q f g a) → va_S A s.heap H locs → lv_has ls 8 [(0, .ref h), (1, .int p0), (2, .int p1), (3, .int x1), (4, .int x4), (5, .int x5), (6, .int x6), (7, .int x7)] → W p l e rmX11_isSorted s m args below meth c H locs 0 0 Q (F0 m 20 ls [])) ?_ H locs ls hP hD hS (lv_sub hl [4, 5, 6, 7, 3, 2, 1, 0] rfl)
      · intro x4 x5 x6 x7 hw H locs ls hP hD hS hl
        refine lv_iload hx hb dX11_isSorted_20 (lv_at hl 7 rfl) ?_
        refine lv_aload_n hx hb dX11_isSorted_22 rfl (lv_at hl 0 rfl) ?_
        refine va_get (D := (dC, dI)) (ci := 13) (v := .int (f 6)) (C := RX11) (T := TX11) (N := 29) hx hb hts hiX11 hown hK hP 0 rfl rfl 6 (by decide) hf97 (fun _ h9 => h9) rfl dX11_isSorted_23 ?_
        refine lv_icmp_ge (tgt := 83) hx hb dX11_isSorted_26 (by decide) (fun hc9 => ?_) (fun hc9 => ?_)
        · replace hw := hw.1 hc9
          refine lv_iload hx hb dX11_isSorted_83 (lv_at hl 4 rfl) ?_
          refine lv_if_eq (tgt := 90) hx hb dX11_isSorted_85 (by decide) (fun hc10 => ?_) (fun hc10 => ?_)
          · replace hw := hw.1 hc10
            obtain ⟨x11, ex11⟩ : ∃ y : Int32, y = x1 + (1 : Int32) := ⟨_, rfl⟩
            replace hw := hw x11 ex11
            refine lv_iinc (v := x11) (lv' := [(3, .int x11), (0, .ref h), (1, .int p0), (2, .int p1), (4, .int x4), (5, .int x5), (6, .int x6), (7, .int x7)]) hx hb dX11_isSorted_90 hl (k := 3) rfl (by rw [ex11]; rfl) (by decide) rfl (fun ls hl => ?_)
            refine lv_goto (tgt := 2) hx hb dX11_isSorted_93 (by decide) ?_
            exact hw H locs ls hP hD hS (lv_sub hl [1, 2, 3, 0] rfl)
          · replace hw := hw.2 hc10
            refine lv_iconst (v := 0) hx hb dX11_isSorted_88 (by decide) ?_
            exact hret dX11_isSorted_89 hK hP hD hS isB_0 hw
        · replace hw := hw.2 hc9
          refine lv_iload hx hb dX11_isSorted_29 (lv_at hl 4 rfl) ?_
          refine lv_iload hx hb dX11_isSorted_31 (lv_at hl 5 rfl) ?_
          refine lv_bipush (v := 10) hx hb dX11_isSorted_33 (by decide) ?_
          refine lv_irem hx hb dX11_isSorted_35 (by decide) ?_
          refine lv_iload_n hx hb dX11_isSorted_36 rfl (lv_at hl 3 rfl) ?_
          replace hw := hw (fun (x12 : Int32) => ∀ (H : Heap) (locs : List Loc) (ls : Array Slot), va_P (dC, dI) vwCl (MW cI h q f g a) H → va_D A (MW cI h q f g a) → va_S A s.heap H locs → lv_has ls 8 [(0, .ref h), (1, .int p0), (2, .int p1), (3, .int x1), (5, .int x5), (6, .int x6), (7, .int x7)] → W p l e rmX11_isSorted s m args below meth c H locs 0 0 Q (F0 m 45 ls [.int x12, .int x4])) (by
            intro x12 hw H locs ls hP hD hS hl
            refine lv_iload hx hb dX11_isSorted_45 (lv_at hl 5 rfl) ?_
            refine lv_bipush (v := 10) hx hb dX11_isSorted_47 (by decide) ?_
            refine lv_irem hx hb dX11_isSorted_49 (by decide) ?_
            refine lv_iload_n hx hb dX11_isSorted_50 rfl (lv_at hl 3 rfl) ?_
            replace hw := hw (fun (x14 : Int32) => ∀ (H : Heap) (locs : List Loc) (ls : Array Slot), va_P (dC, dI) vwCl (MW cI h q f g a) H → va_D A (MW cI h q f g a) → va_S A s.heap H locs → lv_has ls 8 [(0, .ref h), (1, .int p0), (2, .int p1), (3, .int x1), (5, .int x5), (6, .int x6), (7, .int x7)] → W p l e rmX11_isSorted s m args below meth c H locs 0 0 Q (F0 m 59 ls [.int x14, .int x12, .int x4])) (by
              intro x14 hw H locs ls hP hD hS hl
              refine lv_isub hx hb dX11_isSorted_59 ?_
              refine lv_iadd hx hb dX11_isSorted_60 ?_
              refine lv_topi (fun x16 ex16 => ?_)
              replace hw := hw x16 ex16
              refine lv_istore (lv' := [(4, .int x16), (0, .ref h), (1, .int p0), (2, .int p1), (3, .int x1), (5, .int x5), (6, .int x6), (7, .int x7)]) hx hb dX11_isSorted_61 hl (by decide) rfl (fun ls hl => ?_)
              refine lv_iload hx hb dX11_isSorted_63 (lv_at hl 5 rfl) ?_
              refine lv_bipush (v := 10) hx hb dX11_isSorted_65 (by decide) ?_
              refine lv_idiv hx hb dX11_isSorted_67 (by decide) ?_
              refine lv_topi (fun x17 ex17 => ?_)
              replace hw := hw x17 ex17
              refine lv_istore (lv' := [(5, .int x17), (4, .int x16), (0, .ref h), (1, .int p0), (2, .int p1), (3, .int x1), (6, .int x6), (7, .int x7)]) hx hb dX11_isSorted_68 hl (by decide) rfl (fun ls hl => ?_)
              refine lv_iload hx hb dX11_isSorted_70 (lv_at hl 6 rfl) ?_
              refine lv_bipush (v := 10) hx hb dX11_isSorted_72 (by decide) ?_
              refine lv_idiv hx hb dX11_isSorted_74 (by decide) ?_
              refine lv_topi (fun x18 ex18 => ?_)
              replace hw := hw x18 ex18
              refine lv_istore (lv' := [(6, .int x18), (5, .int x17), (4, .int x16), (0, .ref h), (1, .int p0), (2, .int p1), (3, .int x1), (7, .int x7)]) hx hb dX11_isSorted_75 hl (by decide) rfl (fun ls hl => ?_)
              obtain ⟨x19, ex19⟩ : ∃ y : Int32, y = x7 + (1 : Int32) := ⟨_, rfl⟩
              replace hw := hw x19 ex19
              refine lv_iinc (v := x19) (lv' := [(7, .int x19), (6, .int x18), (5, .int x17), (4, .int x16), (0, .ref h), (1, .int p0), (2, .int p1), (3, .int x1)]) hx hb dX11_isSorted_77 hl (k := 7) rfl (by rw [ex19]; rfl) (by decide) rfl (fun ls hl => ?_)
              refine lv_goto (tgt := 20) hx hb dX11_isSorted_80 (by decide) ?_
              exact hw H locs ls hP hD hS (lv_sub hl [4, 5, 6, 7, 3, 2, 1, 0] rfl))
            refine lv_icmp_ne (tgt := 58) hx hb dX11_isSorted_51 (by decide) (fun hc20 => ?_) (fun hc20 => ?_)
            · replace hw := hw.1 hc20
              refine lv_iconst (v := 0) hx hb dX11_isSorted_58 (by decide) ?_
              exact hw H locs ls hP hD hS (lv_sub hl [0, 1, 2, 3, 4, 5, 6] rfl)
            · replace hw := hw.2 hc20
              refine lv_iconst (v := 1) hx hb dX11_isSorted_54 (by decide) ?_
              refine lv_goto (tgt := 59) hx hb dX11_isSorted_55 (by decide) ?_
              exact hw H locs ls hP hD hS (lv_sub hl [0, 1, 2, 3, 4, 5, 6] rfl))
          refine lv_icmp_ne (tgt := 44) hx hb dX11_isSorted_37 (by decide) (fun hc21 => ?_) (fun hc21 => ?_)
          · replace hw := hw.1 hc21
            refine lv_iconst (v := 0) hx hb dX11_isSorted_44 (by decide) ?_
            exact hw H locs ls hP hD hS (lv_sub hl [0, 1, 2, 3, 5, 6, 7] rfl)
          · replace hw := hw.2 hc21
            refine lv_iconst (v := 1) hx hb dX11_isSorted_40 (by decide) ?_
            refine lv_goto (tgt := 45) hx hb dX11_isSorted_41 (by decide) ?_
            exact hw H locs ls hP hD hS (lv_sub hl [0, 1, 2, 3, 5, 6, 7] rfl)

def w_X11_orderOf (f : Nat → Int32) (g : Int64) (a : Nat → Nat → Int32) (p0 : Int32) (Q : Int32 → MSt → Prop) : Prop := w_X11_numberOf f g a (fun (r2 : Int32) (u1 : MSt) => (∀ X7 : Int32 → Int32 → Int32 → MSt → Prop, (∀ (x3 : Int32) (x4 : Int32) (x5 : Int32) (u6 : MSt), (w_X11_power (10 : Int32) (u6.1 6) (fun (r8 : Int32) => (((r8 ≤ x5) → (((¬ p0 = 0) → Q x3 u6) ∧ (p0 = 0 → Q x4 u6))) ∧ (¬ (r8 ≤ x5) → w_X11_isSorted u6.1 (u6.2.1) u6.2.2 x5 r2 (fun (r12 : Int32) (u11 : MSt) => ∀ J16 : Int32 → Int32 → MSt → Prop, (∀ (x13 : Int32) (x14 : Int32) (u15 : MSt), (∀ x17 : Int32, x17 = x5 + (1 : Int32) → X7 x13 x14 x17 u15) → J16 x13 x14 u15) → (((r12 = 0) → J16 x3 x4 u11) ∧ (¬ (r12 = 0) → w_X11_layNumber u11.1 (u11.2.1) u11.2.2 x5 (fun (u19 : MSt) => (vp_in ((u19.1 7) - (1 : Int32)) 10) ∧ ∀ J22 : Int32 → Prop, (∀ (x21 : Int32), ((vp_in ((u19.1 7) - (1 : Int32)) 10) ∧ ∀ J25 : Int32 → Prop, (∀ (x24 : Int32), (J16 x21 x24 u19) → J25 x24) → (((((u19.2.2 13) ((u19.1 7) - (1 : Int32)).toNatClampNeg) ≤ x4) → J25 x4) ∧ (¬ (((u19.2.2 13) ((u19.1 7) - (1 : Int32)).toNatClampNeg) ≤ x4) → (vp_in ((u19.1 7) - (1 : Int32)) 10) ∧ J25 ((u19.2.2 13) ((u19.1 7) - (1 : Int32)).toNatClampNeg)))) → J22 x21) → (((((u19.2.2 13) ((u19.1 7) - (1 : Int32)).toNatClampNeg) ≤ x4) → J22 x3) ∧ (¬ (((u19.2.2 13) ((u19.1 7) - (1 : Int32)).toNatClampNeg) ≤ x4) → J22 x5)))))))))) → X7 x3 x4 x5 u6) → X7 (-1 : Int32) (-1 : Int32) (0 : Int32) u1))
abbrev rmX11_orderOf : Room := { frames := 3, cells := 0, slots := 0, locals := 67 }
set_option maxHeartbeats 4000000 in
set_option maxRecDepth 100000 in
theorem t_X11_orderOf (l : Launch) (dC : Nat → ClassId) (dI : Nat → Nat → Nat) (cI : ClassId) (h : Nat) (q : Nat → Nat) (sz : Nat) (f : Nat → Int32) (g : Int64) (a : Nat → Nat → Int32) (p0 : Int32) (Q0 : Int32 → MSt → Prop) (hw : w_X11_orderOf f g a p0 Q0) : Met l yX11_orderOf wsX11_orderOf rmX11_orderOf (g_pre g_T (dC, dI) vwCl [(cI, .int)] (MW cI h q f g a) sz [.ref h, .int p0]) (g_qi (dC, dI) vwCl [(cI, .int)] (MWu cI h q) Q0 (va_A (MW cI h q f g a) sz)) 0 0 (va_A (MW cI h q f g a) sz) := by
  refine g_starti (by decide) rfl (Nat.le_of_ble_eq_true rfl) ?_
  intro p e s m args below meth c A Q ls hx hb hml hown hts hin hK hP hD hA hS hZ hret hl
  obtain ⟨H, eH⟩ : ∃ H : Heap, H = s.heap := ⟨_, rfl⟩
  obtain ⟨locs, eL⟩ : ∃ L : List Loc, L = [] := ⟨_, rfl⟩
  have hS : va_S A s.heap H locs := by rw [eH, eL]; exact hS
  rw [← eH] at hP
  suffices hg : W p l e rmX11_orderOf s m args below meth c H locs 0 0 Q (F0 m 0 ls []) by rw [eH, eL] at hg; exact hg
  clear eH eL
  replace hl : lv_has ls 6 [(0, .ref h), (1, .int p0)] := hl
  have hf19 := hts (.fieldLink RX11 19 "NumberPileModel" "figures" "[I") (by decide +kernel)
  have hiX11 : ∀ w ∈ u_ws RX11 TX11 29, w ∈ wsX11_orderOf := fun w h => List.mem_cons_of_mem _ (List.mem_append_right _ h)
  have hf97 := hts (.fieldLink RX11 97 "NumberPileModel" "wide" "I") (by decide +kernel)
  have hf25 := hts (.fieldLink RX11 25 "NumberPileModel" "values" "[I") (by decide +kernel)
  have hf103 := hts (.fieldLink RX11 103 "NumberPileModel" "bricks" "I") (by decide +kernel)
  unfold w_X11_orderOf at hw
  refine lv_aload_n hx hb dX11_orderOf_0 rfl (lv_at hl 0 rfl) ?_
  refine lv_aload_n hx hb dX11_orderOf_1 rfl (lv_at hl 0 rfl) ?_
  refine va_get (D := (dC, dI)) (ci := 13) (v := .ref (q 11)) (C := RX11) (T := TX11) (N := 29) hx hb hts hiX11 hown hK hP 0 rfl rfl 11 (by decide) hf19 (fun _ h9 => h9) rfl dX11_orderOf_2 ?_
  refine g_callVi (rest := []) (W2 := (MWu cI h q)) [.ref (q 11)] [0, 1, 2, 3, 4, 5, 6, 7, 8, 9, 10, 11, 12, 13] [] [0] [0, 1, 2, 3, 4, 5, 6, 7, 8, 9, 10, 11, 12, 13] g_Tb (fun _ _ _ _ => trivial) ⟨hx, hb, hml, hown, hts⟩ (t_X11_numberOf l dC dI cI h q H.size f g a _ hw) (cwV 1 hts gX11_orderOf_X11_numberOf rfl rfl rfl (by decide +kernel) ⟨Nat.le_of_ble_eq_true rfl, Nat.le_of_ble_eq_true rfl⟩) hK hP hD hS hA rfl (by decide) (wr := []) rfl (by decide) (by decide) rfl (fun _ => rfl) (by decide) (q0 := 0) rfl rfl rfl hl.1 (Nat.le_of_ble_eq_true rfl) dX11_orderOf_5 ⟨Nat.le_of_ble_eq_true rfl, Nat.le_of_ble_eq_true rfl⟩ (fun r2 u1 H locs hw hP hD hS => ?_)
  refine lv_istore_n (lv' := [(2, .int r2), (0, .ref h), (1, .int p0)]) hx hb dX11_orderOf_8 rfl hl (by decide) rfl (fun ls hl => ?_)
  refine lv_iconst (v := -1) hx hb dX11_orderOf_9 (by decide) ?_
  refine lv_istore_n (lv' := [(3, .int (-1 : Int32)), (2, .int r2), (0, .ref h), (1, .int p0)]) hx hb dX11_orderOf_10 rfl hl (by decide) rfl (fun ls hl => ?_)
  refine lv_iconst (v := -1) hx hb dX11_orderOf_11 (by decide) ?_
  refine lv_istore (lv' := [(4, .int (-1 : Int32)), (3, .int (-1 : Int32)), (2, .int r2), (0, .ref h), (1, .int p0)]) hx hb dX11_orderOf_12 hl (by decide) rfl (fun ls hl => ?_)
  refine lv_iconst (v := 0) hx hb dX11_orderOf_14 (by decide) ?_
  refine lv_istore (lv' := [(5, .int (0 : Int32)), (4, .int (-1 : Int32)), (3, .int (-1 : Int32)), (2, .int r2), (0, .ref h), (1, .int p0)]) hx hb dX11_orderOf_15 hl (by decide) rfl (fun ls hl => ?_)
  refine hw (fun (x3 : Int32) (x4 : Int32) (x5 : Int32) (u6 : MSt) => ∀ (H : Heap) (locs : List Loc) (ls : Array Slot), va_P (dC, dI) vwCl (MW cI h q u6.1 (u6.2.1) u6.2.2) H → va_D A (MW cI h q u6.1 (u6.2.1) u6.2.2) → va_S A s.heap H locs → lv_has ls 6 [(0, .ref h), (1, .int p0), (2, .int r2), (3, .int x3), (4, .int x4), (5, .int x5)] → W p l e rmX11_orderOf s m args below meth c H locs 0 0 Q (F0 m 17 ls [])) ?_ H locs ls hP hD hS (lv_sub hl [4, 5, 3, 2, 1, 0] rfl)
  · intro x3 x4 x5 u6 hw H locs ls hP hD hS hl
    refine lv_iload hx hb dX11_orderOf_17 (lv_at hl 5 rfl) ?_
    refine lv_bipush (v := 10) hx hb dX11_orderOf_19 (by decide) ?_
    refine lv_aload_n hx hb dX11_orderOf_21 rfl (lv_at hl 0 rfl) ?_
    refine va_get (D := (dC, dI)) (ci := 13) (v := .int (u6.1 6)) (C := RX11) (T := TX11) (N := 29) hx hb hts hiX11 hown hK hP 0 rfl rfl 6 (by decide) hf97 (fun _ h9 => h9) rfl dX11_orderOf_22 ?_
    refine g_callP (rest := [.int x5]) [.int (10 : Int32), .int (u6.1 6)] ⟨hx, hb, hml, hown, hts⟩ (t_X11_power l (10 : Int32) (u6.1 6) _ hw) (va_cwS 2 hts gX11_orderOf_X11_power rfl rfl rfl (by decide +kernel) ⟨Nat.le_of_ble_eq_true rfl, Nat.le_of_ble_eq_true rfl⟩) rfl hl.1 (Nat.le_of_ble_eq_true rfl) dX11_orderOf_25 ⟨Nat.le_of_ble_eq_true rfl, Nat.le_of_ble_eq_true rfl⟩ (fun r8 hw => ?_)
    refine lv_icmp_ge (tgt := 110) hx hb dX11_orderOf_28 (by decide) (fun hc9 => ?_) (fun hc9 => ?_)
    · replace hw := hw.1 hc9
      refine lv_iload_n hx hb dX11_orderOf_110 rfl (lv_at hl 1 rfl) ?_
      refine lv_if_ne (tgt := 119) hx hb dX11_orderOf_111 (by decide) (fun hc10 => ?_) (fun hc10 => ?_)
      · replace hw := hw.1 hc10
        refine lv_iload_n hx hb dX11_orderOf_119 rfl (lv_at hl 3 rfl) ?_
        exact hret dX11_orderOf_120 hK hP hD hS hw
      · replace hw := hw.2 hc10
        refine lv_iload hx hb dX11_orderOf_114 (lv_at hl 4 rfl) ?_
        refine lv_goto (tgt := 120) hx hb dX11_orderOf_116 (by decide) ?_
        exact hret dX11_orderOf_120 hK hP hD hS hw
    · replace hw := hw.2 hc9
      refine lv_aload_n hx hb dX11_orderOf_31 rfl (lv_at hl 0 rfl) ?_
      refine lv_iload hx hb dX11_orderOf_32 (lv_at hl 5 rfl) ?_
      refine lv_iload_n hx hb dX11_orderOf_34 rfl (lv_at hl 2 rfl) ?_
      refine g_callVi (rest := []) (W2 := (MWu cI h q)) [.int x5, .int r2] [0, 1, 2, 3, 4, 5, 6, 7, 8, 9, 10, 11, 12, 13] [] [0] [0, 1, 2, 3, 4, 5, 6, 7, 8, 9, 10, 11, 12, 13] g_Tb (fun _ _ _ _ => trivial) ⟨hx, hb, hml, hown, hts⟩ (t_X11_isSorted l dC dI cI h q H.size u6.1 (u6.2.1) u6.2.2 x5 r2 _ hw) (cwV 2 hts gX11_orderOf_X11_isSorted rfl rfl rfl (by decide +kernel) ⟨Nat.le_of_ble_eq_true rfl, Nat.le_of_ble_eq_true rfl⟩) hK hP hD hS hA rfl (by decide) (wr := []) rfl (by decide) (by decide) rfl (fun _ => rfl) (by decide) (q0 := 0) rfl rfl rfl hl.1 (Nat.le_of_ble_eq_true rfl) dX11_orderOf_35 ⟨Nat.le_of_ble_eq_true rfl, Nat.le_of_ble_eq_true rfl⟩ (fun r12 u11 H locs hw hP hD hS => ?_)
      replace hw := hw (fun (x13 : Int32) (x14 : Int32) (u15 : MSt) => ∀ (H : Heap) (locs : List Loc) (ls : Array Slot), va_P (dC, dI) vwCl (MW cI h q u15.1 (u15.2.1) u15.2.2) H → va_D A (MW cI h q u15.1 (u15.2.1) u15.2.2) → va_S A s.heap H locs → lv_has ls 6 [(0, .ref h), (1, .int p0), (2, .int r2), (3, .int x13), (4, .int x14), (5, .int x5)] → W p l e rmX11_orderOf s m args below meth c H locs 0 0 Q (F0 m 104 ls [])) (by
        intro x13 x14 u15 hw H locs ls hP hD hS hl
        obtain ⟨x17, ex17⟩ : ∃ y : Int32, y = x5 + (1 : Int32) := ⟨_, rfl⟩
        replace hw := hw x17 ex17
        refine lv_iinc (v := x17) (lv' := [(5, .int x17), (0, .ref h), (1, .int p0), (2, .int r2), (3, .int x13), (4, .int x14)]) hx hb dX11_orderOf_104 hl (k := 5) rfl (by rw [ex17]; rfl) (by decide) rfl (fun ls hl => ?_)
        refine lv_goto (tgt := 17) hx hb dX11_orderOf_107 (by decide) ?_
        exact hw H locs ls hP hD hS (lv_sub hl [1, 2, 3, 4, 5, 0] rfl))
      refine lv_if_eq (tgt := 104) hx hb dX11_orderOf_38 (by decide) (fun hc18 => ?_) (fun hc18 => ?_)
      · replace hw := hw.1 hc18
        exact hw H locs ls hP hD hS (lv_sub hl [0, 1, 2, 3, 4, 5] rfl)
      · replace hw := hw.2 hc18
        refine lv_aload_n hx hb dX11_orderOf_41 rfl (lv_at hl 0 rfl) ?_
        refine lv_iload hx hb dX11_orderOf_42 (lv_at hl 5 rfl) ?_
        refine g_callVv (rest := []) (W2 := (MWu cI h q)) [.int x5] [0, 1, 2, 3, 4, 5, 6, 7, 8, 9, 10, 11, 12, 13] [] [0] [0, 1, 2, 3, 4, 5, 6, 7, 8, 9, 10, 11, 12, 13] g_Tb (fun _ _ _ _ => trivial) ⟨hx, hb, hml, hown, hts⟩ (t_X11_layNumber l dC dI cI h q H.size u11.1 (u11.2.1) u11.2.2 x5 _ hw) (cwV 1 hts gX11_orderOf_X11_layNumber rfl rfl rfl (by decide +kernel) ⟨Nat.le_of_ble_eq_true rfl, Nat.le_of_ble_eq_true rfl⟩) hK hP hD hS hA rfl (by decide) (wr := []) rfl (by decide) (by decide) rfl (fun _ => rfl) (by decide) (q0 := 0) rfl rfl rfl hl.1 (Nat.le_of_ble_eq_true rfl) dX11_orderOf_44 ⟨Nat.le_of_ble_eq_true rfl, Nat.le_of_ble_eq_true rfl⟩ (fun u19 H locs hw hP hD hS => ?_)
        refine lv_aload_n hx hb dX11_orderOf_47 rfl (lv_at hl 0 rfl) ?_
        refine va_get (D := (dC, dI)) (ci := 13) (v := .ref (q 13)) (C := RX11) (T := TX11) (N := 29) hx hb hts hiX11 hown hK hP 0 rfl rfl 13 (by decide) hf25 (fun _ h9 => h9) rfl dX11_orderOf_48 ?_
        refine lv_aload_n hx hb dX11_orderOf_51 rfl (lv_at hl 0 rfl) ?_
        refine va_get (D := (dC, dI)) (ci := 13) (v := .int (u19.1 7)) (C := RX11) (T := TX11) (N := 29) hx hb hts hiX11 hown hK hP 0 rfl rfl 7 (by decide) hf103 (fun _ h9 => h9) rfl dX11_orderOf_52 ?_
        refine lv_iconst (v := 1) hx hb dX11_orderOf_55 (by decide) ?_
        refine lv_isub hx hb dX11_orderOf_56 ?_
        obtain ⟨hb20, hw⟩ := hw
        refine va_iald hx hb hK hP 6 0 rfl rfl hb20 dX11_orderOf_57 ?_
        refine lv_iload hx hb dX11_orderOf_58 (lv_at hl 4 rfl) ?_
        replace hw := hw (fun (x21 : Int32) => ∀ (H : Heap) (locs : List Loc) (ls : Array Slot), va_P (dC, dI) vwCl (MW cI h q u19.1 (u19.2.1) u19.2.2) H → va_D A (MW cI h q u19.1 (u19.2.1) u19.2.2) → va_S A s.heap H locs → lv_has ls 6 [(0, .ref h), (1, .int p0), (2, .int r2), (4, .int x4), (5, .int x5)] → W p l e rmX11_orderOf s m args below meth c H locs 0 0 Q (F0 m 69 ls [.int x21])) (by
          intro x21 hw H locs ls hP hD hS hl
          refine lv_istore_n (lv' := [(3, .int x21), (0, .ref h), (1, .int p0), (2, .int r2), (4, .int x4), (5, .int x5)]) hx hb dX11_orderOf_69 rfl hl (by decide) rfl (fun ls hl => ?_)
          refine lv_aload_n hx hb dX11_orderOf_70 rfl (lv_at hl 1 rfl) ?_
          refine va_get (D := (dC, dI)) (ci := 13) (v := .ref (q 13)) (C := RX11) (T := TX11) (N := 29) hx hb hts hiX11 hown hK hP 0 rfl rfl 13 (by decide) hf25 (fun _ h9 => h9) rfl dX11_orderOf_71 ?_
          refine lv_aload_n hx hb dX11_orderOf_74 rfl (lv_at hl 1 rfl) ?_
          refine va_get (D := (dC, dI)) (ci := 13) (v := .int (u19.1 7)) (C := RX11) (T := TX11) (N := 29) hx hb hts hiX11 hown hK hP 0 rfl rfl 7 (by decide) hf103 (fun _ h9 => h9) rfl dX11_orderOf_75 ?_
          refine lv_iconst (v := 1) hx hb dX11_orderOf_78 (by decide) ?_
          refine lv_isub hx hb dX11_orderOf_79 ?_
          obtain ⟨hb23, hw⟩ := hw
          refine va_iald hx hb hK hP 6 0 rfl rfl hb23 dX11_orderOf_80 ?_
          refine lv_iload hx hb dX11_orderOf_81 (lv_at hl 4 rfl) ?_
          replace hw := hw (fun (x24 : Int32) => ∀ (H : Heap) (locs : List Loc) (ls : Array Slot), va_P (dC, dI) vwCl (MW cI h q u19.1 (u19.2.1) u19.2.2) H → va_D A (MW cI h q u19.1 (u19.2.1) u19.2.2) → va_S A s.heap H locs → lv_has ls 6 [(0, .ref h), (1, .int p0), (2, .int r2), (3, .int x21), (5, .int x5)] → W p l e rmX11_orderOf s m args below meth c H locs 0 0 Q (F0 m 102 ls [.int x24])) (by
            intro x24 hw H locs ls hP hD hS hl
            refine lv_istore (lv' := [(4, .int x24), (0, .ref h), (1, .int p0), (2, .int r2), (3, .int x21), (5, .int x5)]) hx hb dX11_orderOf_102 hl (by decide) rfl (fun ls hl => ?_)
            exact hw H locs ls hP hD hS (lv_sub hl [1, 2, 3, 4, 0, 5] rfl))
          refine lv_icmp_le (tgt := 100) hx hb dX11_orderOf_83 (by decide) (fun hc26 => ?_) (fun hc26 => ?_)
          · replace hw := hw.1 hc26
            refine lv_iload hx hb dX11_orderOf_100 (lv_at hl 4 rfl) ?_
            exact hw H locs ls hP hD hS (lv_sub hl [1, 2, 3, 0, 5] rfl)
          · replace hw := hw.2 hc26
            refine lv_aload_n hx hb dX11_orderOf_86 rfl (lv_at hl 1 rfl) ?_
            refine va_get (D := (dC, dI)) (ci := 13) (v := .ref (q 13)) (C := RX11) (T := TX11) (N := 29) hx hb hts hiX11 hown hK hP 0 rfl rfl 13 (by decide) hf25 (fun _ h9 => h9) rfl dX11_orderOf_87 ?_
            refine lv_aload_n hx hb dX11_orderOf_90 rfl (lv_at hl 1 rfl) ?_
            refine va_get (D := (dC, dI)) (ci := 13) (v := .int (u19.1 7)) (C := RX11) (T := TX11) (N := 29) hx hb hts hiX11 hown hK hP 0 rfl rfl 7 (by decide) hf103 (fun _ h9 => h9) rfl dX11_orderOf_91 ?_
            refine lv_iconst (v := 1) hx hb dX11_orderOf_94 (by decide) ?_
            refine lv_isub hx hb dX11_orderOf_95 ?_
            obtain ⟨hb27, hw⟩ := hw
            refine va_iald hx hb hK hP 6 0 rfl rfl hb27 dX11_orderOf_96 ?_
            refine lv_goto (tgt := 102) hx hb dX11_orderOf_97 (by decide) ?_
            exact hw H locs ls hP hD hS (lv_sub hl [1, 2, 3, 0, 5] rfl))
        refine lv_icmp_le (tgt := 68) hx hb dX11_orderOf_60 (by decide) (fun hc28 => ?_) (fun hc28 => ?_)
        · replace hw := hw.1 hc28
          refine lv_iload_n hx hb dX11_orderOf_68 rfl (lv_at hl 3 rfl) ?_
          exact hw H locs ls hP hD hS (lv_sub hl [0, 1, 2, 4, 5] rfl)
        · replace hw := hw.2 hc28
          refine lv_iload hx hb dX11_orderOf_63 (lv_at hl 5 rfl) ?_
          refine lv_goto (tgt := 69) hx hb dX11_orderOf_65 (by decide) ?_
          exact hw H locs ls hP hD hS (lv_sub hl [0, 1, 2, 4, 5] rfl)

def w_X11_order (f : Nat → Int32) (g : Int64) (a : Nat → Nat → Int32) (p0 : Int32) (Q : Int32 → MSt → Prop) : Prop := w_X11_in (p0.toInt64) (0 : Int64) (1 : Int64) (fun (r1 : Int32) => (((¬ r1 = 0) → w_X11_lacks f g a (fun (r4 : Int32) (u3 : MSt) => (((r4 = 0) → w_X11_orderOf u3.1 (u3.2.1) u3.2.2 p0 (fun (r7 : Int32) (u6 : MSt) => Q r7 u6)) ∧ (¬ (r4 = 0) → Q (-103 : Int32) u3)))) ∧ (r1 = 0 → Q (-102 : Int32) (f, g, a))))
abbrev rmX11_order : Room := { frames := 4, cells := 0, slots := 0, locals := 92 }
set_option maxHeartbeats 4000000 in
set_option maxRecDepth 100000 in
theorem t_X11_order (l : Launch) (dC : Nat → ClassId) (dI : Nat → Nat → Nat) (cI : ClassId) (h : Nat) (q : Nat → Nat) (sz : Nat) (f : Nat → Int32) (g : Int64) (a : Nat → Nat → Int32) (p0 : Int32) (Q0 : Int32 → MSt → Prop) (hw : w_X11_order f g a p0 Q0) : Met l yX11_order wsX11_order rmX11_order (g_pre g_T (dC, dI) vwCl [(cI, .int)] (MW cI h q f g a) sz [.ref h, .int p0]) (g_qi (dC, dI) vwCl [(cI, .int)] (MWu cI h q) Q0 (va_A (MW cI h q f g a) sz)) 0 0 (va_A (MW cI h q f g a) sz) := by
  refine g_starti (by decide) rfl (Nat.le_of_ble_eq_true rfl) ?_
  intro p e s m args below meth c A Q ls hx hb hml hown hts hin hK hP hD hA hS hZ hret hl
  obtain ⟨H, eH⟩ : ∃ H : Heap, H = s.heap := ⟨_, rfl⟩
  obtain ⟨locs, eL⟩ : ∃ L : List Loc, L = [] := ⟨_, rfl⟩
  have hS : va_S A s.heap H locs := by rw [eH, eL]; exact hS
  rw [← eH] at hP
  suffices hg : W p l e rmX11_order s m args below meth c H locs 0 0 Q (F0 m 0 ls []) by rw [eH, eL] at hg; exact hg
  clear eH eL
  replace hl : lv_has ls 2 [(0, .ref h), (1, .int p0)] := hl
  unfold w_X11_order at hw
  refine lv_iload_n hx hb dX11_order_0 rfl (lv_at hl 1 rfl) ?_
  refine lv_i2l hx hb dX11_order_1 rfl ?_
  refine lv_lconst (v := 0) hx hb dX11_order_2 (by decide) ?_
  refine lv_lconst (v := 1) hx hb dX11_order_3 (by decide) ?_
  refine g_callP (rest := []) [.long (p0.toInt64), .long (0 : Int64), .long (1 : Int64)] ⟨hx, hb, hml, hown, hts⟩ (t_X11_in l (p0.toInt64) (0 : Int64) (1 : Int64) _ hw) (va_cwS 3 hts gX11_order_X11_in rfl rfl rfl (by decide +kernel) ⟨Nat.le_of_ble_eq_true rfl, Nat.le_of_ble_eq_true rfl⟩) rfl hl.1 (Nat.le_of_ble_eq_true rfl) dX11_order_4 ⟨Nat.le_of_ble_eq_true rfl, Nat.le_of_ble_eq_true rfl⟩ (fun r1 hw => ?_)
  refine lv_if_ne (tgt := 13) hx hb dX11_order_7 (by decide) (fun hc2 => ?_) (fun hc2 => ?_)
  · replace hw := hw.1 hc2
    refine lv_aload_n hx hb dX11_order_13 rfl (lv_at hl 0 rfl) ?_
    refine g_callVi (rest := []) (W2 := (MWu cI h q)) [] [0, 1, 2, 3, 4, 5, 6, 7, 8, 9, 10, 11, 12, 13] [] [0] [0, 1, 2, 3, 4, 5, 6, 7, 8, 9, 10, 11, 12, 13] g_Tb (fun _ _ _ _ => trivial) ⟨hx, hb, hml, hown, hts⟩ (t_X11_lacks l dC dI cI h q H.size f g a _ hw) (cwV 0 hts gX11_order_X11_lacks rfl rfl rfl (by decide +kernel) ⟨Nat.le_of_ble_eq_true rfl, Nat.le_of_ble_eq_true rfl⟩) hK hP hD hS hA rfl (by decide) (wr := []) rfl (by decide) (by decide) rfl (fun _ => rfl) (by decide) (q0 := 0) rfl rfl rfl hl.1 (Nat.le_of_ble_eq_true rfl) dX11_order_14 ⟨Nat.le_of_ble_eq_true rfl, Nat.le_of_ble_eq_true rfl⟩ (fun r4 u3 H locs hw hP hD hS => ?_)
    refine lv_if_eq (tgt := 25) hx hb dX11_order_17 (by decide) (fun hc5 => ?_) (fun hc5 => ?_)
    · replace hw := hw.1 hc5
      refine lv_aload_n hx hb dX11_order_25 rfl (lv_at hl 0 rfl) ?_
      refine lv_iload_n hx hb dX11_order_26 rfl (lv_at hl 1 rfl) ?_
      refine g_callVi (rest := []) (W2 := (MWu cI h q)) [.int p0] [0, 1, 2, 3, 4, 5, 6, 7, 8, 9, 10, 11, 12, 13] [] [0] [0, 1, 2, 3, 4, 5, 6, 7, 8, 9, 10, 11, 12, 13] g_Tb (fun _ _ _ _ => trivial) ⟨hx, hb, hml, hown, hts⟩ (t_X11_orderOf l dC dI cI h q H.size u3.1 (u3.2.1) u3.2.2 p0 _ hw) (cwV 1 hts gX11_order_X11_orderOf rfl rfl rfl (by decide +kernel) ⟨Nat.le_of_ble_eq_true rfl, Nat.le_of_ble_eq_true rfl⟩) hK hP hD hS hA rfl (by decide) (wr := []) rfl (by decide) (by decide) rfl (fun _ => rfl) (by decide) (q0 := 0) rfl rfl rfl hl.1 (Nat.le_of_ble_eq_true rfl) dX11_order_27 ⟨Nat.le_of_ble_eq_true rfl, Nat.le_of_ble_eq_true rfl⟩ (fun r7 u6 H locs hw hP hD hS => ?_)
      exact hret dX11_order_30 hK hP hD hS hw
    · replace hw := hw.2 hc5
      refine lv_bipush (v := -103) hx hb dX11_order_20 (by decide) ?_
      refine lv_goto (tgt := 30) hx hb dX11_order_22 (by decide) ?_
      exact hret dX11_order_30 hK hP hD hS hw
  · replace hw := hw.2 hc2
    refine lv_bipush (v := -102) hx hb dX11_order_10 (by decide) ?_
    exact hret dX11_order_12 hK hP hD hS hw

def w_X11_otherwise (f : Nat → Int32) (g : Int64) (a : Nat → Nat → Int32)  (Q : Int32 → MSt → Prop) : Prop := (∀ X3 : Int32 → Int32 → Prop, (∀ (x1 : Int32) (x2 : Int32), (((((f 6) ≤ x2) → Q x1 (f, g, a)) ∧ (¬ ((f 6) ≤ x2) → (vp_in x2 4) ∧ (vp_in x2 4) ∧ ∀ J8 : Int32 → Prop, (∀ (x7 : Int32), (∀ x9 : Int32, x9 = (x1 + x7) → ∀ x10 : Int32, x10 = x2 + (1 : Int32) → X3 x9 x10) → J8 x7) → (((¬ ((a 14) x2.toNatClampNeg) = ((a 11) x2.toNatClampNeg)) → J8 (1 : Int32)) ∧ (((a 14) x2.toNatClampNeg) = ((a 11) x2.toNatClampNeg) → J8 (0 : Int32)))))) → X3 x1 x2) → X3 (0 : Int32) (0 : Int32))
abbrev rmX11_otherwise : Room := { frames := 0, cells := 0, slots := 0, locals := 0 }
set_option maxHeartbeats 4000000 in
set_option maxRecDepth 100000 in
theorem t_X11_otherwise (l : Launch) (dC : Nat → ClassId) (dI : Nat → Nat → Nat) (cI : ClassId) (h : Nat) (q : Nat → Nat) (sz : Nat) (f : Nat → Int32) (g : Int64) (a : Nat → Nat → Int32)  (Q0 : Int32 → MSt → Prop) (hw : w_X11_otherwise f g a  Q0) : Met l yX11_otherwise wsX11_otherwise rmX11_otherwise (g_pre g_T (dC, dI) vwCl [(cI, .int)] (MW cI h q f g a) sz [.ref h]) (g_qi (dC, dI) vwCl [(cI, .int)] (MWu cI h q) Q0 (va_A (MW cI h q f g a) sz)) 0 0 (va_A (MW cI h q f g a) sz) := by
  refine g_starti (by decide) rfl (Nat.le_of_ble_eq_true rfl) ?_
  intro p e s m args below meth c A Q ls hx hb hml hown hts hin hK hP hD hA hS hZ hret hl
  obtain ⟨H, eH⟩ : ∃ H : Heap, H = s.heap := ⟨_, rfl⟩
  obtain ⟨locs, eL⟩ : ∃ L : List Loc, L = [] := ⟨_, rfl⟩
  have hS : va_S A s.heap H locs := by rw [eH, eL]; exact hS
  rw [← eH] at hP
  suffices hg : W p l e rmX11_otherwise s m args below meth c H locs 0 0 Q (F0 m 0 ls []) by rw [eH, eL] at hg; exact hg
  clear eH eL
  replace hl : lv_has ls 3 [(0, .ref h)] := hl
  have hf97 := hts (.fieldLink RX11 97 "NumberPileModel" "wide" "I") (by decide +kernel)
  have hiX11 : ∀ w ∈ u_ws RX11 TX11 29, w ∈ wsX11_otherwise := fun w h => List.mem_cons_of_mem _ (List.mem_append_right _ h)
  have hf28 := hts (.fieldLink RX11 28 "NumberPileModel" "some" "[I") (by decide +kernel)
  have hf19 := hts (.fieldLink RX11 19 "NumberPileModel" "figures" "[I") (by decide +kernel)
  unfold w_X11_otherwise at hw
  refine lv_iconst (v := 0) hx hb dX11_otherwise_0 (by decide) ?_
  refine lv_istore_n (lv' := [(1, .int (0 : Int32)), (0, .ref h)]) hx hb dX11_otherwise_1 rfl hl (by decide) rfl (fun ls hl => ?_)
  refine lv_iconst (v := 0) hx hb dX11_otherwise_2 (by decide) ?_
  refine lv_istore_n (lv' := [(2, .int (0 : Int32)), (1, .int (0 : Int32)), (0, .ref h)]) hx hb dX11_otherwise_3 rfl hl (by decide) rfl (fun ls hl => ?_)
  refine hw (fun (x1 : Int32) (x2 : Int32) => ∀ (H : Heap) (locs : List Loc) (ls : Array Slot), va_P (dC, dI) vwCl (MW cI h q f g a) H → va_D A (MW cI h q f g a) → va_S A s.heap H locs → lv_has ls 3 [(0, .ref h), (1, .int x1), (2, .int x2)] → W p l e rmX11_otherwise s m args below meth c H locs 0 0 Q (F0 m 4 ls [])) ?_ H locs ls hP hD hS (lv_sub hl [2, 1, 0] rfl)
  · intro x1 x2 hw H locs ls hP hD hS hl
    refine lv_iload_n hx hb dX11_otherwise_4 rfl (lv_at hl 2 rfl) ?_
    refine lv_aload_n hx hb dX11_otherwise_5 rfl (lv_at hl 0 rfl) ?_
    refine va_get (D := (dC, dI)) (ci := 13) (v := .int (f 6)) (C := RX11) (T := TX11) (N := 29) hx hb hts hiX11 hown hK hP 0 rfl rfl 6 (by decide) hf97 (fun _ h9 => h9) rfl dX11_otherwise_6 ?_
    refine lv_icmp_ge (tgt := 41) hx hb dX11_otherwise_9 (by decide) (fun hc4 => ?_) (fun hc4 => ?_)
    · replace hw := hw.1 hc4
      refine lv_iload_n hx hb dX11_otherwise_41 rfl (lv_at hl 1 rfl) ?_
      exact hret dX11_otherwise_42 hK hP hD hS hw
    · replace hw := hw.2 hc4
      refine lv_iload_n hx hb dX11_otherwise_12 rfl (lv_at hl 1 rfl) ?_
      refine lv_aload_n hx hb dX11_otherwise_13 rfl (lv_at hl 0 rfl) ?_
      refine va_get (D := (dC, dI)) (ci := 13) (v := .ref (q 14)) (C := RX11) (T := TX11) (N := 29) hx hb hts hiX11 hown hK hP 0 rfl rfl 14 (by decide) hf28 (fun _ h9 => h9) rfl dX11_otherwise_14 ?_
      refine lv_iload_n hx hb dX11_otherwise_17 rfl (lv_at hl 2 rfl) ?_
      obtain ⟨hb5, hw⟩ := hw
      refine va_iald hx hb hK hP 7 0 rfl rfl hb5 dX11_otherwise_18 ?_
      refine lv_aload_n hx hb dX11_otherwise_19 rfl (lv_at hl 0 rfl) ?_
      refine va_get (D := (dC, dI)) (ci := 13) (v := .ref (q 11)) (C := RX11) (T := TX11) (N := 29) hx hb hts hiX11 hown hK hP 0 rfl rfl 11 (by decide) hf19 (fun _ h9 => h9) rfl dX11_otherwise_20 ?_
      refine lv_iload_n hx hb dX11_otherwise_23 rfl (lv_at hl 2 rfl) ?_
      obtain ⟨hb6, hw⟩ := hw
      refine va_iald hx hb hK hP 4 0 rfl rfl hb6 dX11_otherwise_24 ?_
      replace hw := hw (fun (x7 : Int32) => ∀ (H : Heap) (locs : List Loc) (ls : Array Slot), va_P (dC, dI) vwCl (MW cI h q f g a) H → va_D A (MW cI h q f g a) → va_S A s.heap H locs → lv_has ls 3 [(0, .ref h), (2, .int x2)] → W p l e rmX11_otherwise s m args below meth c H locs 0 0 Q (F0 m 33 ls [.int x7, .int x1])) (by
        intro x7 hw H locs ls hP hD hS hl
        refine lv_iadd hx hb dX11_otherwise_33 ?_
        refine lv_topi (fun x9 ex9 => ?_)
        replace hw := hw x9 ex9
        refine lv_istore_n (lv' := [(1, .int x9), (0, .ref h), (2, .int x2)]) hx hb dX11_otherwise_34 rfl hl (by decide) rfl (fun ls hl => ?_)
        obtain ⟨x10, ex10⟩ : ∃ y : Int32, y = x2 + (1 : Int32) := ⟨_, rfl⟩
        replace hw := hw x10 ex10
        refine lv_iinc (v := x10) (lv' := [(2, .int x10), (1, .int x9), (0, .ref h)]) hx hb dX11_otherwise_35 hl (k := 2) rfl (by rw [ex10]; rfl) (by decide) rfl (fun ls hl => ?_)
        refine lv_goto (tgt := 4) hx hb dX11_otherwise_38 (by decide) ?_
        exact hw H locs ls hP hD hS (lv_sub hl [2, 1, 0] rfl))
      refine lv_icmp_ne (tgt := 32) hx hb dX11_otherwise_25 (by decide) (fun hc11 => ?_) (fun hc11 => ?_)
      · replace hw := hw.1 hc11
        refine lv_iconst (v := 1) hx hb dX11_otherwise_32 (by decide) ?_
        exact hw H locs ls hP hD hS (lv_sub hl [0, 2] rfl)
      · replace hw := hw.2 hc11
        refine lv_iconst (v := 0) hx hb dX11_otherwise_28 (by decide) ?_
        refine lv_goto (tgt := 33) hx hb dX11_otherwise_29 (by decide) ?_
        exact hw H locs ls hP hD hS (lv_sub hl [0, 2] rfl)

def w_X11_needOf (f : Nat → Int32) (g : Int64) (a : Nat → Nat → Int32) (p0 : Int32) (p1 : Int32) (Q : Int32 → MSt → Prop) : Prop := (∀ X5 : Int32 → Int32 → Int32 → MSt → Prop, (∀ (x1 : Int32) (x2 : Int32) (x3 : Int32) (u4 : MSt), (w_X11_power (10 : Int32) (u4.1 6) (fun (r6 : Int32) => (((r6 ≤ x3) → (((x1 = (-1 : Int32)) → Q x1 u4) ∧ (¬ (x1 = (-1 : Int32)) → (((¬ p1 = (1 : Int32)) → Q x2 u4) ∧ (p1 = (1 : Int32) → Q x1 u4))))) ∧ (¬ (r6 ≤ x3) → w_X11_layNumber u4.1 (u4.2.1) u4.2.2 x3 (fun (u10 : MSt) => w_X11_otherwise u10.1 (u10.2.1) u10.2.2 (fun (r12 : Int32) (u11 : MSt) => (vp_in ((u11.1 7) - (1 : Int32)) 10) ∧ ∀ J16 : Int32 → Int32 → Prop, (∀ (x14 : Int32) (x15 : Int32), (∀ x17 : Int32, x17 = x3 + (1 : Int32) → X5 x14 x15 x17 u11) → J16 x14 x15) → (((¬ ((u11.2.2 13) ((u11.1 7) - (1 : Int32)).toNatClampNeg) = p0) → J16 x1 x2) ∧ (((u11.2.2 13) ((u11.1 7) - (1 : Int32)).toNatClampNeg) = p0 → (((x2 ≤ r12) → J16 x1 x2) ∧ (¬ (x2 ≤ r12) → J16 x3 r12)))))))))) → X5 x1 x2 x3 u4) → X5 (-1 : Int32) (5 : Int32) (0 : Int32) (f, g, a))
abbrev rmX11_needOf : Room := { frames := 3, cells := 0, slots := 0, locals := 67 }
set_option maxHeartbeats 4000000 in
set_option maxRecDepth 100000 in
theorem t_X11_needOf (l : Launch) (dC : Nat → ClassId) (dI : Nat → Nat → Nat) (cI : ClassId) (h : Nat) (q : Nat → Nat) (sz : Nat) (f : Nat → Int32) (g : Int64) (a : Nat → Nat → Int32) (p0 : Int32) (p1 : Int32) (Q0 : Int32 → MSt → Prop) (hw : w_X11_needOf f g a p0 p1 Q0) : Met l yX11_needOf wsX11_needOf rmX11_needOf (g_pre g_T (dC, dI) vwCl [(cI, .int)] (MW cI h q f g a) sz [.ref h, .int p0, .int p1]) (g_qi (dC, dI) vwCl [(cI, .int)] (MWu cI h q) Q0 (va_A (MW cI h q f g a) sz)) 0 0 (va_A (MW cI h q f g a) sz) := by
  refine g_starti (by decide) rfl (Nat.le_of_ble_eq_true rfl) ?_
  intro p e s m args below meth c A Q ls hx hb hml hown hts hin hK hP hD hA hS hZ hret hl
  obtain ⟨H, eH⟩ : ∃ H : Heap, H = s.heap := ⟨_, rfl⟩
  obtain ⟨locs, eL⟩ : ∃ L : List Loc, L = [] := ⟨_, rfl⟩
  have hS : va_S A s.heap H locs := by rw [eH, eL]; exact hS
  rw [← eH] at hP
  suffices hg : W p l e rmX11_needOf s m args below meth c H locs 0 0 Q (F0 m 0 ls []) by rw [eH, eL] at hg; exact hg
  clear eH eL
  replace hl : lv_has ls 7 [(0, .ref h), (1, .int p0), (2, .int p1)] := hl
  have hf97 := hts (.fieldLink RX11 97 "NumberPileModel" "wide" "I") (by decide +kernel)
  have hiX11 : ∀ w ∈ u_ws RX11 TX11 29, w ∈ wsX11_needOf := fun w h => List.mem_cons_of_mem _ (List.mem_append_right _ h)
  have hf25 := hts (.fieldLink RX11 25 "NumberPileModel" "values" "[I") (by decide +kernel)
  have hf103 := hts (.fieldLink RX11 103 "NumberPileModel" "bricks" "I") (by decide +kernel)
  unfold w_X11_needOf at hw
  refine lv_iconst (v := -1) hx hb dX11_needOf_0 (by decide) ?_
  refine lv_istore_n (lv' := [(3, .int (-1 : Int32)), (0, .ref h), (1, .int p0), (2, .int p1)]) hx hb dX11_needOf_1 rfl hl (by decide) rfl (fun ls hl => ?_)
  refine lv_iconst (v := 5) hx hb dX11_needOf_2 (by decide) ?_
  refine lv_istore (lv' := [(4, .int (5 : Int32)), (3, .int (-1 : Int32)), (0, .ref h), (1, .int p0), (2, .int p1)]) hx hb dX11_needOf_3 hl (by decide) rfl (fun ls hl => ?_)
  refine lv_iconst (v := 0) hx hb dX11_needOf_5 (by decide) ?_
  refine lv_istore (lv' := [(5, .int (0 : Int32)), (4, .int (5 : Int32)), (3, .int (-1 : Int32)), (0, .ref h), (1, .int p0), (2, .int p1)]) hx hb dX11_needOf_6 hl (by decide) rfl (fun ls hl => ?_)
  refine hw (fun (x1 : Int32) (x2 : Int32) (x3 : Int32) (u4 : MSt) => ∀ (H : Heap) (locs : List Loc) (ls : Array Slot), va_P (dC, dI) vwCl (MW cI h q u4.1 (u4.2.1) u4.2.2) H → va_D A (MW cI h q u4.1 (u4.2.1) u4.2.2) → va_S A s.heap H locs → lv_has ls 7 [(0, .ref h), (1, .int p0), (2, .int p1), (3, .int x1), (4, .int x2), (5, .int x3)] → W p l e rmX11_needOf s m args below meth c H locs 0 0 Q (F0 m 8 ls [])) ?_ H locs ls hP hD hS (lv_sub hl [3, 4, 5, 2, 1, 0] rfl)
  · intro x1 x2 x3 u4 hw H locs ls hP hD hS hl
    refine lv_iload hx hb dX11_needOf_8 (lv_at hl 5 rfl) ?_
    refine lv_bipush (v := 10) hx hb dX11_needOf_10 (by decide) ?_
    refine lv_aload_n hx hb dX11_needOf_12 rfl (lv_at hl 0 rfl) ?_
    refine va_get (D := (dC, dI)) (ci := 13) (v := .int (u4.1 6)) (C := RX11) (T := TX11) (N := 29) hx hb hts hiX11 hown hK hP 0 rfl rfl 6 (by decide) hf97 (fun _ h9 => h9) rfl dX11_needOf_13 ?_
    refine g_callP (rest := [.int x3]) [.int (10 : Int32), .int (u4.1 6)] ⟨hx, hb, hml, hown, hts⟩ (t_X11_power l (10 : Int32) (u4.1 6) _ hw) (va_cwS 2 hts gX11_needOf_X11_power rfl rfl rfl (by decide +kernel) ⟨Nat.le_of_ble_eq_true rfl, Nat.le_of_ble_eq_true rfl⟩) rfl hl.1 (Nat.le_of_ble_eq_true rfl) dX11_needOf_16 ⟨Nat.le_of_ble_eq_true rfl, Nat.le_of_ble_eq_true rfl⟩ (fun r6 hw => ?_)
    refine lv_icmp_ge (tgt := 69) hx hb dX11_needOf_19 (by decide) (fun hc7 => ?_) (fun hc7 => ?_)
    · replace hw := hw.1 hc7
      refine lv_iload_n hx hb dX11_needOf_69 rfl (lv_at hl 3 rfl) ?_
      refine lv_iconst (v := -1) hx hb dX11_needOf_70 (by decide) ?_
      refine lv_icmp_eq (tgt := 79) hx hb dX11_needOf_71 (by decide) (fun hc8 => ?_) (fun hc8 => ?_)
      · replace hw := hw.1 hc8
        refine lv_iload_n hx hb dX11_needOf_79 rfl (lv_at hl 3 rfl) ?_
        refine lv_goto (tgt := 85) hx hb dX11_needOf_80 (by decide) ?_
        exact hret dX11_needOf_85 hK hP hD hS hw
      · replace hw := hw.2 hc8
        refine lv_iload_n hx hb dX11_needOf_74 rfl (lv_at hl 2 rfl) ?_
        refine lv_iconst (v := 1) hx hb dX11_needOf_75 (by decide) ?_
        refine lv_icmp_ne (tgt := 83) hx hb dX11_needOf_76 (by decide) (fun hc9 => ?_) (fun hc9 => ?_)
        · replace hw := hw.1 hc9
          refine lv_iload hx hb dX11_needOf_83 (lv_at hl 4 rfl) ?_
          exact hret dX11_needOf_85 hK hP hD hS hw
        · replace hw := hw.2 hc9
          refine lv_iload_n hx hb dX11_needOf_79 rfl (lv_at hl 3 rfl) ?_
          refine lv_goto (tgt := 85) hx hb dX11_needOf_80 (by decide) ?_
          exact hret dX11_needOf_85 hK hP hD hS hw
    · replace hw := hw.2 hc7
      refine lv_aload_n hx hb dX11_needOf_22 rfl (lv_at hl 0 rfl) ?_
      refine lv_iload hx hb dX11_needOf_23 (lv_at hl 5 rfl) ?_
      refine g_callVv (rest := []) (W2 := (MWu cI h q)) [.int x3] [0, 1, 2, 3, 4, 5, 6, 7, 8, 9, 10, 11, 12, 13] [] [0] [0, 1, 2, 3, 4, 5, 6, 7, 8, 9, 10, 11, 12, 13] g_Tb (fun _ _ _ _ => trivial) ⟨hx, hb, hml, hown, hts⟩ (t_X11_layNumber l dC dI cI h q H.size u4.1 (u4.2.1) u4.2.2 x3 _ hw) (cwV 1 hts gX11_needOf_X11_layNumber rfl rfl rfl (by decide +kernel) ⟨Nat.le_of_ble_eq_true rfl, Nat.le_of_ble_eq_true rfl⟩) hK hP hD hS hA rfl (by decide) (wr := []) rfl (by decide) (by decide) rfl (fun _ => rfl) (by decide) (q0 := 0) rfl rfl rfl hl.1 (Nat.le_of_ble_eq_true rfl) dX11_needOf_25 ⟨Nat.le_of_ble_eq_true rfl, Nat.le_of_ble_eq_true rfl⟩ (fun u10 H locs hw hP hD hS => ?_)
      refine lv_aload_n hx hb dX11_needOf_28 rfl (lv_at hl 0 rfl) ?_
      refine g_callVi (rest := []) (W2 := (MWu cI h q)) [] [0, 1, 2, 3, 4, 5, 6, 7, 8, 9, 10, 11, 12, 13] [] [0] [0, 1, 2, 3, 4, 5, 6, 7, 8, 9, 10, 11, 12, 13] g_Tb (fun _ _ _ _ => trivial) ⟨hx, hb, hml, hown, hts⟩ (t_X11_otherwise l dC dI cI h q H.size u10.1 (u10.2.1) u10.2.2 _ hw) (cwV 0 hts gX11_needOf_X11_otherwise rfl rfl rfl (by decide +kernel) ⟨Nat.le_of_ble_eq_true rfl, Nat.le_of_ble_eq_true rfl⟩) hK hP hD hS hA rfl (by decide) (wr := []) rfl (by decide) (by decide) rfl (fun _ => rfl) (by decide) (q0 := 0) rfl rfl rfl hl.1 (Nat.le_of_ble_eq_true rfl) dX11_needOf_29 ⟨Nat.le_of_ble_eq_true rfl, Nat.le_of_ble_eq_true rfl⟩ (fun r12 u11 H locs hw hP hD hS => ?_)
      refine lv_istore (lv' := [(6, .int r12), (0, .ref h), (1, .int p0), (2, .int p1), (3, .int x1), (4, .int x2), (5, .int x3)]) hx hb dX11_needOf_32 hl (by decide) rfl (fun ls hl => ?_)
      refine lv_aload_n hx hb dX11_needOf_34 rfl (lv_at hl 1 rfl) ?_
      refine va_get (D := (dC, dI)) (ci := 13) (v := .ref (q 13)) (C := RX11) (T := TX11) (N := 29) hx hb hts hiX11 hown hK hP 0 rfl rfl 13 (by decide) hf25 (fun _ h9 => h9) rfl dX11_needOf_35 ?_
      refine lv_aload_n hx hb dX11_needOf_38 rfl (lv_at hl 1 rfl) ?_
      refine va_get (D := (dC, dI)) (ci := 13) (v := .int (u11.1 7)) (C := RX11) (T := TX11) (N := 29) hx hb hts hiX11 hown hK hP 0 rfl rfl 7 (by decide) hf103 (fun _ h9 => h9) rfl dX11_needOf_39 ?_
      refine lv_iconst (v := 1) hx hb dX11_needOf_42 (by decide) ?_
      refine lv_isub hx hb dX11_needOf_43 ?_
      obtain ⟨hb13, hw⟩ := hw
      refine va_iald hx hb hK hP 6 0 rfl rfl hb13 dX11_needOf_44 ?_
      refine lv_iload_n hx hb dX11_needOf_45 rfl (lv_at hl 2 rfl) ?_
      replace hw := hw (fun (x14 : Int32) (x15 : Int32) => ∀ (H : Heap) (locs : List Loc) (ls : Array Slot), va_P (dC, dI) vwCl (MW cI h q u11.1 (u11.2.1) u11.2.2) H → va_D A (MW cI h q u11.1 (u11.2.1) u11.2.2) → va_S A s.heap H locs → lv_has ls 7 [(0, .ref h), (1, .int p0), (2, .int p1), (3, .int x14), (4, .int x15), (5, .int x3)] → W p l e rmX11_needOf s m args below meth c H locs 0 0 Q (F0 m 63 ls [])) (by
        intro x14 x15 hw H locs ls hP hD hS hl
        obtain ⟨x17, ex17⟩ : ∃ y : Int32, y = x3 + (1 : Int32) := ⟨_, rfl⟩
        replace hw := hw x17 ex17
        refine lv_iinc (v := x17) (lv' := [(5, .int x17), (0, .ref h), (1, .int p0), (2, .int p1), (3, .int x14), (4, .int x15)]) hx hb dX11_needOf_63 hl (k := 5) rfl (by rw [ex17]; rfl) (by decide) rfl (fun ls hl => ?_)
        refine lv_goto (tgt := 8) hx hb dX11_needOf_66 (by decide) ?_
        exact hw H locs ls hP hD hS (lv_sub hl [1, 2, 3, 4, 5, 0] rfl))
      refine lv_icmp_ne (tgt := 63) hx hb dX11_needOf_46 (by decide) (fun hc18 => ?_) (fun hc18 => ?_)
      · replace hw := hw.1 hc18
        exact hw H locs ls hP hD hS (lv_sub hl [1, 2, 3, 4, 5, 6] rfl)
      · replace hw := hw.2 hc18
        refine lv_iload hx hb dX11_needOf_49 (lv_at hl 0 rfl) ?_
        refine lv_iload hx hb dX11_needOf_51 (lv_at hl 5 rfl) ?_
        refine lv_icmp_ge (tgt := 63) hx hb dX11_needOf_53 (by decide) (fun hc19 => ?_) (fun hc19 => ?_)
        · replace hw := hw.1 hc19
          exact hw H locs ls hP hD hS (lv_sub hl [1, 2, 3, 4, 5, 6] rfl)
        · replace hw := hw.2 hc19
          refine lv_iload hx hb dX11_needOf_56 (lv_at hl 6 rfl) ?_
          refine lv_istore_n (lv' := [(3, .int x3), (6, .int r12), (0, .ref h), (1, .int p0), (2, .int p1), (4, .int x2), (5, .int x3)]) hx hb dX11_needOf_58 rfl hl (by decide) rfl (fun ls hl => ?_)
          refine lv_iload hx hb dX11_needOf_59 (lv_at hl 1 rfl) ?_
          refine lv_istore (lv' := [(4, .int r12), (3, .int x3), (6, .int r12), (0, .ref h), (1, .int p0), (2, .int p1), (5, .int x3)]) hx hb dX11_needOf_61 hl (by decide) rfl (fun ls hl => ?_)
          exact hw H locs ls hP hD hS (lv_sub hl [3, 4, 5, 1, 0, 6] rfl)

def w_X11_need (f : Nat → Int32) (g : Int64) (a : Nat → Nat → Int32) (p0 : Int32) (p1 : Int32) (Q : Int32 → MSt → Prop) : Prop := w_X11_in (p0.toInt64) (0 : Int64) (999 : Int64) (fun (r1 : Int32) => (((r1 = 0) → Q (-102 : Int32) (f, g, a)) ∧ (¬ (r1 = 0) → w_X11_in (p1.toInt64) (0 : Int64) (1 : Int64) (fun (r3 : Int32) => (((¬ r3 = 0) → w_X11_lacks f g a (fun (r6 : Int32) (u5 : MSt) => (((¬ r6 = 0) → Q (-103 : Int32) u5) ∧ (r6 = 0 → (((¬ (u5.1 15) = (20 : Int32)) → ∀ x9 : Int32, x9 = ((u5.1 15) + (1 : Int32)) → w_X11_needOf (upd u5.1 15 x9) (u5.2.1) u5.2.2 p0 p1 (fun (r11 : Int32) (u10 : MSt) => Q r11 u10)) ∧ ((u5.1 15) = (20 : Int32) → Q (-103 : Int32) u5)))))) ∧ (r3 = 0 → Q (-102 : Int32) (f, g, a)))))))
abbrev rmX11_need : Room := { frames := 4, cells := 0, slots := 0, locals := 93 }
set_option maxHeartbeats 4000000 in
set_option maxRecDepth 100000 in
theorem t_X11_need (l : Launch) (dC : Nat → ClassId) (dI : Nat → Nat → Nat) (cI : ClassId) (h : Nat) (q : Nat → Nat) (sz : Nat) (f : Nat → Int32) (g : Int64) (a : Nat → Nat → Int32) (p0 : Int32) (p1 : Int32) (Q0 : Int32 → MSt → Prop) (hw : w_X11_need f g a p0 p1 Q0) : Met l yX11_need wsX11_need rmX11_need (g_pre g_T (dC, dI) vwCl [(cI, .int)] (MW cI h q f g a) sz [.ref h, .int p0, .int p1]) (g_qi (dC, dI) vwCl [(cI, .int)] (MWu cI h q) Q0 (va_A (MW cI h q f g a) sz)) 0 0 (va_A (MW cI h q f g a) sz) := by
  refine g_starti (by decide) rfl (Nat.le_of_ble_eq_true rfl) ?_
  intro p e s m args below meth c A Q ls hx hb hml hown hts hin hK hP hD hA hS hZ hret hl
  obtain ⟨H, eH⟩ : ∃ H : Heap, H = s.heap := ⟨_, rfl⟩
  obtain ⟨locs, eL⟩ : ∃ L : List Loc, L = [] := ⟨_, rfl⟩
  have hS : va_S A s.heap H locs := by rw [eH, eL]; exact hS
  rw [← eH] at hP
  suffices hg : W p l e rmX11_need s m args below meth c H locs 0 0 Q (F0 m 0 ls []) by rw [eH, eL] at hg; exact hg
  clear eH eL
  replace hl : lv_has ls 3 [(0, .ref h), (1, .int p0), (2, .int p1)] := hl
  have kc158 := hts (.constantLong RX11 158 (999)) (by decide +kernel)
  have hf191 := hts (.fieldLink RX11 191 "NumberPileModel" "needsDone" "I") (by decide +kernel)
  have hiX11 : ∀ w ∈ u_ws RX11 TX11 29, w ∈ wsX11_need := fun w h => List.mem_cons_of_mem _ (List.mem_append_right _ h)
  unfold w_X11_need at hw
  refine lv_iload_n hx hb dX11_need_0 rfl (lv_at hl 1 rfl) ?_
  refine lv_i2l hx hb dX11_need_1 rfl ?_
  refine lv_lconst (v := 0) hx hb dX11_need_2 (by decide) ?_
  refine lv_ldc2 hx hb hown kc158 dX11_need_3 ?_
  refine g_callP (rest := []) [.long (p0.toInt64), .long (0 : Int64), .long (999 : Int64)] ⟨hx, hb, hml, hown, hts⟩ (t_X11_in l (p0.toInt64) (0 : Int64) (999 : Int64) _ hw) (va_cwS 3 hts gX11_need_X11_in rfl rfl rfl (by decide +kernel) ⟨Nat.le_of_ble_eq_true rfl, Nat.le_of_ble_eq_true rfl⟩) rfl hl.1 (Nat.le_of_ble_eq_true rfl) dX11_need_6 ⟨Nat.le_of_ble_eq_true rfl, Nat.le_of_ble_eq_true rfl⟩ (fun r1 hw => ?_)
  refine lv_if_eq (tgt := 22) hx hb dX11_need_9 (by decide) (fun hc2 => ?_) (fun hc2 => ?_)
  · replace hw := hw.1 hc2
    refine lv_bipush (v := -102) hx hb dX11_need_22 (by decide) ?_
    exact hret dX11_need_24 hK hP hD hS hw
  · replace hw := hw.2 hc2
    refine lv_iload_n hx hb dX11_need_12 rfl (lv_at hl 2 rfl) ?_
    refine lv_i2l hx hb dX11_need_13 rfl ?_
    refine lv_lconst (v := 0) hx hb dX11_need_14 (by decide) ?_
    refine lv_lconst (v := 1) hx hb dX11_need_15 (by decide) ?_
    refine g_callP (rest := []) [.long (p1.toInt64), .long (0 : Int64), .long (1 : Int64)] ⟨hx, hb, hml, hown, hts⟩ (t_X11_in l (p1.toInt64) (0 : Int64) (1 : Int64) _ hw) (va_cwS 3 hts gX11_need_X11_in rfl rfl rfl (by decide +kernel) ⟨Nat.le_of_ble_eq_true rfl, Nat.le_of_ble_eq_true rfl⟩) rfl hl.1 (Nat.le_of_ble_eq_true rfl) dX11_need_16 ⟨Nat.le_of_ble_eq_true rfl, Nat.le_of_ble_eq_true rfl⟩ (fun r3 hw => ?_)
    refine lv_if_ne (tgt := 25) hx hb dX11_need_19 (by decide) (fun hc4 => ?_) (fun hc4 => ?_)
    · replace hw := hw.1 hc4
      refine lv_aload_n hx hb dX11_need_25 rfl (lv_at hl 0 rfl) ?_
      refine g_callVi (rest := []) (W2 := (MWu cI h q)) [] [0, 1, 2, 3, 4, 5, 6, 7, 8, 9, 10, 11, 12, 13] [] [0] [0, 1, 2, 3, 4, 5, 6, 7, 8, 9, 10, 11, 12, 13] g_Tb (fun _ _ _ _ => trivial) ⟨hx, hb, hml, hown, hts⟩ (t_X11_lacks l dC dI cI h q H.size f g a _ hw) (cwV 0 hts gX11_need_X11_lacks rfl rfl rfl (by decide +kernel) ⟨Nat.le_of_ble_eq_true rfl, Nat.le_of_ble_eq_true rfl⟩) hK hP hD hS hA rfl (by decide) (wr := []) rfl (by decide) (by decide) rfl (fun _ => rfl) (by decide) (q0 := 0) rfl rfl rfl hl.1 (Nat.le_of_ble_eq_true rfl) dX11_need_26 ⟨Nat.le_of_ble_eq_true rfl, Nat.le_of_ble_eq_true rfl⟩ (fun r6 u5 H locs hw hP hD hS => ?_)
      refine lv_if_ne (tgt := 41) hx hb dX11_need_29 (by decide) (fun hc7 => ?_) (fun hc7 => ?_)
      · replace hw := hw.1 hc7
        refine lv_bipush (v := -103) hx hb dX11_need_41 (by decide) ?_
        exact hret dX11_need_43 hK hP hD hS hw
      · replace hw := hw.2 hc7
        refine lv_aload_n hx hb dX11_need_32 rfl (lv_at hl 0 rfl) ?_
        refine va_get (D := (dC, dI)) (ci := 13) (v := .int (u5.1 15)) (C := RX11) (T := TX11) (N := 29) hx hb hts hiX11 hown hK hP 0 rfl rfl 15 (by decide) hf191 (fun _ h9 => h9) rfl dX11_need_33 ?_
        refine lv_bipush (v := 20) hx hb dX11_need_36 (by decide) ?_
        refine lv_icmp_ne (tgt := 44) hx hb dX11_need_38 (by decide) (fun hc8 => ?_) (fun hc8 => ?_)
        · replace hw := hw.1 hc8
          refine lv_aload_n hx hb dX11_need_44 rfl (lv_at hl 0 rfl) ?_
          refine lv_dup hx hb dX11_need_45 rfl ?_
          refine va_get (D := (dC, dI)) (ci := 13) (v := .int (u5.1 15)) (C := RX11) (T := TX11) (N := 29) hx hb hts hiX11 hown hK hP 0 rfl rfl 15 (by decide) hf191 (fun _ h9 => h9) rfl dX11_need_46 ?_
          refine lv_iconst (v := 1) hx hb dX11_need_49 (by decide) ?_
          refine lv_iadd hx hb dX11_need_50 ?_
          refine lv_topi (fun x9 ex9 => ?_)
          replace hw := hw x9 ex9
          refine va_put (D := (dC, dI)) (ci := 13) (v := .int x9) (ty := (.int)) (C := RX11) (T := TX11) (N := 29) hx hb hts hiX11 tyX11 tyX11_ok nmX11 hown hK hP hD hS 0 rfl rfl 15 (by decide) hf191 (fun _ h9 => h9) rfl (by decide +kernel) rfl rfl (Nat.le_of_ble_eq_true rfl) dX11_need_51 (fun H locs hP hD hS => ?_)
          replace hP : va_P (dC, dI) vwCl (MW cI h q (upd u5.1 15 x9) (u5.2.1) u5.2.2) H := hP
          replace hD : va_D A (MW cI h q (upd u5.1 15 x9) (u5.2.1) u5.2.2) := hD
          refine lv_aload_n hx hb dX11_need_54 rfl (lv_at hl 0 rfl) ?_
          refine lv_iload_n hx hb dX11_need_55 rfl (lv_at hl 1 rfl) ?_
          refine lv_iload_n hx hb dX11_need_56 rfl (lv_at hl 2 rfl) ?_
          refine g_callVi (rest := []) (W2 := (MWu cI h q)) [.int p0, .int p1] [0, 1, 2, 3, 4, 5, 6, 7, 8, 9, 10, 11, 12, 13] [] [0] [0, 1, 2, 3, 4, 5, 6, 7, 8, 9, 10, 11, 12, 13] g_Tb (fun _ _ _ _ => trivial) ⟨hx, hb, hml, hown, hts⟩ (t_X11_needOf l dC dI cI h q H.size (upd u5.1 15 x9) (u5.2.1) u5.2.2 p0 p1 _ hw) (cwV 2 hts gX11_need_X11_needOf rfl rfl rfl (by decide +kernel) ⟨Nat.le_of_ble_eq_true rfl, Nat.le_of_ble_eq_true rfl⟩) hK hP hD hS hA rfl (by decide) (wr := []) rfl (by decide) (by decide) rfl (fun _ => rfl) (by decide) (q0 := 0) rfl rfl rfl hl.1 (Nat.le_of_ble_eq_true rfl) dX11_need_57 ⟨Nat.le_of_ble_eq_true rfl, Nat.le_of_ble_eq_true rfl⟩ (fun r11 u10 H locs hw hP hD hS => ?_)
          exact hret dX11_need_60 hK hP hD hS hw
        · replace hw := hw.2 hc8
          refine lv_bipush (v := -103) hx hb dX11_need_41 (by decide) ?_
          exact hret dX11_need_43 hK hP hD hS hw
    · replace hw := hw.2 hc4
      refine lv_bipush (v := -102) hx hb dX11_need_22 (by decide) ?_
      exact hret dX11_need_24 hK hP hD hS hw

def w_X11_left (f : Nat → Int32) (g : Int64) (a : Nat → Nat → Int32)  (Q : Int32 → MSt → Prop) : Prop := w_X11_lacks f g a (fun (r2 : Int32) (u1 : MSt) => (((r2 = 0) → w_X11_leftMany u1.1 (u1.2.1) u1.2.2 (fun (r5 : Int32) (u4 : MSt) => Q r5 u4)) ∧ (¬ (r2 = 0) → Q (-103 : Int32) u1)))
abbrev rmX11_left : Room := { frames := 5, cells := 0, slots := 0, locals := 111 }
set_option maxHeartbeats 4000000 in
set_option maxRecDepth 100000 in
theorem t_X11_left (l : Launch) (dC : Nat → ClassId) (dI : Nat → Nat → Nat) (cI : ClassId) (h : Nat) (q : Nat → Nat) (sz : Nat) (f : Nat → Int32) (g : Int64) (a : Nat → Nat → Int32)  (Q0 : Int32 → MSt → Prop) (hw : w_X11_left f g a  Q0) : Met l yX11_left wsX11_left rmX11_left (g_pre g_T (dC, dI) vwCl [(cI, .int)] (MW cI h q f g a) sz [.ref h]) (g_qi (dC, dI) vwCl [(cI, .int)] (MWu cI h q) Q0 (va_A (MW cI h q f g a) sz)) 0 0 (va_A (MW cI h q f g a) sz) := by
  refine g_starti (by decide) rfl (Nat.le_of_ble_eq_true rfl) ?_
  intro p e s m args below meth c A Q ls hx hb hml hown hts hin hK hP hD hA hS hZ hret hl
  obtain ⟨H, eH⟩ : ∃ H : Heap, H = s.heap := ⟨_, rfl⟩
  obtain ⟨locs, eL⟩ : ∃ L : List Loc, L = [] := ⟨_, rfl⟩
  have hS : va_S A s.heap H locs := by rw [eH, eL]; exact hS
  rw [← eH] at hP
  suffices hg : W p l e rmX11_left s m args below meth c H locs 0 0 Q (F0 m 0 ls []) by rw [eH, eL] at hg; exact hg
  clear eH eL
  replace hl : lv_has ls 1 [(0, .ref h)] := hl
  unfold w_X11_left at hw
  refine lv_aload_n hx hb dX11_left_0 rfl (lv_at hl 0 rfl) ?_
  refine g_callVi (rest := []) (W2 := (MWu cI h q)) [] [0, 1, 2, 3, 4, 5, 6, 7, 8, 9, 10, 11, 12, 13] [] [0] [0, 1, 2, 3, 4, 5, 6, 7, 8, 9, 10, 11, 12, 13] g_Tb (fun _ _ _ _ => trivial) ⟨hx, hb, hml, hown, hts⟩ (t_X11_lacks l dC dI cI h q H.size f g a _ hw) (cwV 0 hts gX11_left_X11_lacks rfl rfl rfl (by decide +kernel) ⟨Nat.le_of_ble_eq_true rfl, Nat.le_of_ble_eq_true rfl⟩) hK hP hD hS hA rfl (by decide) (wr := []) rfl (by decide) (by decide) rfl (fun _ => rfl) (by decide) (q0 := 0) rfl rfl rfl hl.1 (Nat.le_of_ble_eq_true rfl) dX11_left_1 ⟨Nat.le_of_ble_eq_true rfl, Nat.le_of_ble_eq_true rfl⟩ (fun r2 u1 H locs hw hP hD hS => ?_)
  refine lv_if_eq (tgt := 12) hx hb dX11_left_4 (by decide) (fun hc3 => ?_) (fun hc3 => ?_)
  · replace hw := hw.1 hc3
    refine lv_aload_n hx hb dX11_left_12 rfl (lv_at hl 0 rfl) ?_
    refine g_callVi (rest := []) (W2 := (MWu cI h q)) [] [0, 1, 2, 3, 4, 5, 6, 7, 8, 9, 10, 11, 12, 13] [] [0] [0, 1, 2, 3, 4, 5, 6, 7, 8, 9, 10, 11, 12, 13] g_Tb (fun _ _ _ _ => trivial) ⟨hx, hb, hml, hown, hts⟩ (t_X11_leftMany l dC dI cI h q H.size u1.1 (u1.2.1) u1.2.2 _ hw) (cwV 0 hts gX11_left_X11_leftMany rfl rfl rfl (by decide +kernel) ⟨Nat.le_of_ble_eq_true rfl, Nat.le_of_ble_eq_true rfl⟩) hK hP hD hS hA rfl (by decide) (wr := []) rfl (by decide) (by decide) rfl (fun _ => rfl) (by decide) (q0 := 0) rfl rfl rfl hl.1 (Nat.le_of_ble_eq_true rfl) dX11_left_13 ⟨Nat.le_of_ble_eq_true rfl, Nat.le_of_ble_eq_true rfl⟩ (fun r5 u4 H locs hw hP hD hS => ?_)
    exact hret dX11_left_16 hK hP hD hS hw
  · replace hw := hw.2 hc3
    refine lv_bipush (v := -103) hx hb dX11_left_7 (by decide) ?_
    refine lv_goto (tgt := 16) hx hb dX11_left_9 (by decide) ?_
    exact hret dX11_left_16 hK hP hD hS hw

def w_X11_fitsOf (f : Nat → Int32) (g : Int64) (a : Nat → Nat → Int32) (p0 : Int32) (Q : Int32 → MSt → Prop) : Prop := (∀ X4 : Int32 → Int32 → MSt → Prop, (∀ (x1 : Int32) (x2 : Int32) (u3 : MSt), (w_X11_power (10 : Int32) (u3.1 6) (fun (r5 : Int32) => (((r5 ≤ x2) → Q (-1 : Int32) u3) ∧ (¬ (r5 ≤ x2) → w_X11_isFit u3.1 (u3.2.1) u3.2.2 x2 (fun (r8 : Int32) (u7 : MSt) => ∀ J10 : Int32 → Prop, (∀ (x9 : Int32), (∀ x11 : Int32, x11 = x2 + (1 : Int32) → X4 x9 x11 u7) → J10 x9) → (((r8 = 0) → J10 x1) ∧ (¬ (r8 = 0) → (((¬ x1 = 0) → ∀ x14 : Int32, x14 = x1 + (-1 : Int32) → J10 x14) ∧ (x1 = 0 → Q x2 u7))))))))) → X4 x1 x2 u3) → X4 p0 (0 : Int32) (f, g, a))
abbrev rmX11_fitsOf : Room := { frames := 4, cells := 0, slots := 0, locals := 89 }
set_option maxHeartbeats 4000000 in
set_option maxRecDepth 100000 in
theorem t_X11_fitsOf (l : Launch) (dC : Nat → ClassId) (dI : Nat → Nat → Nat) (cI : ClassId) (h : Nat) (q : Nat → Nat) (sz : Nat) (f : Nat → Int32) (g : Int64) (a : Nat → Nat → Int32) (p0 : Int32) (Q0 : Int32 → MSt → Prop) (hw : w_X11_fitsOf f g a p0 Q0) : Met l yX11_fitsOf wsX11_fitsOf rmX11_fitsOf (g_pre g_T (dC, dI) vwCl [(cI, .int)] (MW cI h q f g a) sz [.ref h, .int p0]) (g_qi (dC, dI) vwCl [(cI, .int)] (MWu cI h q) Q0 (va_A (MW cI h q f g a) sz)) 0 0 (va_A (MW cI h q f g a) sz) := by
  refine g_starti (by decide) rfl (Nat.le_of_ble_eq_true rfl) ?_
  intro p e s m args below meth c A Q ls hx hb hml hown hts hin hK hP hD hA hS hZ hret hl
  obtain ⟨H, eH⟩ : ∃ H : Heap, H = s.heap := ⟨_, rfl⟩
  obtain ⟨locs, eL⟩ : ∃ L : List Loc, L = [] := ⟨_, rfl⟩
  have hS : va_S A s.heap H locs := by rw [eH, eL]; exact hS
  rw [← eH] at hP
  suffices hg : W p l e rmX11_fitsOf s m args below meth c H locs 0 0 Q (F0 m 0 ls []) by rw [eH, eL] at hg; exact hg
  clear eH eL
  replace hl : lv_has ls 4 [(0, .ref h), (1, .int p0)] := hl
  have hf97 := hts (.fieldLink RX11 97 "NumberPileModel" "wide" "I") (by decide +kernel)
  have hiX11 : ∀ w ∈ u_ws RX11 TX11 29, w ∈ wsX11_fitsOf := fun w h => List.mem_cons_of_mem _ (List.mem_append_right _ h)
  unfold w_X11_fitsOf at hw
  refine lv_iload_n hx hb dX11_fitsOf_0 rfl (lv_at hl 1 rfl) ?_
  refine lv_istore_n (lv' := [(2, .int p0), (0, .ref h), (1, .int p0)]) hx hb dX11_fitsOf_1 rfl hl (by decide) rfl (fun ls hl => ?_)
  refine lv_iconst (v := 0) hx hb dX11_fitsOf_2 (by decide) ?_
  refine lv_istore_n (lv' := [(3, .int (0 : Int32)), (2, .int p0), (0, .ref h), (1, .int p0)]) hx hb dX11_fitsOf_3 rfl hl (by decide) rfl (fun ls hl => ?_)
  refine hw (fun (x1 : Int32) (x2 : Int32) (u3 : MSt) => ∀ (H : Heap) (locs : List Loc) (ls : Array Slot), va_P (dC, dI) vwCl (MW cI h q u3.1 (u3.2.1) u3.2.2) H → va_D A (MW cI h q u3.1 (u3.2.1) u3.2.2) → va_S A s.heap H locs → lv_has ls 4 [(0, .ref h), (2, .int x1), (3, .int x2)] → W p l e rmX11_fitsOf s m args below meth c H locs 0 0 Q (F0 m 4 ls [])) ?_ H locs ls hP hD hS (lv_sub hl [2, 1, 0] rfl)
  · intro x1 x2 u3 hw H locs ls hP hD hS hl
    refine lv_iload_n hx hb dX11_fitsOf_4 rfl (lv_at hl 2 rfl) ?_
    refine lv_bipush (v := 10) hx hb dX11_fitsOf_5 (by decide) ?_
    refine lv_aload_n hx hb dX11_fitsOf_7 rfl (lv_at hl 0 rfl) ?_
    refine va_get (D := (dC, dI)) (ci := 13) (v := .int (u3.1 6)) (C := RX11) (T := TX11) (N := 29) hx hb hts hiX11 hown hK hP 0 rfl rfl 6 (by decide) hf97 (fun _ h9 => h9) rfl dX11_fitsOf_8 ?_
    refine g_callP (rest := [.int x2]) [.int (10 : Int32), .int (u3.1 6)] ⟨hx, hb, hml, hown, hts⟩ (t_X11_power l (10 : Int32) (u3.1 6) _ hw) (va_cwS 2 hts gX11_fitsOf_X11_power rfl rfl rfl (by decide +kernel) ⟨Nat.le_of_ble_eq_true rfl, Nat.le_of_ble_eq_true rfl⟩) rfl hl.1 (Nat.le_of_ble_eq_true rfl) dX11_fitsOf_11 ⟨Nat.le_of_ble_eq_true rfl, Nat.le_of_ble_eq_true rfl⟩ (fun r5 hw => ?_)
    refine lv_icmp_ge (tgt := 40) hx hb dX11_fitsOf_14 (by decide) (fun hc6 => ?_) (fun hc6 => ?_)
    · replace hw := hw.1 hc6
      refine lv_iconst (v := -1) hx hb dX11_fitsOf_40 (by decide) ?_
      exact hret dX11_fitsOf_41 hK hP hD hS hw
    · replace hw := hw.2 hc6
      refine lv_aload_n hx hb dX11_fitsOf_17 rfl (lv_at hl 0 rfl) ?_
      refine lv_iload_n hx hb dX11_fitsOf_18 rfl (lv_at hl 2 rfl) ?_
      refine g_callVi (rest := []) (W2 := (MWu cI h q)) [.int x2] [0, 1, 2, 3, 4, 5, 6, 7, 8, 9, 10, 11, 12, 13] [] [0] [0, 1, 2, 3, 4, 5, 6, 7, 8, 9, 10, 11, 12, 13] g_Tb (fun _ _ _ _ => trivial) ⟨hx, hb, hml, hown, hts⟩ (t_X11_isFit l dC dI cI h q H.size u3.1 (u3.2.1) u3.2.2 x2 _ hw) (cwV 1 hts gX11_fitsOf_X11_isFit rfl rfl rfl (by decide +kernel) ⟨Nat.le_of_ble_eq_true rfl, Nat.le_of_ble_eq_true rfl⟩) hK hP hD hS hA rfl (by decide) (wr := []) rfl (by decide) (by decide) rfl (fun _ => rfl) (by decide) (q0 := 0) rfl rfl rfl hl.1 (Nat.le_of_ble_eq_true rfl) dX11_fitsOf_19 ⟨Nat.le_of_ble_eq_true rfl, Nat.le_of_ble_eq_true rfl⟩ (fun r8 u7 H locs hw hP hD hS => ?_)
      replace hw := hw (fun (x9 : Int32) => ∀ (H : Heap) (locs : List Loc) (ls : Array Slot), va_P (dC, dI) vwCl (MW cI h q u7.1 (u7.2.1) u7.2.2) H → va_D A (MW cI h q u7.1 (u7.2.1) u7.2.2) → va_S A s.heap H locs → lv_has ls 4 [(0, .ref h), (2, .int x9), (3, .int x2)] → W p l e rmX11_fitsOf s m args below meth c H locs 0 0 Q (F0 m 34 ls [])) (by
        intro x9 hw H locs ls hP hD hS hl
        obtain ⟨x11, ex11⟩ : ∃ y : Int32, y = x2 + (1 : Int32) := ⟨_, rfl⟩
        replace hw := hw x11 ex11
        refine lv_iinc (v := x11) (lv' := [(3, .int x11), (0, .ref h), (2, .int x9)]) hx hb dX11_fitsOf_34 hl (k := 2) rfl (by rw [ex11]; rfl) (by decide) rfl (fun ls hl => ?_)
        refine lv_goto (tgt := 4) hx hb dX11_fitsOf_37 (by decide) ?_
        exact hw H locs ls hP hD hS (lv_sub hl [1, 2, 0] rfl))
      refine lv_if_eq (tgt := 34) hx hb dX11_fitsOf_22 (by decide) (fun hc12 => ?_) (fun hc12 => ?_)
      · replace hw := hw.1 hc12
        exact hw H locs ls hP hD hS (lv_sub hl [0, 1, 2] rfl)
      · replace hw := hw.2 hc12
        refine lv_iload_n hx hb dX11_fitsOf_25 rfl (lv_at hl 1 rfl) ?_
        refine lv_if_ne (tgt := 31) hx hb dX11_fitsOf_26 (by decide) (fun hc13 => ?_) (fun hc13 => ?_)
        · replace hw := hw.1 hc13
          obtain ⟨x14, ex14⟩ : ∃ y : Int32, y = x1 + (-1 : Int32) := ⟨_, rfl⟩
          replace hw := hw x14 ex14
          refine lv_iinc (v := x14) (lv' := [(2, .int x14), (0, .ref h), (3, .int x2)]) hx hb dX11_fitsOf_31 hl (k := 1) rfl (by rw [ex14]; rfl) (by decide) rfl (fun ls hl => ?_)
          exact hw H locs ls hP hD hS (lv_sub hl [1, 0, 2] rfl)
        · replace hw := hw.2 hc13
          refine lv_iload_n hx hb dX11_fitsOf_29 rfl (lv_at hl 2 rfl) ?_
          exact hret dX11_fitsOf_30 hK hP hD hS hw

def w_X11_fits (f : Nat → Int32) (g : Int64) (a : Nat → Nat → Int32) (p0 : Int32) (Q : Int32 → MSt → Prop) : Prop := (((0 ≤ p0) → w_X11_lacks f g a (fun (r3 : Int32) (u2 : MSt) => (((r3 = 0) → w_X11_fitsOf u2.1 (u2.2.1) u2.2.2 p0 (fun (r6 : Int32) (u5 : MSt) => Q r6 u5)) ∧ (¬ (r3 = 0) → Q (-103 : Int32) u2)))) ∧ (¬ (0 ≤ p0) → Q (-102 : Int32) (f, g, a)))
abbrev rmX11_fits : Room := { frames := 5, cells := 0, slots := 0, locals := 112 }
set_option maxHeartbeats 4000000 in
set_option maxRecDepth 100000 in
theorem t_X11_fits (l : Launch) (dC : Nat → ClassId) (dI : Nat → Nat → Nat) (cI : ClassId) (h : Nat) (q : Nat → Nat) (sz : Nat) (f : Nat → Int32) (g : Int64) (a : Nat → Nat → Int32) (p0 : Int32) (Q0 : Int32 → MSt → Prop) (hw : w_X11_fits f g a p0 Q0) : Met l yX11_fits wsX11_fits rmX11_fits (g_pre g_T (dC, dI) vwCl [(cI, .int)] (MW cI h q f g a) sz [.ref h, .int p0]) (g_qi (dC, dI) vwCl [(cI, .int)] (MWu cI h q) Q0 (va_A (MW cI h q f g a) sz)) 0 0 (va_A (MW cI h q f g a) sz) := by
  refine g_starti (by decide) rfl (Nat.le_of_ble_eq_true rfl) ?_
  intro p e s m args below meth c A Q ls hx hb hml hown hts hin hK hP hD hA hS hZ hret hl
  obtain ⟨H, eH⟩ : ∃ H : Heap, H = s.heap := ⟨_, rfl⟩
  obtain ⟨locs, eL⟩ : ∃ L : List Loc, L = [] := ⟨_, rfl⟩
  have hS : va_S A s.heap H locs := by rw [eH, eL]; exact hS
  rw [← eH] at hP
  suffices hg : W p l e rmX11_fits s m args below meth c H locs 0 0 Q (F0 m 0 ls []) by rw [eH, eL] at hg; exact hg
  clear eH eL
  replace hl : lv_has ls 2 [(0, .ref h), (1, .int p0)] := hl
  unfold w_X11_fits at hw
  refine lv_iload_n hx hb dX11_fits_0 rfl (lv_at hl 1 rfl) ?_
  refine lv_if_ge (tgt := 7) hx hb dX11_fits_1 (by decide) (fun hc1 => ?_) (fun hc1 => ?_)
  · replace hw := hw.1 hc1
    refine lv_aload_n hx hb dX11_fits_7 rfl (lv_at hl 0 rfl) ?_
    refine g_callVi (rest := []) (W2 := (MWu cI h q)) [] [0, 1, 2, 3, 4, 5, 6, 7, 8, 9, 10, 11, 12, 13] [] [0] [0, 1, 2, 3, 4, 5, 6, 7, 8, 9, 10, 11, 12, 13] g_Tb (fun _ _ _ _ => trivial) ⟨hx, hb, hml, hown, hts⟩ (t_X11_lacks l dC dI cI h q H.size f g a _ hw) (cwV 0 hts gX11_fits_X11_lacks rfl rfl rfl (by decide +kernel) ⟨Nat.le_of_ble_eq_true rfl, Nat.le_of_ble_eq_true rfl⟩) hK hP hD hS hA rfl (by decide) (wr := []) rfl (by decide) (by decide) rfl (fun _ => rfl) (by decide) (q0 := 0) rfl rfl rfl hl.1 (Nat.le_of_ble_eq_true rfl) dX11_fits_8 ⟨Nat.le_of_ble_eq_true rfl, Nat.le_of_ble_eq_true rfl⟩ (fun r3 u2 H locs hw hP hD hS => ?_)
    refine lv_if_eq (tgt := 19) hx hb dX11_fits_11 (by decide) (fun hc4 => ?_) (fun hc4 => ?_)
    · replace hw := hw.1 hc4
      refine lv_aload_n hx hb dX11_fits_19 rfl (lv_at hl 0 rfl) ?_
      refine lv_iload_n hx hb dX11_fits_20 rfl (lv_at hl 1 rfl) ?_
      refine g_callVi (rest := []) (W2 := (MWu cI h q)) [.int p0] [0, 1, 2, 3, 4, 5, 6, 7, 8, 9, 10, 11, 12, 13] [] [0] [0, 1, 2, 3, 4, 5, 6, 7, 8, 9, 10, 11, 12, 13] g_Tb (fun _ _ _ _ => trivial) ⟨hx, hb, hml, hown, hts⟩ (t_X11_fitsOf l dC dI cI h q H.size u2.1 (u2.2.1) u2.2.2 p0 _ hw) (cwV 1 hts gX11_fits_X11_fitsOf rfl rfl rfl (by decide +kernel) ⟨Nat.le_of_ble_eq_true rfl, Nat.le_of_ble_eq_true rfl⟩) hK hP hD hS hA rfl (by decide) (wr := []) rfl (by decide) (by decide) rfl (fun _ => rfl) (by decide) (q0 := 0) rfl rfl rfl hl.1 (Nat.le_of_ble_eq_true rfl) dX11_fits_21 ⟨Nat.le_of_ble_eq_true rfl, Nat.le_of_ble_eq_true rfl⟩ (fun r6 u5 H locs hw hP hD hS => ?_)
      exact hret dX11_fits_24 hK hP hD hS hw
    · replace hw := hw.2 hc4
      refine lv_bipush (v := -103) hx hb dX11_fits_14 (by decide) ?_
      refine lv_goto (tgt := 24) hx hb dX11_fits_16 (by decide) ?_
      exact hret dX11_fits_24 hK hP hD hS hw
  · replace hw := hw.2 hc1
    refine lv_bipush (v := -102) hx hb dX11_fits_4 (by decide) ?_
    exact hret dX11_fits_6 hK hP hD hS hw
