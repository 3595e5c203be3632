def w_X11_lacks (f : Nat → Int32) (g : Int64) (a : Nat → Nat → Int32)  (Q : Int32 → MSt → Prop) : Prop := (((¬ (f 6) = 0) → Q (0 : Int32) (f, g, a)) ∧ ((f 6) = 0 → Q (1 : Int32) (f, g, a)))
abbrev rmX11_lacks : Room := { frames := 0, cells := 0, slots := 0, locals := 0 }
set_option maxHeartbeats 4000000 in
set_option maxRecDepth 100000 in
theorem t_X11_lacks (l : Launch) (dC : Nat → ClassId) (dI : Nat → Nat → Nat) (cI : ClassId) (h : Nat) (q : Nat → Nat) (sz : Nat) (f : Nat → Int32) (g : Int64) (a : Nat → Nat → Int32)  (Q0 : Int32 → MSt → Prop) (hw : w_X11_lacks f g a  Q0) : Met l yX11_lacks wsX11_lacks rmX11_lacks (g_pre g_T (dC, dI) vwCl [(cI, .int)] (MW cI h q f g a) sz [.ref h]) (g_qi (dC, dI) vwCl [(cI, .int)] (MWu cI h q) Q0 (va_A (MW cI h q f g a) sz)) 0 0 (va_A (MW cI h q f g a) sz) := by
  refine g_startz (by decide) rfl (Nat.le_of_ble_eq_true rfl) ?_
  intro p e s m args below meth c A Q ls hx hb hml hown hts hin hK hP hD hA hS hZ hret hl
  obtain ⟨H, eH⟩ : ∃ H : Heap, H = s.heap := ⟨_, rfl⟩
  obtain ⟨locs, eL⟩ : ∃ L : List Loc, L = [] := ⟨_, rfl⟩
  have hS : va_S A s.heap H locs := by rw [eH, eL]; exact hS
  rw [← eH] at hP
  suffices hg : W p l e rmX11_lacks s m args below meth c H locs 0 0 Q (F0 m 0 ls []) by rw [eH, eL] at hg; exact hg
  clear eH eL
  replace hl : lv_has ls 1 [(0, .ref h)] := hl
  have hf97 := hts (.fieldLink RX11 97 "NumberPileModel" "wide" "I") (by decide +kernel)
  have hiX11 : ∀ w ∈ u_ws RX11 TX11 29, w ∈ wsX11_lacks := fun w h => List.mem_cons_of_mem _ (List.mem_append_right _ h)
  unfold w_X11_lacks at hw
  refine lv_aload_n hx hb dX11_lacks_0 rfl (lv_at hl 0 rfl) ?_
  refine va_get (D := (dC, dI)) (ci := 13) (v := .int (f 6)) (C := RX11) (T := TX11) (N := 29) hx hb hts hiX11 hown hK hP 0 rfl rfl 6 (by decide) hf97 (fun _ h9 => h9) rfl dX11_lacks_1 ?_
  refine lv_if_ne (tgt := 11) hx hb dX11_lacks_4 (by decide) (fun hc1 => ?_) (fun hc1 => ?_)
  · replace hw := hw.1 hc1
    refine lv_iconst (v := 0) hx hb dX11_lacks_11 (by decide) ?_
    exact hret dX11_lacks_12 hK hP hD hS isB_0 hw
  · replace hw := hw.2 hc1
    refine lv_iconst (v := 1) hx hb dX11_lacks_7 (by decide) ?_
    refine lv_goto (tgt := 12) hx hb dX11_lacks_8 (by decide) ?_
    exact hret dX11_lacks_12 hK hP hD hS isB_1 hw

def w_X11_isFigure (f : Nat → Int32) (g : Int64) (a : Nat → Nat → Int32) (p0 : Int32) (Q : Int32 → MSt → Prop) : Prop := w_X11_in (p0.toInt64) (0 : Int64) (((f 6) - (1 : Int32)).toInt64) (fun (r1 : Int32) => isB r1 ∧ Q r1 (f, g, a))
abbrev rmX11_isFigure : Room := { frames := 1, cells := 0, slots := 0, locals := 25 }
set_option maxHeartbeats 4000000 in
set_option maxRecDepth 100000 in
theorem t_X11_isFigure (l : Launch) (dC : Nat → ClassId) (dI : Nat → Nat → Nat) (cI : ClassId) (h : Nat) (q : Nat → Nat) (sz : Nat) (f : Nat → Int32) (g : Int64) (a : Nat → Nat → Int32) (p0 : Int32) (Q0 : Int32 → MSt → Prop) (hw : w_X11_isFigure f g a p0 Q0) : Met l yX11_isFigure wsX11_isFigure rmX11_isFigure (g_pre g_T (dC, dI) vwCl [(cI, .int)] (MW cI h q f g a) sz [.ref h, .int p0]) (g_qi (dC, dI) vwCl [(cI, .int)] (MWu cI h q) Q0 (va_A (MW cI h q f g a) sz)) 0 0 (va_A (MW cI h q f g a) sz) := by
  refine g_startz (by decide) rfl (Nat.le_of_ble_eq_true rfl) ?_
  intro p e s m args below meth c A Q ls hx hb hml hown hts hin hK hP hD hA hS hZ hret hl
  obtain ⟨H, eH⟩ : ∃ H : Heap, H = s.heap := ⟨_, rfl⟩
  obtain ⟨locs, eL⟩ : ∃ L : List Loc, L = [] := ⟨_, rfl⟩
  have hS : va_S A s.heap H locs := by rw [eH, eL]; exact hS
  rw [← eH] at hP
  suffices hg : W p l e rmX11_isFigure s m args below meth c H locs 0 0 Q (F0 m 0 ls []) by rw [eH, eL] at hg; exact hg
  clear eH eL
  replace hl : lv_has ls 2 [(0, .ref h), (1, .int p0)] := hl
  have hf97 := hts (.fieldLink RX11 97 "NumberPileModel" "wide" "I") (by decide +kernel)
  have hiX11 : ∀ w ∈ u_ws RX11 TX11 29, w ∈ wsX11_isFigure := fun w h => List.mem_cons_of_mem _ (List.mem_append_right _ h)
  unfold w_X11_isFigure at hw
  refine lv_iload_n hx hb dX11_isFigure_0 rfl (lv_at hl 1 rfl) ?_
  refine lv_i2l hx hb dX11_isFigure_1 rfl ?_
  refine lv_lconst (v := 0) hx hb dX11_isFigure_2 (by decide) ?_
  refine lv_aload_n hx hb dX11_isFigure_3 rfl (lv_at hl 0 rfl) ?_
  refine va_get (D := (dC, dI)) (ci := 13) (v := .int (f 6)) (C := RX11) (T := TX11) (N := 29) hx hb hts hiX11 hown hK hP 0 rfl rfl 6 (by decide) hf97 (fun _ h9 => h9) rfl dX11_isFigure_4 ?_
  refine lv_iconst (v := 1) hx hb dX11_isFigure_7 (by decide) ?_
  refine lv_isub hx hb dX11_isFigure_8 ?_
  refine lv_i2l hx hb dX11_isFigure_9 rfl ?_
  refine g_callP (rest := []) [.long (p0.toInt64), .long (0 : Int64), .long (((f 6) - (1 : Int32)).toInt64)] ⟨hx, hb, hml, hown, hts⟩ (t_X11_in l (p0.toInt64) (0 : Int64) (((f 6) - (1 : Int32)).toInt64) _ hw) (va_cwS 3 hts gX11_isFigure_X11_in rfl rfl rfl (by decide +kernel) ⟨Nat.le_of_ble_eq_true rfl, Nat.le_of_ble_eq_true rfl⟩) rfl hl.1 (Nat.le_of_ble_eq_true rfl) dX11_isFigure_10 ⟨Nat.le_of_ble_eq_true rfl, Nat.le_of_ble_eq_true rfl⟩ (fun r1 hw => ?_)
  obtain ⟨hz, hw⟩ := hw
  exact hret dX11_isFigure_13 hK hP hD hS hz hw

def w_X11_isBrick (f : Nat → Int32) (g : Int64) (a : Nat → Nat → Int32) (p0 : Int32) (Q : Int32 → MSt → Prop) : Prop := w_X11_in (p0.toInt64) (0 : Int64) (((f 7) - (1 : Int32)).toInt64) (fun (r1 : Int32) => isB r1 ∧ Q r1 (f, g, a))
abbrev rmX11_isBrick : Room := { frames := 1, cells := 0, slots := 0, locals := 25 }
set_option maxHeartbeats 4000000 in
set_option maxRecDepth 100000 in
theorem t_X11_isBrick (l : Launch) (dC : Nat → ClassId) (dI : Nat → Nat → Nat) (cI : ClassId) (h : Nat) (q : Nat → Nat) (sz : Nat) (f : Nat → Int32) (g : Int64) (a : Nat → Nat → Int32) (p0 : Int32) (Q0 : Int32 → MSt → Prop) (hw : w_X11_isBrick f g a p0 Q0) : Met l yX11_isBrick wsX11_isBrick rmX11_isBrick (g_pre g_T (dC, dI) vwCl [(cI, .int)] (MW cI h q f g a) sz [.ref h, .int p0]) (g_qi (dC, dI) vwCl [(cI, .int)] (MWu cI h q) Q0 (va_A (MW cI h q f g a) sz)) 0 0 (va_A (MW cI h q f g a) sz) := by
  refine g_startz (by decide) rfl (Nat.le_of_ble_eq_true rfl) ?_
  intro p e s m args below meth c A Q ls hx hb hml hown hts hin hK hP hD hA hS hZ hret hl
  obtain ⟨H, eH⟩ : ∃ H : Heap, H = s.heap := ⟨_, rfl⟩
  obtain ⟨locs, eL⟩ : ∃ L : List Loc, L = [] := ⟨_, rfl⟩
  have hS : va_S A s.heap H locs := by rw [eH, eL]; exact hS
  rw [← eH] at hP
  suffices hg : W p l e rmX11_isBrick s m args below meth c H locs 0 0 Q (F0 m 0 ls []) by rw [eH, eL] at hg; exact hg
  clear eH eL
  replace hl : lv_has ls 2 [(0, .ref h), (1, .int p0)] := hl
  have hf103 := hts (.fieldLink RX11 103 "NumberPileModel" "bricks" "I") (by decide +kernel)
  have hiX11 : ∀ w ∈ u_ws RX11 TX11 29, w ∈ wsX11_isBrick := fun w h => List.mem_cons_of_mem _ (List.mem_append_right _ h)
  unfold w_X11_isBrick at hw
  refine lv_iload_n hx hb dX11_isBrick_0 rfl (lv_at hl 1 rfl) ?_
  refine lv_i2l hx hb dX11_isBrick_1 rfl ?_
  refine lv_lconst (v := 0) hx hb dX11_isBrick_2 (by decide) ?_
  refine lv_aload_n hx hb dX11_isBrick_3 rfl (lv_at hl 0 rfl) ?_
  refine va_get (D := (dC, dI)) (ci := 13) (v := .int (f 7)) (C := RX11) (T := TX11) (N := 29) hx hb hts hiX11 hown hK hP 0 rfl rfl 7 (by decide) hf103 (fun _ h9 => h9) rfl dX11_isBrick_4 ?_
  refine lv_iconst (v := 1) hx hb dX11_isBrick_7 (by decide) ?_
  refine lv_isub hx hb dX11_isBrick_8 ?_
  refine lv_i2l hx hb dX11_isBrick_9 rfl ?_
  refine g_callP (rest := []) [.long (p0.toInt64), .long (0 : Int64), .long (((f 7) - (1 : Int32)).toInt64)] ⟨hx, hb, hml, hown, hts⟩ (t_X11_in l (p0.toInt64) (0 : Int64) (((f 7) - (1 : Int32)).toInt64) _ hw) (va_cwS 3 hts gX11_isBrick_X11_in rfl rfl rfl (by decide +kernel) ⟨Nat.le_of_ble_eq_true rfl, Nat.le_of_ble_eq_true rfl⟩) rfl hl.1 (Nat.le_of_ble_eq_true rfl) dX11_isBrick_10 ⟨Nat.le_of_ble_eq_true rfl, Nat.le_of_ble_eq_true rfl⟩ (fun r1 hw => ?_)
  obtain ⟨hz, hw⟩ := hw
  exact hret dX11_isBrick_13 hK hP hD hS hz hw

def w_X11_isUpper (f : Nat → Int32) (g : Int64) (a : Nat → Nat → Int32) (p0 : Int32) (Q : Int32 → MSt → Prop) : Prop := w_X11_in (p0.toInt64) ((f 6).toInt64) (((f 7) - (1 : Int32)).toInt64) (fun (r1 : Int32) => isB r1 ∧ Q r1 (f, g, a))
abbrev rmX11_isUpper : Room := { frames := 1, cells := 0, slots := 0, locals := 25 }
set_option maxHeartbeats 4000000 in
set_option maxRecDepth 100000 in
theorem t_X11_isUpper (l : Launch) (dC : Nat → ClassId) (dI : Nat → Nat → Nat) (cI : ClassId) (h : Nat) (q : Nat → Nat) (sz : Nat) (f : Nat → Int32) (g : Int64) (a : Nat → Nat → Int32) (p0 : Int32) (Q0 : Int32 → MSt → Prop) (hw : w_X11_isUpper f g a p0 Q0) : Met l yX11_isUpper wsX11_isUpper rmX11_isUpper (g_pre g_T (dC, dI) vwCl [(cI, .int)] (MW cI h q f g a) sz [.ref h, .int p0]) (g_qi (dC, dI) vwCl [(cI, .int)] (MWu cI h q) Q0 (va_A (MW cI h q f g a) sz)) 0 0 (va_A (MW cI h q f g a) sz) := by
  refine g_startz (by decide) rfl (Nat.le_of_ble_eq_true rfl) ?_
  intro p e s m args below meth c A Q ls hx hb hml hown hts hin hK hP hD hA hS hZ hret hl
  obtain ⟨H, eH⟩ : ∃ H : Heap, H = s.heap := ⟨_, rfl⟩
  obtain ⟨locs, eL⟩ : ∃ L : List Loc, L = [] := ⟨_, rfl⟩
  have hS : va_S A s.heap H locs := by rw [eH, eL]; exact hS
  rw [← eH] at hP
  suffices hg : W p l e rmX11_isUpper s m args below meth c H locs 0 0 Q (F0 m 0 ls []) by rw [eH, eL] at hg; exact hg
  clear eH eL
  replace hl : lv_has ls 2 [(0, .ref h), (1, .int p0)] := hl
  have hf97 := hts (.fieldLink RX11 97 "NumberPileModel" "wide" "I") (by decide +kernel)
  have hiX11 : ∀ w ∈ u_ws RX11 TX11 29, w ∈ wsX11_isUpper := fun w h => List.mem_cons_of_mem _ (List.mem_append_right _ h)
  have hf103 := hts (.fieldLink RX11 103 "NumberPileModel" "bricks" "I") (by decide +kernel)
  unfold w_X11_isUpper at hw
  refine lv_iload_n hx hb dX11_isUpper_0 rfl (lv_at hl 1 rfl) ?_
  refine lv_i2l hx hb dX11_isUpper_1 rfl ?_
  refine lv_aload_n hx hb dX11_isUpper_2 rfl (lv_at hl 0 rfl) ?_
  refine va_get (D := (dC, dI)) (ci := 13) (v := .int (f 6)) (C := RX11) (T := TX11) (N := 29) hx hb hts hiX11 hown hK hP 0 rfl rfl 6 (by decide) hf97 (fun _ h9 => h9) rfl dX11_isUpper_3 ?_
  refine lv_i2l hx hb dX11_isUpper_6 rfl ?_
  refine lv_aload_n hx hb dX11_isUpper_7 rfl (lv_at hl 0 rfl) ?_
  refine va_get (D := (dC, dI)) (ci := 13) (v := .int (f 7)) (C := RX11) (T := TX11) (N := 29) hx hb hts hiX11 hown hK hP 0 rfl rfl 7 (by decide) hf103 (fun _ h9 => h9) rfl dX11_isUpper_8 ?_
  refine lv_iconst (v := 1) hx hb dX11_isUpper_11 (by decide) ?_
  refine lv_isub hx hb dX11_isUpper_12 ?_
  refine lv_i2l hx hb dX11_isUpper_13 rfl ?_
  refine g_callP (rest := []) [.long (p0.toInt64), .long ((f 6).toInt64), .long (((f 7) - (1 : Int32)).toInt64)] ⟨hx, hb, hml, hown, hts⟩ (t_X11_in l (p0.toInt64) ((f 6).toInt64) (((f 7) - (1 : Int32)).toInt64) _ hw) (va_cwS 3 hts gX11_isUpper_X11_in rfl rfl rfl (by decide +kernel) ⟨Nat.le_of_ble_eq_true rfl, Nat.le_of_ble_eq_true rfl⟩) rfl hl.1 (Nat.le_of_ble_eq_true rfl) dX11_isUpper_14 ⟨Nat.le_of_ble_eq_true rfl, Nat.le_of_ble_eq_true rfl⟩ (fun r1 hw => ?_)
  obtain ⟨hz, hw⟩ := hw
  exact hret dX11_isUpper_17 hK hP hD hS hz hw

def w_X11_leftOf (f : Nat → Int32) (g : Int64) (a : Nat → Nat → Int32) (p0 : Int32) (Q : Int32 → MSt → Prop) : Prop := ∀ x1 : Int32, x1 = (f 6) → (∀ X4 : Int32 → Int32 → Prop, (∀ (x2 : Int32) (x3 : Int32), ((((p0 < ((x3 + ((2 : Int32) * x2)) - (1 : Int32))) → Q (x3 + ((p0 - x3) - x2)) (f, g, a)) ∧ (¬ (p0 < ((x3 + ((2 : Int32) * x2)) - (1 : Int32))) → ∀ x6 : Int32, x6 = (x3 + x2) → ∀ x7 : Int32, x7 = x2 + (-1 : Int32) → X4 x7 x6))) → X4 x2 x3) → X4 x1 (0 : Int32))
abbrev rmX11_leftOf : Room := { frames := 0, cells := 0, slots := 0, locals := 0 }
set_option maxHeartbeats 4000000 in
set_option maxRecDepth 100000 in
theorem t_X11_leftOf (l : Launch) (dC : Nat → ClassId) (dI : Nat → Nat → Nat) (cI : ClassId) (h : Nat) (q : Nat → Nat) (sz : Nat) (f : Nat → Int32) (g : Int64) (a : Nat → Nat → Int32) (p0 : Int32) (Q0 : Int32 → MSt → Prop) (hw : w_X11_leftOf f g a p0 Q0) : Met l yX11_leftOf wsX11_leftOf rmX11_leftOf (g_pre g_T (dC, dI) vwCl [(cI, .int)] (MW cI h q f g a) sz [.ref h, .int p0]) (g_qi (dC, dI) vwCl [(cI, .int)] (MWu cI h q) Q0 (va_A (MW cI h q f g a) sz)) 0 0 (va_A (MW cI h q f g a) sz) := by
  refine g_starti (by decide) rfl (Nat.le_of_ble_eq_true rfl) ?_
  intro p e s m args below meth c A Q ls hx hb hml hown hts hin hK hP hD hA hS hZ hret hl
  obtain ⟨H, eH⟩ : ∃ H : Heap, H = s.heap := ⟨_, rfl⟩
  obtain ⟨locs, eL⟩ : ∃ L : List Loc, L = [] := ⟨_, rfl⟩
  have hS : va_S A s.heap H locs := by rw [eH, eL]; exact hS
  rw [← eH] at hP
  suffices hg : W p l e rmX11_leftOf s m args below meth c H locs 0 0 Q (F0 m 0 ls []) by rw [eH, eL] at hg; exact hg
  clear eH eL
  replace hl : lv_has ls 4 [(0, .ref h), (1, .int p0)] := hl
  have hf97 := hts (.fieldLink RX11 97 "NumberPileModel" "wide" "I") (by decide +kernel)
  have hiX11 : ∀ w ∈ u_ws RX11 TX11 29, w ∈ wsX11_leftOf := fun w h => List.mem_cons_of_mem _ (List.mem_append_right _ h)
  unfold w_X11_leftOf at hw
  refine lv_aload_n hx hb dX11_leftOf_0 rfl (lv_at hl 0 rfl) ?_
  refine va_get (D := (dC, dI)) (ci := 13) (v := .int (f 6)) (C := RX11) (T := TX11) (N := 29) hx hb hts hiX11 hown hK hP 0 rfl rfl 6 (by decide) hf97 (fun _ h9 => h9) rfl dX11_leftOf_1 ?_
  refine lv_topi (fun x1 ex1 => ?_)
  replace hw := hw x1 ex1
  refine lv_istore_n (lv' := [(2, .int x1), (0, .ref h), (1, .int p0)]) hx hb dX11_leftOf_4 rfl hl (by decide) rfl (fun ls hl => ?_)
  refine lv_iconst (v := 0) hx hb dX11_leftOf_5 (by decide) ?_
  refine lv_istore_n (lv' := [(3, .int (0 : Int32)), (2, .int x1), (0, .ref h), (1, .int p0)]) hx hb dX11_leftOf_6 rfl hl (by decide) rfl (fun ls hl => ?_)
  refine hw (fun (x2 : Int32) (x3 : Int32) => ∀ (H : Heap) (locs : List Loc) (ls : Array Slot), va_P (dC, dI) vwCl (MW cI h q f g a) H → va_D A (MW cI h q f g a) → va_S A s.heap H locs → lv_has ls 4 [(1, .int p0), (2, .int x2), (3, .int x3)] → W p l e rmX11_leftOf s m args below meth c H locs 0 0 Q (F0 m 7 ls [])) ?_ H locs ls hP hD hS (lv_sub hl [3, 1, 0] rfl)
  · intro x2 x3 hw H locs ls hP hD hS hl
    refine lv_iload_n hx hb dX11_leftOf_7 rfl (lv_at hl 0 rfl) ?_
    refine lv_iload_n hx hb dX11_leftOf_8 rfl (lv_at hl 2 rfl) ?_
    refine lv_iconst (v := 2) hx hb dX11_leftOf_9 (by decide) ?_
    refine lv_iload_n hx hb dX11_leftOf_10 rfl (lv_at hl 1 rfl) ?_
    refine lv_imul hx hb dX11_leftOf_11 ?_
    refine lv_iadd hx hb dX11_leftOf_12 ?_
    refine lv_iconst (v := 1) hx hb dX11_leftOf_13 (by decide) ?_
    refine lv_isub hx hb dX11_leftOf_14 ?_
    refine lv_icmp_lt (tgt := 28) hx hb dX11_leftOf_15 (by decide) (fun hc5 => ?_) (fun hc5 => ?_)
    · replace hw := hw.1 hc5
      refine lv_iload_n hx hb dX11_leftOf_28 rfl (lv_at hl 2 rfl) ?_
      refine lv_iload_n hx hb dX11_leftOf_29 rfl (lv_at hl 0 rfl) ?_
      refine lv_iload_n hx hb dX11_leftOf_30 rfl (lv_at hl 2 rfl) ?_
      refine lv_isub hx hb dX11_leftOf_31 ?_
      refine lv_iload_n hx hb dX11_leftOf_32 rfl (lv_at hl 1 rfl) ?_
      refine lv_isub hx hb dX11_leftOf_33 ?_
      refine lv_iadd hx hb dX11_leftOf_34 ?_
      exact hret dX11_leftOf_35 hK hP hD hS hw
    · replace hw := hw.2 hc5
      refine lv_iload_n hx hb dX11_leftOf_18 rfl (lv_at hl 2 rfl) ?_
      refine lv_iload_n hx hb dX11_leftOf_19 rfl (lv_at hl 1 rfl) ?_
      refine lv_iadd hx hb dX11_leftOf_20 ?_
      refine lv_topi (fun x6 ex6 => ?_)
      replace hw := hw x6 ex6
      refine lv_istore_n (lv' := [(3, .int x6), (1, .int p0), (2, .int x2)]) hx hb dX11_leftOf_21 rfl hl (by decide) rfl (fun ls hl => ?_)
      obtain ⟨x7, ex7⟩ : ∃ y : Int32, y = x2 + (-1 : Int32) := ⟨_, rfl⟩
      replace hw := hw x7 ex7
      refine lv_iinc (v := x7) (lv' := [(2, .int x7), (3, .int x6), (1, .int p0)]) hx hb dX11_leftOf_22 hl (k := 2) rfl (by rw [ex7]; rfl) (by decide) rfl (fun ls hl => ?_)
      refine lv_goto (tgt := 7) hx hb dX11_leftOf_25 (by decide) ?_
      exact hw H locs ls hP hD hS (lv_sub hl [2, 0, 1] rfl)

def w_X11_layValues (f : Nat → Int32) (g : Int64) (a : Nat → Nat → Int32)  (Q : MSt → Prop) : Prop := (∀ X3 : Int32 → MSt → Prop, (∀ (x1 : Int32) (u2 : MSt), (((((u2.1 7) ≤ x1) → Q u2) ∧ (¬ ((u2.1 7) ≤ x1) → ∀ J7 : Int32 → MSt → Prop, (∀ (x5 : Int32) (u6 : MSt), ((vp_in x1 10) ∧ ∀ x9 : Int32, x9 = x1 + (1 : Int32) → X3 x9 (u6.1, u6.2.1, (va_up u6.2.2 13 (upd (u6.2.2 13) x1.toNatClampNeg x5)))) → J7 x5 u6) → ((((u2.1 6) ≤ x1) → (vp_in x1 10) ∧ w_X11_leftOf u2.1 (u2.2.1) u2.2.2 x1 (fun (r13 : Int32) (u12 : MSt) => (vp_in r13 10) ∧ w_X11_leftOf u12.1 (u12.2.1) u12.2.2 x1 (fun (r16 : Int32) (u15 : MSt) => (vp_in (r16 + (1 : Int32)) 10) ∧ w_X11_madeBy ((u2.2.2 10) x1.toNatClampNeg) ((u12.2.2 13) r13.toNatClampNeg) ((u15.2.2 13) (r16 + (1 : Int32)).toNatClampNeg) (fun (r18 : Int32) => J7 r18 u15)))) ∧ (¬ ((u2.1 6) ≤ x1) → (vp_in x1 4) ∧ J7 ((u2.2.2 14) x1.toNatClampNeg) u2))))) → X3 x1 u2) → X3 (0 : Int32) (f, g, a))
abbrev rmX11_layValues : Room := { frames := 1, cells := 0, slots := 0, locals := 23 }
set_option maxHeartbeats 4000000 in
set_option maxRecDepth 100000 in
theorem t_X11_layValues (l : Launch) (dC : Nat → ClassId) (dI : Nat → Nat → Nat) (cI : ClassId) (h : Nat) (q : Nat → Nat) (sz : Nat) (f : Nat → Int32) (g : Int64) (a : Nat → Nat → Int32)  (Q0 : MSt → Prop) (hw : w_X11_layValues f g a  Q0) : Met l yX11_layValues wsX11_layValues rmX11_layValues (g_pre g_T (dC, dI) vwCl [(cI, .int)] (MW cI h q f g a) sz [.ref h]) (g_qv (dC, dI) vwCl [(cI, .int)] (MWu cI h q) Q0 (va_A (MW cI h q f g a) sz)) 0 0 (va_A (MW cI h q f g a) sz) := by
  refine g_startv (by decide) rfl (Nat.le_of_ble_eq_true rfl) ?_
  intro p e s m args below meth c A Q ls hx hb hml hown hts hin hK hP hD hA hS hZ hret hl
  obtain ⟨H, eH⟩ : ∃ H : Heap, H = s.heap := ⟨_, rfl⟩
  obtain ⟨locs, eL⟩ : ∃ L : List Loc, L = [] := ⟨_, rfl⟩
  have hS : va_S A s.heap H locs := by rw [eH, eL]; exact hS
  rw [← eH] at hP
  suffices hg : W p l e rmX11_layValues s m args below meth c H locs 0 0 Q (F0 m 0 ls []) by rw [eH, eL] at hg; exact hg
  clear eH eL
  replace hl : lv_has ls 2 [(0, .ref h)] := hl
  have hf103 := hts (.fieldLink RX11 103 "NumberPileModel" "bricks" "I") (by decide +kernel)
  have hiX11 : ∀ w ∈ u_ws RX11 TX11 29, w ∈ wsX11_layValues := fun w h => List.mem_cons_of_mem _ (List.mem_append_right _ h)
  have hf25 := hts (.fieldLink RX11 25 "NumberPileModel" "values" "[I") (by decide +kernel)
  have hf97 := hts (.fieldLink RX11 97 "NumberPileModel" "wide" "I") (by decide +kernel)
  have hf16 := hts (.fieldLink RX11 16 "NumberPileModel" "kinds" "[I") (by decide +kernel)
  have hf28 := hts (.fieldLink RX11 28 "NumberPileModel" "some" "[I") (by decide +kernel)
  unfold w_X11_layValues at hw
  refine lv_iconst (v := 0) hx hb dX11_layValues_0 (by decide) ?_
  refine lv_istore_n (lv' := [(1, .int (0 : Int32)), (0, .ref h)]) hx hb dX11_layValues_1 rfl hl (by decide) rfl (fun ls hl => ?_)
  refine hw (fun (x1 : Int32) (u2 : MSt) => ∀ (H : Heap) (locs : List Loc) (ls : Array Slot), va_P (dC, dI) vwCl (MW cI h q u2.1 (u2.2.1) u2.2.2) H → va_D A (MW cI h q u2.1 (u2.2.1) u2.2.2) → va_S A s.heap H locs → lv_has ls 2 [(0, .ref h), (1, .int x1)] → W p l e rmX11_layValues s m args below meth c H locs 0 0 Q (F0 m 2 ls [])) ?_ H locs ls hP hD hS (lv_sub hl [1, 0] rfl)
  · intro x1 u2 hw H locs ls hP hD hS hl
    refine lv_iload_n hx hb dX11_layValues_2 rfl (lv_at hl 1 rfl) ?_
    refine lv_aload_n hx hb dX11_layValues_3 rfl (lv_at hl 0 rfl) ?_
    refine va_get (D := (dC, dI)) (ci := 13) (v := .int (u2.1 7)) (C := RX11) (T := TX11) (N := 29) hx hb hts hiX11 hown hK hP 0 rfl rfl 7 (by decide) hf103 (fun _ h9 => h9) rfl dX11_layValues_4 ?_
    refine lv_icmp_ge (tgt := 70) hx hb dX11_layValues_7 (by decide) (fun hc4 => ?_) (fun hc4 => ?_)
    · replace hw := hw.1 hc4
      exact hret dX11_layValues_70 hK hP hD hS hw
    · replace hw := hw.2 hc4
      refine lv_aload_n hx hb dX11_layValues_10 rfl (lv_at hl 0 rfl) ?_
      refine va_get (D := (dC, dI)) (ci := 13) (v := .ref (q 13)) (C := RX11) (T := TX11) (N := 29) hx hb hts hiX11 hown hK hP 0 rfl rfl 13 (by decide) hf25 (fun _ h9 => h9) rfl dX11_layValues_11 ?_
      refine lv_iload_n hx hb dX11_layValues_14 rfl (lv_at hl 1 rfl) ?_
      refine lv_iload_n hx hb dX11_layValues_15 rfl (lv_at hl 1 rfl) ?_
      refine lv_aload_n hx hb dX11_layValues_16 rfl (lv_at hl 0 rfl) ?_
      refine va_get (D := (dC, dI)) (ci := 13) (v := .int (u2.1 6)) (C := RX11) (T := TX11) (N := 29) hx hb hts hiX11 hown hK hP 0 rfl rfl 6 (by decide) hf97 (fun _ h9 => h9) rfl dX11_layValues_17 ?_
      replace hw := hw (fun (x5 : Int32) (u6 : MSt) => ∀ (H : Heap) (locs : List Loc) (ls : Array Slot), va_P (dC, dI) vwCl (MW cI h q u6.1 (u6.2.1) u6.2.2) H → va_D A (MW cI h q u6.1 (u6.2.1) u6.2.2) → va_S A s.heap H locs → lv_has ls 2 [(0, .ref h), (1, .int x1)] → W p l e rmX11_layValues s m args below meth c H locs 0 0 Q (F0 m 63 ls [.int x5, .int x1, .ref (q 13)])) (by
        intro x5 u6 hw H locs ls hP hD hS hl
        obtain ⟨hb8, hw⟩ := hw
        refine va_iast hx hb hK hP hD hS 6 0 rfl rfl hb8 dX11_layValues_63 (fun H locs hP hD hS => ?_)
        replace hP : va_P (dC, dI) vwCl (MW cI h q u6.1 (u6.2.1) (va_up u6.2.2 13 (upd (u6.2.2 13) x1.toNatClampNeg x5))) H := hP
        replace hD : va_D A (MW cI h q u6.1 (u6.2.1) (va_up u6.2.2 13 (upd (u6.2.2 13) x1.toNatClampNeg x5))) := hD
        obtain ⟨x9, ex9⟩ : ∃ y : Int32, y = x1 + (1 : Int32) := ⟨_, rfl⟩
        replace hw := hw x9 ex9
        refine lv_iinc (v := x9) (lv' := [(1, .int x9), (0, .ref h)]) hx hb dX11_layValues_64 hl (k := 1) rfl (by rw [ex9]; rfl) (by decide) rfl (fun ls hl => ?_)
        refine lv_goto (tgt := 2) hx hb dX11_layValues_67 (by decide) ?_
        exact hw H locs ls hP hD hS (lv_sub hl [1, 0] rfl))
      refine lv_icmp_ge (tgt := 32) hx hb dX11_layValues_20 (by decide) (fun hc10 => ?_) (fun hc10 => ?_)
      · replace hw := hw.1 hc10
        refine lv_aload_n hx hb dX11_layValues_32 rfl (lv_at hl 0 rfl) ?_
        refine va_get (D := (dC, dI)) (ci := 13) (v := .ref (q 10)) (C := RX11) (T := TX11) (N := 29) hx hb hts hiX11 hown hK hP 0 rfl rfl 10 (by decide) hf16 (fun _ h9 => h9) rfl dX11_layValues_33 ?_
        refine lv_iload_n hx hb dX11_layValues_36 rfl (lv_at hl 1 rfl) ?_
        obtain ⟨hb11, hw⟩ := hw
        refine va_iald hx hb hK hP 3 0 rfl rfl hb11 dX11_layValues_37 ?_
        refine lv_aload_n hx hb dX11_layValues_38 rfl (lv_at hl 0 rfl) ?_
        refine va_get (D := (dC, dI)) (ci := 13) (v := .ref (q 13)) (C := RX11) (T := TX11) (N := 29) hx hb hts hiX11 hown hK hP 0 rfl rfl 13 (by decide) hf25 (fun _ h9 => h9) rfl dX11_layValues_39 ?_
        refine lv_aload_n hx hb dX11_layValues_42 rfl (lv_at hl 0 rfl) ?_
        refine lv_iload_n hx hb dX11_layValues_43 rfl (lv_at hl 1 rfl) ?_
        refine g_callVi (rest := [.ref (q 13), .int ((u2.2.2 10) x1.toNatClampNeg), .int x1, .ref (q 13)]) (W2 := (MWu cI h q)) [.int x1] [0, 1, 2, 3, 4, 5, 6, 7, 8, 9, 10, 11, 12, 13] [] [0] [0, 1, 2, 3, 4, 5, 6, 7, 8, 9, 10, 11, 12, 13] g_Tb (fun _ _ _ _ => trivial) ⟨hx, hb, hml, hown, hts⟩ (t_X11_leftOf l dC dI cI h q H.size u2.1 (u2.2.1) u2.2.2 x1 _ hw) (cwV 1 hts gX11_layValues_X11_leftOf rfl rfl rfl (by decide +kernel) ⟨Nat.le_of_ble_eq_true rfl, Nat.le_of_ble_eq_true rfl⟩) hK hP hD hS hA rfl (by decide) (wr := []) rfl (by decide) (by decide) rfl (fun _ => rfl) (by decide) (q0 := 0) rfl rfl rfl hl.1 (Nat.le_of_ble_eq_true rfl) dX11_layValues_44 ⟨Nat.le_of_ble_eq_true rfl, Nat.le_of_ble_eq_true rfl⟩ (fun r13 u12 H locs hw hP hD hS => ?_)
        obtain ⟨hb14, hw⟩ := hw
        refine va_iald hx hb hK hP 6 0 rfl rfl hb14 dX11_layValues_47 ?_
        refine lv_aload_n hx hb dX11_layValues_48 rfl (lv_at hl 0 rfl) ?_
        refine va_get (D := (dC, dI)) (ci := 13) (v := .ref (q 13)) (C := RX11) (T := TX11) (N := 29) hx hb hts hiX11 hown hK hP 0 rfl rfl 13 (by decide) hf25 (fun _ h9 => h9) rfl dX11_layValues_49 ?_
        refine lv_aload_n hx hb dX11_layValues_52 rfl (lv_at hl 0 rfl) ?_
        refine lv_iload_n hx hb dX11_layValues_53 rfl (lv_at hl 1 rfl) ?_
        refine g_callVi (rest := [.ref (q 13), .int ((u12.2.2 13) r13.toNatClampNeg), .int ((u2.2.2 10) x1.toNatClampNeg), .int x1, .ref (q 13)]) (W2 := (MWu cI h q)) [.int x1] [0, 1, 2, 3, 4, 5, 6, 7, 8, 9, 10, 11, 12, 13] [] [0] [0, 1, 2, 3, 4, 5, 6, 7, 8, 9, 10, 11, 12, 13] g_Tb (fun _ _ _ _ => trivial) ⟨hx, hb, hml, hown, hts⟩ (t_X11_leftOf l dC dI cI h q H.size u12.1 (u12.2.1) u12.2.2 x1 _ hw) (cwV 1 hts gX11_layValues_X11_leftOf rfl rfl rfl (by decide +kernel) ⟨Nat.le_of_ble_eq_true rfl, Nat.le_of_ble_eq_true rfl⟩) hK hP hD hS hA rfl (by decide) (wr := []) rfl (by decide) (by decide) rfl (fun _ => rfl) (by decide) (q0 := 0) rfl rfl rfl hl.1 (Nat.le_of_ble_eq_true rfl) dX11_layValues_54 ⟨Nat.le_of_ble_eq_true rfl, Nat.le_of_ble_eq_true rfl⟩ (fun r16 u15 H locs hw hP hD hS => ?_)
        refine lv_iconst (v := 1) hx hb dX11_layValues_57 (by decide) ?_
        refine lv_iadd hx hb dX11_layValues_58 ?_
        obtain ⟨hb17, hw⟩ := hw
        refine va_iald hx hb hK hP 6 0 rfl rfl hb17 dX11_layValues_59 ?_
        refine g_callP (rest := [.int x1, .ref (q 13)]) [.int ((u2.2.2 10) x1.toNatClampNeg), .int ((u12.2.2 13) r13.toNatClampNeg), .int ((u15.2.2 13) (r16 + (1 : Int32)).toNatClampNeg)] ⟨hx, hb, hml, hown, hts⟩ (t_X11_madeBy l ((u2.2.2 10) x1.toNatClampNeg) ((u12.2.2 13) r13.toNatClampNeg) ((u15.2.2 13) (r16 + (1 : Int32)).toNatClampNeg) _ hw) (va_cwS 3 hts gX11_layValues_X11_madeBy rfl rfl rfl (by decide +kernel) ⟨Nat.le_of_ble_eq_true rfl, Nat.le_of_ble_eq_true rfl⟩) rfl hl.1 (Nat.le_of_ble_eq_true rfl) dX11_layValues_60 ⟨Nat.le_of_ble_eq_true rfl, Nat.le_of_ble_eq_true rfl⟩ (fun r18 hw => ?_)
        exact hw H locs ls hP hD hS (lv_sub hl [0, 1] rfl)
      · replace hw := hw.2 hc10
        refine lv_aload_n hx hb dX11_layValues_23 rfl (lv_at hl 0 rfl) ?_
        refine va_get (D := (dC, dI)) (ci := 13) (v := .ref (q 14)) (C := RX11) (T := TX11) (N := 29) hx hb hts hiX11 hown hK hP 0 rfl rfl 14 (by decide) hf28 (fun _ h9 => h9) rfl dX11_layValues_24 ?_
        refine lv_iload_n hx hb dX11_layValues_27 rfl (lv_at hl 1 rfl) ?_
        obtain ⟨hb19, hw⟩ := hw
        refine va_iald hx hb hK hP 7 0 rfl rfl hb19 dX11_layValues_28 ?_
        refine lv_goto (tgt := 63) hx hb dX11_layValues_29 (by decide) ?_
        exact hw H locs ls hP hD hS (lv_sub hl [0, 1] rfl)

def w_X11_layNow (f : Nat → Int32) (g : Int64) (a : Nat → Nat → Int32)  (Q : MSt → Prop) : Prop := w_X11_copy 4 4 (a 11) (a 14) (fun (u1 : (Nat → Int32) × (Nat → Int32)) => w_X11_layValues f g (va_up (va_up a 11 u1.1) 14 u1.2) (fun (u2 : MSt) => Q u2))
abbrev rmX11_layNow : Room := { frames := 2, cells := 0, slots := 0, locals := 44 }
set_option maxHeartbeats 4000000 in
set_option maxRecDepth 100000 in
theorem t_X11_layNow (l : Launch) (dC : Nat → ClassId) (dI : Nat → Nat → Nat) (cI : ClassId) (h : Nat) (q : Nat → Nat) (sz : Nat) (f : Nat → Int32) (g : Int64) (a : Nat → Nat → Int32)  (Q0 : MSt → Prop) (hw : w_X11_layNow f g a  Q0) : Met l yX11_layNow wsX11_layNow rmX11_layNow (g_pre g_T (dC, dI) vwCl [(cI, .int)] (MW cI h q f g a) sz [.ref h]) (g_qv (dC, dI) vwCl [(cI, .int)] (MWu cI h q) Q0 (va_A (MW cI h q f g a) sz)) 0 0 (va_A (MW cI h q f g a) sz) := by
  refine g_startv (by decide) rfl (Nat.le_of_ble_eq_true rfl) ?_
  intro p e s m args below meth c A Q ls hx hb hml hown hts hin hK hP hD hA hS hZ hret hl
  obtain ⟨H, eH⟩ : ∃ H : Heap, H = s.heap := ⟨_, rfl⟩
  obtain ⟨locs, eL⟩ : ∃ L : List Loc, L = [] := ⟨_, rfl⟩
  have hS : va_S A s.heap H locs := by rw [eH, eL]; exact hS
  rw [← eH] at hP
  suffices hg : W p l e rmX11_layNow s m args below meth c H locs 0 0 Q (F0 m 0 ls []) by rw [eH, eL] at hg; exact hg
  clear eH eL
  replace hl : lv_has ls 1 [(0, .ref h)] := hl
  have hf19 := hts (.fieldLink RX11 19 "NumberPileModel" "figures" "[I") (by decide +kernel)
  have hiX11 : ∀ w ∈ u_ws RX11 TX11 29, w ∈ wsX11_layNow := fun w h => List.mem_cons_of_mem _ (List.mem_append_right _ h)
  have hf28 := hts (.fieldLink RX11 28 "NumberPileModel" "some" "[I") (by decide +kernel)
  unfold w_X11_layNow at hw
  refine lv_aload_n hx hb dX11_layNow_0 rfl (lv_at hl 0 rfl) ?_
  refine va_get (D := (dC, dI)) (ci := 13) (v := .ref (q 11)) (C := RX11) (T := TX11) (N := 29) hx hb hts hiX11 hown hK hP 0 rfl rfl 11 (by decide) hf19 (fun _ h9 => h9) rfl dX11_layNow_1 ?_
  refine lv_aload_n hx hb dX11_layNow_4 rfl (lv_at hl 0 rfl) ?_
  refine va_get (D := (dC, dI)) (ci := 13) (v := .ref (q 14)) (C := RX11) (T := TX11) (N := 29) hx hb hts hiX11 hown hK hP 0 rfl rfl 14 (by decide) hf28 (fun _ h9 => h9) rfl dX11_layNow_5 ?_
  refine g_callSv (rest := []) (W2 := fun u1 => (MW cI h q f g (va_up (va_up a 11 u1.1) 14 u1.2))) [.ref (q 11), .ref (q 14)] [4, 7] [0, 1, 2, 3, 5, 6, 8, 9, 10, 11, 12, 13] [0] [0, 1, 2, 3, 12, 4, 5, 13, 6, 7, 8, 9, 10, 11] g_Tb (fun _ _ _ _ => trivial) ⟨hx, hb, hml, hown, hts⟩ (t_X11_copy l dC dI cI (q 11) (q 14) H.size 4 4 (a 11) (a 14) _ hw) (va_cwS 2 hts gX11_layNow_X11_copy rfl rfl rfl (by decide +kernel) ⟨Nat.le_of_ble_eq_true rfl, Nat.le_of_ble_eq_true rfl⟩) hK hP hD hS hA rfl (by decide) (wr := [(h, .inr (13, MWf q f g)), (q 0, .inl (cI, 18, .inl (a 0))), (q 5, .inl (cI, 10, .inl (a 5))), (q 10, .inl (cI, 10, .inl (a 10))), (q 12, .inl (cI, 10, .inl (a 12))), (q 13, .inl (cI, 10, .inl (a 13))), (q 16, .inl (cI, 1000, .inl (a 16))), (q 19, .inl (cI, 24, .inl (a 19))), (q 24, .inl (cI, 10, .inl (a 24))), (q 25, .inl (cI, 4, .inl (a 25))), (q 26, .inl (cI, 10, .inl (a 26))), (q 27, .inl (cI, 24, .inl (a 27)))]) rfl (by decide) (by decide) rfl (fun _ => rfl) (by decide) rfl hl.1 (Nat.le_of_ble_eq_true rfl) dX11_layNow_8 ⟨Nat.le_of_ble_eq_true rfl, Nat.le_of_ble_eq_true rfl⟩ (fun u1 H locs hw hP hD hS => ?_)
  refine lv_aload_n hx hb dX11_layNow_11 rfl (lv_at hl 0 rfl) ?_
  refine g_callVv (rest := []) (W2 := (MWu cI h q)) [] [0, 1, 2, 3, 4, 5, 6, 7, 8, 9, 10, 11, 12, 13] [] [0] [0, 1, 2, 3, 4, 5, 6, 7, 8, 9, 10, 11, 12, 13] g_Tb (fun _ _ _ _ => trivial) ⟨hx, hb, hml, hown, hts⟩ (t_X11_layValues l dC dI cI h q H.size f g (va_up (va_up a 11 u1.1) 14 u1.2) _ hw) (cwV 0 hts gX11_layNow_X11_layValues rfl rfl rfl (by decide +kernel) ⟨Nat.le_of_ble_eq_true rfl, Nat.le_of_ble_eq_true rfl⟩) hK hP hD hS hA rfl (by decide) (wr := []) rfl (by decide) (by decide) rfl (fun _ => rfl) (by decide) (q0 := 0) rfl rfl rfl hl.1 (Nat.le_of_ble_eq_true rfl) dX11_layNow_12 ⟨Nat.le_of_ble_eq_true rfl, Nat.le_of_ble_eq_true rfl⟩ (fun u2 H locs hw hP hD hS => ?_)
  exact hret dX11_layNow_15 hK hP hD hS hw

def w_X11_layNumber (f : Nat → Int32) (g : Int64) (a : Nat → Nat → Int32) (p0 : Int32) (Q : MSt → Prop) : Prop := ∀ x1 : Int32, x1 = ((f 6) - (1 : Int32)) → (∀ X5 : Int32 → Int32 → MSt → Prop, (∀ (x2 : Int32) (x3 : Int32) (u4 : MSt), ((((x3 < 0) → w_X11_layValues u4.1 (u4.2.1) u4.2.2 (fun (u7 : MSt) => Q u7)) ∧ (¬ (x3 < 0) → ∀ x9 : Int32, x9 = (x2 - x2 / (10 : Int32) * (10 : Int32)) → (vp_in x3 4) ∧ ∀ x10 : Int32, x10 = (x2 / (10 : Int32)) → ∀ x11 : Int32, x11 = x3 + (-1 : Int32) → X5 x10 x11 (u4.1, u4.2.1, (va_up u4.2.2 14 (upd (u4.2.2 14) x3.toNatClampNeg x9)))))) → X5 x2 x3 u4) → X5 p0 x1 (f, g, a))
abbrev rmX11_layNumber : Room := { frames := 2, cells := 0, slots := 0, locals := 44 }
set_option maxHeartbeats 4000000 in
set_option maxRecDepth 100000 in
theorem t_X11_layNumber (l : Launch) (dC : Nat → ClassId) (dI : Nat → Nat → Nat) (cI : ClassId) (h : Nat) (q : Nat → Nat) (sz : Nat) (f : Nat → Int32) (g : Int64) (a : Nat → Nat → Int32) (p0 : Int32) (Q0 : MSt → Prop) (hw : w_X11_layNumber f g a p0 Q0) : Met l yX11_layNumber wsX11_layNumber rmX11_layNumber (g_pre g_T (dC, dI) vwCl [(cI, .int)] (MW cI h q f g a) sz [.ref h, .int p0]) (g_qv (dC, dI) vwCl [(cI, .int)] (MWu cI h q) Q0 (va_A (MW cI h q f g a) sz)) 0 0 (va_A (MW cI h q f g a) sz) := by
  refine g_startv (by decide) rfl (Nat.le_of_ble_eq_true rfl) ?_
  intro p e s m args below meth c A Q ls hx hb hml hown hts hin hK hP hD hA hS hZ hret hl
  obtain ⟨H, eH⟩ : ∃ H : Heap, H = s.heap := ⟨_, rfl⟩
  obtain ⟨locs, eL⟩ : ∃ L : List Loc, L = [] := ⟨_, rfl⟩
  have hS : va_S A s.heap H locs := by rw [eH, eL]; exact hS
  rw [← eH] at hP
  suffices hg : W p l e rmX11_layNumber s m args below meth c H locs 0 0 Q (F0 m 0 ls []) by rw [eH, eL] at hg; exact hg
  clear eH eL
  replace hl : lv_has ls 4 [(0, .ref h), (1, .int p0)] := hl
  have hf97 := hts (.fieldLink RX11 97 "NumberPileModel" "wide" "I") (by decide +kernel)
  have hiX11 : ∀ w ∈ u_ws RX11 TX11 29, w ∈ wsX11_layNumber := fun w h => List.mem_cons_of_mem _ (List.mem_append_right _ h)
  have hf28 := hts (.fieldLink RX11 28 "NumberPileModel" "some" "[I") (by decide +kernel)
  unfold w_X11_layNumber at hw
  refine lv_iload_n hx hb dX11_layNumber_0 rfl (lv_at hl 1 rfl) ?_
  refine lv_istore_n (lv' := [(2, .int p0), (0, .ref h), (1, .int p0)]) hx hb dX11_layNumber_1 rfl hl (by decide) rfl (fun ls hl => ?_)
  refine lv_aload_n hx hb dX11_layNumber_2 rfl (lv_at hl 1 rfl) ?_
  refine va_get (D := (dC, dI)) (ci := 13) (v := .int (f 6)) (C := RX11) (T := TX11) (N := 29) hx hb hts hiX11 hown hK hP 0 rfl rfl 6 (by decide) hf97 (fun _ h9 => h9) rfl dX11_layNumber_3 ?_
  refine lv_iconst (v := 1) hx hb dX11_layNumber_6 (by decide) ?_
  refine lv_isub hx hb dX11_layNumber_7 ?_
  refine lv_topi (fun x1 ex1 => ?_)
  replace hw := hw x1 ex1
  refine lv_istore_n (lv' := [(3, .int x1), (2, .int p0), (0, .ref h), (1, .int p0)]) hx hb dX11_layNumber_8 rfl hl (by decide) rfl (fun ls hl => ?_)
  refine hw (fun (x2 : Int32) (x3 : Int32) (u4 : MSt) => ∀ (H : Heap) (locs : List Loc) (ls : Array Slot), va_P (dC, dI) vwCl (MW cI h q u4.1 (u4.2.1) u4.2.2) H → va_D A (MW cI h q u4.1 (u4.2.1) u4.2.2) → va_S A s.heap H locs → lv_has ls 4 [(0, .ref h), (2, .int x2), (3, .int x3)] → W p l e rmX11_layNumber s m args below meth c H locs 0 0 Q (F0 m 9 ls [])) ?_ H locs ls hP hD hS (lv_sub hl [2, 1, 0] rfl)
  · intro x2 x3 u4 hw H locs ls hP hD hS hl
    refine lv_iload_n hx hb dX11_layNumber_9 rfl (lv_at hl 2 rfl) ?_
    refine lv_if_lt (tgt := 34) hx hb dX11_layNumber_10 (by decide) (fun hc6 => ?_) (fun hc6 => ?_)
    · replace hw := hw.1 hc6
      refine lv_aload_n hx hb dX11_layNumber_34 rfl (lv_at hl 0 rfl) ?_
      refine g_callVv (rest := []) (W2 := (MWu cI h q)) [] [0, 1, 2, 3, 4, 5, 6, 7, 8, 9, 10, 11, 12, 13] [] [0] [0, 1, 2, 3, 4, 5, 6, 7, 8, 9, 10, 11, 12, 13] g_Tb (fun _ _ _ _ => trivial) ⟨hx, hb, hml, hown, hts⟩ (t_X11_layValues l dC dI cI h q H.size u4.1 (u4.2.1) u4.2.2 _ hw) (cwV 0 hts gX11_layNumber_X11_layValues rfl rfl rfl (by decide +kernel) ⟨Nat.le_of_ble_eq_true rfl, Nat.le_of_ble_eq_true rfl⟩) hK hP hD hS hA rfl (by decide) (wr := []) rfl (by decide) (by decide) rfl (fun _ => rfl) (by decide) (q0 := 0) rfl rfl rfl hl.1 (Nat.le_of_ble_eq_true rfl) dX11_layNumber_35 ⟨Nat.le_of_ble_eq_true rfl, Nat.le_of_ble_eq_true rfl⟩ (fun u7 H locs hw hP hD hS => ?_)
      exact hret dX11_layNumber_38 hK hP hD hS hw
    · replace hw := hw.2 hc6
      refine lv_aload_n hx hb dX11_layNumber_13 rfl (lv_at hl 0 rfl) ?_
      refine va_get (D := (dC, dI)) (ci := 13) (v := .ref (q 14)) (C := RX11) (T := TX11) (N := 29) hx hb hts hiX11 hown hK hP 0 rfl rfl 14 (by decide) hf28 (fun _ h9 => h9) rfl dX11_layNumber_14 ?_
      refine lv_iload_n hx hb dX11_layNumber_17 rfl (lv_at hl 2 rfl) ?_
      refine lv_iload_n hx hb dX11_layNumber_18 rfl (lv_at hl 1 rfl) ?_
      refine lv_bipush (v := 10) hx hb dX11_layNumber_19 (by decide) ?_
      refine lv_irem hx hb dX11_layNumber_21 (by decide) ?_
      refine lv_topi (fun x9 ex9 => ?_)
      replace hw := hw x9 ex9
      obtain ⟨hb8, hw⟩ := hw
      refine va_iast hx hb hK hP hD hS 7 0 rfl rfl hb8 dX11_layNumber_22 (fun H locs hP hD hS => ?_)
      replace hP : va_P (dC, dI) vwCl (MW cI h q u4.1 (u4.2.1) (va_up u4.2.2 14 (upd (u4.2.2 14) x3.toNatClampNeg x9))) H := hP
      replace hD : va_D A (MW cI h q u4.1 (u4.2.1) (va_up u4.2.2 14 (upd (u4.2.2 14) x3.toNatClampNeg x9))) := hD
      refine lv_iload_n hx hb dX11_layNumber_23 rfl (lv_at hl 1 rfl) ?_
      refine lv_bipush (v := 10) hx hb dX11_layNumber_24 (by decide) ?_
      refine lv_idiv hx hb dX11_layNumber_26 (by decide) ?_
      refine lv_topi (fun x10 ex10 => ?_)
      replace hw := hw x10 ex10
      refine lv_istore_n (lv' := [(2, .int x10), (0, .ref h), (3, .int x3)]) hx hb dX11_layNumber_27 rfl hl (by decide) rfl (fun ls hl => ?_)
      obtain ⟨x11, ex11⟩ : ∃ y : Int32, y = x3 + (-1 : Int32) := ⟨_, rfl⟩
      replace hw := hw x11 ex11
      refine lv_iinc (v := x11) (lv' := [(3, .int x11), (2, .int x10), (0, .ref h)]) hx hb dX11_layNumber_28 hl (k := 2) rfl (by rw [ex11]; rfl) (by decide) rfl (fun ls hl => ?_)
      refine lv_goto (tgt := 9) hx hb dX11_layNumber_31 (by decide) ?_
      exact hw H locs ls hP hD hS (lv_sub hl [2, 1, 0] rfl)

def w_X11_numberOf (f : Nat → Int32) (g : Int64) (a : Nat → Nat → Int32)  (Q : Int32 → MSt → Prop) : Prop := (∀ X3 : Int32 → Int32 → Prop, (∀ (x1 : Int32) (x2 : Int32), (((((f 6) ≤ x2) → Q x1 (f, g, a)) ∧ (¬ ((f 6) ≤ x2) → (vp_in x2 4) ∧ ∀ x6 : Int32, x6 = (((10 : Int32) * x1) + ((a 11) x2.toNatClampNeg)) → ∀ x7 : Int32, x7 = x2 + (1 : Int32) → X3 x6 x7))) → X3 x1 x2) → X3 (0 : Int32) (0 : Int32))
abbrev rmX11_numberOf : Room := { frames := 0, cells := 0, slots := 0, locals := 0 }
set_option maxHeartbeats 4000000 in
set_option maxRecDepth 100000 in
theorem t_X11_numberOf (l : Launch) (dC : Nat → ClassId) (dI : Nat → Nat → Nat) (cI : ClassId) (h : Nat) (q : Nat → Nat) (sz : Nat) (f : Nat → Int32) (g : Int64) (a : Nat → Nat → Int32)  (Q0 : Int32 → MSt → Prop) (hw : w_X11_numberOf f g a  Q0) : Met l yX11_numberOf wsX11_numberOf rmX11_numberOf (g_pre g_T (dC, dI) vwCl [(cI, .int)] (MW cI h q f g a) sz [.ref h, .ref (q 11)]) (g_qi (dC, dI) vwCl [(cI, .int)] (MWu cI h q) Q0 (va_A (MW cI h q f g a) sz)) 0 0 (va_A (MW cI h q f g a) sz) := by
  refine g_starti (by decide) rfl (Nat.le_of_ble_eq_true rfl) ?_
  intro p e s m args below meth c A Q ls hx hb hml hown hts hin hK hP hD hA hS hZ hret hl
  obtain ⟨H, eH⟩ : ∃ H : Heap, H = s.heap := ⟨_, rfl⟩
  obtain ⟨locs, eL⟩ : ∃ L : List Loc, L = [] := ⟨_, rfl⟩
  have hS : va_S A s.heap H locs := by rw [eH, eL]; exact hS
  rw [← eH] at hP
  suffices hg : W p l e rmX11_numberOf s m args below meth c H locs 0 0 Q (F0 m 0 ls []) by rw [eH, eL] at hg; exact hg
  clear eH eL
  replace hl : lv_has ls 4 [(0, .ref h), (1, .ref (q 11))] := hl
  have hf97 := hts (.fieldLink RX11 97 "NumberPileModel" "wide" "I") (by decide +kernel)
  have hiX11 : ∀ w ∈ u_ws RX11 TX11 29, w ∈ wsX11_numberOf := fun w h => List.mem_cons_of_mem _ (List.mem_append_right _ h)
  unfold w_X11_numberOf at hw
  refine lv_iconst (v := 0) hx hb dX11_numberOf_0 (by decide) ?_
  refine lv_istore_n (lv' := [(2, .int (0 : Int32)), (0, .ref h), (1, .ref (q 11))]) hx hb dX11_numberOf_1 rfl hl (by decide) rfl (fun ls hl => ?_)
  refine lv_iconst (v := 0) hx hb dX11_numberOf_2 (by decide) ?_
  refine lv_istore_n (lv' := [(3, .int (0 : Int32)), (2, .int (0 : Int32)), (0, .ref h), (1, .ref (q 11))]) hx hb dX11_numberOf_3 rfl hl (by decide) rfl (fun ls hl => ?_)
  refine hw (fun (x1 : Int32) (x2 : Int32) => ∀ (H : Heap) (locs : List Loc) (ls : Array Slot), va_P (dC, dI) vwCl (MW cI h q f g a) H → va_D A (MW cI h q f g a) → va_S A s.heap H locs → lv_has ls 4 [(0, .ref h), (1, .ref (q 11)), (2, .int x1), (3, .int x2)] → W p l e rmX11_numberOf s m args below meth c H locs 0 0 Q (F0 m 4 ls [])) ?_ H locs ls hP hD hS (lv_sub hl [2, 3, 1, 0] rfl)
  · intro x1 x2 hw H locs ls hP hD hS hl
    refine lv_iload_n hx hb dX11_numberOf_4 rfl (lv_at hl 3 rfl) ?_
    refine lv_aload_n hx hb dX11_numberOf_5 rfl (lv_at hl 0 rfl) ?_
    refine va_get (D := (dC, dI)) (ci := 13) (v := .int (f 6)) (C := RX11) (T := TX11) (N := 29) hx hb hts hiX11 hown hK hP 0 rfl rfl 6 (by decide) hf97 (fun _ h9 => h9) rfl dX11_numberOf_6 ?_
    refine lv_icmp_ge (tgt := 27) hx hb dX11_numberOf_9 (by decide) (fun hc4 => ?_) (fun hc4 => ?_)
    · replace hw := hw.1 hc4
      refine lv_iload_n hx hb dX11_numberOf_27 rfl (lv_at hl 2 rfl) ?_
      exact hret dX11_numberOf_28 hK hP hD hS hw
    · replace hw := hw.2 hc4
      refine lv_bipush (v := 10) hx hb dX11_numberOf_12 (by decide) ?_
      refine lv_iload_n hx hb dX11_numberOf_14 rfl (lv_at hl 2 rfl) ?_
      refine lv_imul hx hb dX11_numberOf_15 ?_
      refine lv_aload_n hx hb dX11_numberOf_16 rfl (lv_at hl 1 rfl) ?_
      refine lv_iload_n hx hb dX11_numberOf_17 rfl (lv_at hl 3 rfl) ?_
      obtain ⟨hb5, hw⟩ := hw
      refine va_iald hx hb hK hP 4 0 rfl rfl hb5 dX11_numberOf_18 ?_
      refine lv_iadd hx hb dX11_numberOf_19 ?_
      refine lv_topi (fun x6 ex6 => ?_)
      replace hw := hw x6 ex6
      refine lv_istore_n (lv' := [(2, .int x6), (0, .ref h), (1, .ref (q 11)), (3, .int x2)]) hx hb dX11_numberOf_20 rfl hl (by decide) rfl (fun ls hl => ?_)
      obtain ⟨x7, ex7⟩ : ∃ y : Int32, y = x2 + (1 : Int32) := ⟨_, rfl⟩
      replace hw := hw x7 ex7
      refine lv_iinc (v := x7) (lv' := [(3, .int x7), (2, .int x6), (0, .ref h), (1, .ref (q 11))]) hx hb dX11_numberOf_21 hl (k := 3) rfl (by rw [ex7]; rfl) (by decide) rfl (fun ls hl => ?_)
      refine lv_goto (tgt := 4) hx hb dX11_numberOf_24 (by decide) ?_
      exact hw H locs ls hP hD hS (lv_sub hl [2, 3, 1, 0] rfl)

def w_X11_topNow (f : Nat → Int32) (g : Int64) (a : Nat → Nat → Int32)  (Q : Int32 → MSt → Prop) : Prop := w_X11_layNow f g a (fun (u1 : MSt) => (vp_in ((u1.1 7) - (1 : Int32)) 10) ∧ Q ((u1.2.2 13) ((u1.1 7) - (1 : Int32)).toNatClampNeg) u1)
abbrev rmX11_topNow : Room := { frames := 3, cells := 0, slots := 0, locals := 64 }
set_option maxHeartbeats 4000000 in
set_option maxRecDepth 100000 in
theorem t_X11_topNow (l : Launch) (dC : Nat → ClassId) (dI : Nat → Nat → Nat) (cI : ClassId) (h : Nat) (q : Nat → Nat) (sz : Nat) (f : Nat → Int32) (g : Int64) (a : Nat → Nat → Int32)  (Q0 : Int32 → MSt → Prop) (hw : w_X11_topNow f g a  Q0) : Met l yX11_topNow wsX11_topNow rmX11_topNow (g_pre g_T (dC, dI) vwCl [(cI, .int)] (MW cI h q f g a) sz [.ref h]) (g_qi (dC, dI) vwCl [(cI, .int)] (MWu cI h q) Q0 (va_A (MW cI h q f g a) sz)) 0 0 (va_A (MW cI h q f g a) sz) := by
  refine g_starti (by decide) rfl (Nat.le_of_ble_eq_true rfl) ?_
  intro p e s m args below meth c A Q ls hx hb hml hown hts hin hK hP hD hA hS hZ hret hl
  obtain ⟨H, eH⟩ : ∃ H : Heap, H = s.heap := ⟨_, rfl⟩
  obtain ⟨locs, eL⟩ : ∃ L : List Loc, L = [] := ⟨_, rfl⟩
  have hS : va_S A s.heap H locs := by rw [eH, eL]; exact hS
  rw [← eH] at hP
  suffices hg : W p l e rmX11_topNow s m args below meth c H locs 0 0 Q (F0 m 0 ls []) by rw [eH, eL] at hg; exact hg
  clear eH eL
  replace hl : lv_has ls 1 [(0, .ref h)] := hl
  have hf25 := hts (.fieldLink RX11 25 "NumberPileModel" "values" "[I") (by decide +kernel)
  have hiX11 : ∀ w ∈ u_ws RX11 TX11 29, w ∈ wsX11_topNow := fun w h => List.mem_cons_of_mem _ (List.mem_append_right _ h)
  have hf103 := hts (.fieldLink RX11 103 "NumberPileModel" "bricks" "I") (by decide +kernel)
  unfold w_X11_topNow at hw
  refine lv_aload_n hx hb dX11_topNow_0 rfl (lv_at hl 0 rfl) ?_
  refine g_callVv (rest := []) (W2 := (MWu cI h q)) [] [0, 1, 2, 3, 4, 5, 6, 7, 8, 9, 10, 11, 12, 13] [] [0] [0, 1, 2, 3, 4, 5, 6, 7, 8, 9, 10, 11, 12, 13] g_Tb (fun _ _ _ _ => trivial) ⟨hx, hb, hml, hown, hts⟩ (t_X11_layNow l dC dI cI h q H.size f g a _ hw) (cwV 0 hts gX11_topNow_X11_layNow rfl rfl rfl (by decide +kernel) ⟨Nat.le_of_ble_eq_true rfl, Nat.le_of_ble_eq_true rfl⟩) hK hP hD hS hA rfl (by decide) (wr := []) rfl (by decide) (by decide) rfl (fun _ => rfl) (by decide) (q0 := 0) rfl rfl rfl hl.1 (Nat.le_of_ble_eq_true rfl) dX11_topNow_1 ⟨Nat.le_of_ble_eq_true rfl, Nat.le_of_ble_eq_true rfl⟩ (fun u1 H locs hw hP hD hS => ?_)
  refine lv_aload_n hx hb dX11_topNow_4 rfl (lv_at hl 0 rfl) ?_
  refine va_get (D := (dC, dI)) (ci := 13) (v := .ref (q 13)) (C := RX11) (T := TX11) (N := 29) hx hb hts hiX11 hown hK hP 0 rfl rfl 13 (by decide) hf25 (fun _ h9 => h9) rfl dX11_topNow_5 ?_
  refine lv_aload_n hx hb dX11_topNow_8 rfl (lv_at hl 0 rfl) ?_
  refine va_get (D := (dC, dI)) (ci := 13) (v := .int (u1.1 7)) (C := RX11) (T := TX11) (N := 29) hx hb hts hiX11 hown hK hP 0 rfl rfl 7 (by decide) hf103 (fun _ h9 => h9) rfl dX11_topNow_9 ?_
  refine lv_iconst (v := 1) hx hb dX11_topNow_12 (by decide) ?_
  refine lv_isub hx hb dX11_topNow_13 ?_
  obtain ⟨hb2, hw⟩ := hw
  refine va_iald hx hb hK hP 6 0 rfl rfl hb2 dX11_topNow_14 ?_
  exact hret dX11_topNow_15 hK hP hD hS hw

def w_X11_sortsOf (f : Nat → Int32) (g : Int64) (a : Nat → Nat → Int32) (p0 : Int32) (Q : Int32 → MSt → Prop) : Prop := (∀ X3 : Int32 → Int32 → Prop, (∀ (x1 : Int32) (x2 : Int32), (((((5 : Int32) ≤ x2) → Q x1 (f, g, a)) ∧ (¬ ((5 : Int32) ≤ x2) → (∀ X7 : Int32 → Int32 → Prop, (∀ (x5 : Int32) (x6 : Int32), ((((((4 : Int32) * (f 18)) ≤ x6) → ∀ J10 : Int32 → Prop, (∀ (x9 : Int32), (∀ x11 : Int32, x11 = (x1 ||| x9) → ∀ x12 : Int32, x12 = x2 + (1 : Int32) → X3 x11 x12) → J10 x9) → (((x5 = 0) → J10 (0 : Int32)) ∧ (¬ (x5 = 0) → J10 ((1 : Int32) <<< (x2 &&& 31))))) ∧ (¬ (((4 : Int32) * (f 18)) ≤ x6) → ∀ J15 : Int32 → Prop, (∀ (x14 : Int32), (∀ x16 : Int32, x16 = x6 + (4 : Int32) → X7 x14 x16) → J15 x14) → ∀ J17 : Prop, ((J15 (0 : Int32)) → J17) → (((x5 = 0) → J17) ∧ (¬ (x5 = 0) → (vp_in x6 24) ∧ ∀ J20 : Prop, ((J15 (1 : Int32)) → J20) → (((¬ ((a 19) x6.toNatClampNeg) = p0) → J20) ∧ (((a 19) x6.toNatClampNeg) = p0 → (vp_in (x6 + (1 : Int32)) 24) ∧ (vp_in (x6 + (2 : Int32)) 24) ∧ w_X11_madeBy x2 ((a 19) (x6 + (1 : Int32)).toNatClampNeg) ((a 19) (x6 + (2 : Int32)).toNatClampNeg) (fun (r24 : Int32) => (vp_in (x6 + (3 : Int32)) 24) ∧ (((¬ r24 = ((a 19) (x6 + (3 : Int32)).toNatClampNeg)) → J17) ∧ (r24 = ((a 19) (x6 + (3 : Int32)).toNatClampNeg) → J20)))))))))) → X7 x5 x6) → X7 (1 : Int32) (0 : Int32))))) → X3 x1 x2) → X3 (0 : Int32) (0 : Int32))
abbrev rmX11_sortsOf : Room := { frames := 1, cells := 0, slots := 0, locals := 22 }
set_option maxHeartbeats 4000000 in
set_option maxRecDepth 100000 in
theorem t_X11_sortsOf (l : Launch) (dC : Nat → ClassId) (dI : Nat → Nat → Nat) (cI : ClassId) (h : Nat) (q : Nat → Nat) (sz : Nat) (f : Nat → Int32) (g : Int64) (a : Nat → Nat → Int32) (p0 : Int32) (Q0 : Int32 → MSt → Prop) (hw : w_X11_sortsOf f g a p0 Q0) : Met l yX11_sortsOf wsX11_sortsOf rmX11_sortsOf (g_pre g_T (dC, dI) vwCl [(cI, .int)] (MW cI h q f g a) sz [.ref h, .int p0]) (g_qi (dC, dI) vwCl [(cI, .int)] (MWu cI h q) Q0 (va_A (MW cI h q f g a) sz)) 0 0 (va_A (MW cI h q f g a) sz) := by
  refine g_starti (by decide) rfl (Nat.le_of_ble_eq_true rfl) ?_
  intro p e s m args below meth c A Q ls hx hb hml hown hts hin hK hP hD hA hS hZ hret hl
  obtain ⟨H, eH⟩ : ∃ H : Heap, H = s.heap := ⟨_, rfl⟩
  obtain ⟨locs, eL⟩ : ∃ L : List Loc, L = [] := ⟨_, rfl⟩
  have hS : va_S A s.heap H locs := by rw [eH, eL]; exact hS
  rw [← eH] at hP
  suffices hg : W p l e rmX11_sortsOf s m args below meth c H locs 0 0 Q (F0 m 0 ls []) by rw [eH, eL] at hg; exact hg
  clear eH eL
  replace hl : lv_has ls 6 [(0, .ref h), (1, .int p0)] := hl
  have hf113 := hts (.fieldLink RX11 113 "NumberPileModel" "seenMany" "I") (by decide +kernel)
  have hiX11 : ∀ w ∈ u_ws RX11 TX11 29, w ∈ wsX11_sortsOf := fun w h => List.mem_cons_of_mem _ (List.mem_append_right _ h)
  have hf34 := hts (.fieldLink RX11 34 "NumberPileModel" "sights" "[I") (by decide +kernel)
  unfold w_X11_sortsOf at hw
  refine lv_iconst (v := 0) hx hb dX11_sortsOf_0 (by decide) ?_
  refine lv_istore_n (lv' := [(2, .int (0 : Int32)), (0, .ref h), (1, .int p0)]) hx hb dX11_sortsOf_1 rfl hl (by decide) rfl (fun ls hl => ?_)
  refine lv_iconst (v := 0) hx hb dX11_sortsOf_2 (by decide) ?_
  refine lv_istore_n (lv' := [(3, .int (0 : Int32)), (2, .int (0 : Int32)), (0, .ref h), (1, .int p0)]) hx hb dX11_sortsOf_3 rfl hl (by decide) rfl (fun ls hl => ?_)
  refine hw (fun (x1 : Int32) (x2 : Int32) => ∀ (H : Heap) (locs : List Loc) (ls : Array Slot), va_P (dC, dI) vwCl (MW cI h q f g a) H → va_D A (MW cI h q f g a) → va_S A s.heap H locs → lv_has ls 6 [(0, .ref h), (1, .int p0), (2, .int x1), (3, .int x2)] → W p l e rmX11_sortsOf s m args below meth c H locs 0 0 Q (F0 m 4 ls [])) ?_ H locs ls hP hD hS (lv_sub hl [2, 3, 1, 0] rfl)
  · intro x1 x2 hw H locs ls hP hD hS hl
    refine lv_iload_n hx hb dX11_sortsOf_4 rfl (lv_at hl 3 rfl) ?_
    refine lv_iconst (v := 5) hx hb dX11_sortsOf_5 (by decide) ?_
    refine lv_icmp_ge (tgt := 110) hx hb dX11_sortsOf_6 (by decide) (fun hc4 => ?_) (fun hc4 => ?_)
    · replace hw := hw.1 hc4
      refine lv_iload_n hx hb dX11_sortsOf_110 rfl (lv_at hl 2 rfl) ?_
      exact hret dX11_sortsOf_111 hK hP hD hS hw
    · replace hw := hw.2 hc4
      refine lv_iconst (v := 1) hx hb dX11_sortsOf_9 (by decide) ?_
      refine lv_istore (lv' := [(4, .int (1 : Int32)), (0, .ref h), (1, .int p0), (2, .int x1), (3, .int x2)]) hx hb dX11_sortsOf_10 hl (by decide) rfl (fun ls hl => ?_)
      refine lv_iconst (v := 0) hx hb dX11_sortsOf_12 (by decide) ?_
      refine lv_istore (lv' := [(5, .int (0 : Int32)), (4, .int (1 : Int32)), (0, .ref h), (1, .int p0), (2, .int x1), (3, .int x2)]) hx hb dX11_sortsOf_13 hl (by decide) rfl (fun ls hl => ?_)
      refine hw (fun (x5 : Int32) (x6 : Int32) => ∀ (H : Heap) (locs : List Loc) (ls : Array Slot), va_P (dC, dI) vwCl (MW cI h q f g a) H → va_D A (MW cI h q f g a) → va_S A s.heap H locs → lv_has ls 6 [(0, .ref h), (1, .int p0), (2, .int x1), (3, .int x2), (4, .int x5), (5, .int x6)] → W p l e rmX11_sortsOf s m args below meth c H locs 0 0 Q (F0 m 15 ls [])) ?_ H locs ls hP hD hS (lv_sub hl [2, 3, 4, 5, 1, 0] rfl)
      · intro x5 x6 hw H locs ls hP hD hS hl
        refine lv_iload hx hb dX11_sortsOf_15 (lv_at hl 5 rfl) ?_
        refine lv_iconst (v := 4) hx hb dX11_sortsOf_17 (by decide) ?_
        refine lv_aload_n hx hb dX11_sortsOf_18 rfl (lv_at hl 0 rfl) ?_
        refine va_get (D := (dC, dI)) (ci := 13) (v := .int (f 18)) (C := RX11) (T := TX11) (N := 29) hx hb hts hiX11 hown hK hP 0 rfl rfl 18 (by decide) hf113 (fun _ h9 => h9) rfl dX11_sortsOf_19 ?_
        refine lv_imul hx hb dX11_sortsOf_22 ?_
        refine lv_icmp_ge (tgt := 89) hx hb dX11_sortsOf_23 (by decide) (fun hc8 => ?_) (fun hc8 => ?_)
        · replace hw := hw.1 hc8
          refine lv_iload_n hx hb dX11_sortsOf_89 rfl (lv_at hl 2 rfl) ?_
          refine lv_iload hx hb dX11_sortsOf_90 (lv_at hl 4 rfl) ?_
          replace hw := hw (fun (x9 : Int32) => ∀ (H : Heap) (locs : List Loc) (ls : Array Slot), va_P (dC, dI) vwCl (MW cI h q f g a) H → va_D A (MW cI h q f g a) → va_S A s.heap H locs → lv_has ls 6 [(0, .ref h), (1, .int p0), (3, .int x2)] → W p l e rmX11_sortsOf s m args below meth c H locs 0 0 Q (F0 m 102 ls [.int x9, .int x1])) (by
            intro x9 hw H locs ls hP hD hS hl
            refine lv_ior hx hb dX11_sortsOf_102 ?_
            refine lv_topi (fun x11 ex11 => ?_)
            replace hw := hw x11 ex11
            refine lv_istore_n (lv' := [(2, .int x11), (0, .ref h), (1, .int p0), (3, .int x2)]) hx hb dX11_sortsOf_103 rfl hl (by decide) rfl (fun ls hl => ?_)
            obtain ⟨x12, ex12⟩ : ∃ y : Int32, y = x2 + (1 : Int32) := ⟨_, rfl⟩
            replace hw := hw x12 ex12
            refine lv_iinc (v := x12) (lv' := [(3, .int x12), (2, .int x11), (0, .ref h), (1, .int p0)]) hx hb dX11_sortsOf_104 hl (k := 3) rfl (by rw [ex12]; rfl) (by decide) rfl (fun ls hl => ?_)
            refine lv_goto (tgt := 4) hx hb dX11_sortsOf_107 (by decide) ?_
            exact hw H locs ls hP hD hS (lv_sub hl [2, 3, 1, 0] rfl))
          refine lv_if_eq (tgt := 101) hx hb dX11_sortsOf_92 (by decide) (fun hc13 => ?_) (fun hc13 => ?_)
          · replace hw := hw.1 hc13
            refine lv_iconst (v := 0) hx hb dX11_sortsOf_101 (by decide) ?_
            exact hw H locs ls hP hD hS (lv_sub hl [0, 1, 3] rfl)
          · replace hw := hw.2 hc13
            refine lv_iconst (v := 1) hx hb dX11_sortsOf_95 (by decide) ?_
            refine lv_iload_n hx hb dX11_sortsOf_96 rfl (lv_at hl 3 rfl) ?_
            refine lv_ishl hx hb dX11_sortsOf_97 ?_
            refine lv_goto (tgt := 102) hx hb dX11_sortsOf_98 (by decide) ?_
            exact hw H locs ls hP hD hS (lv_sub hl [0, 1, 3] rfl)
        · replace hw := hw.2 hc8
          refine lv_iload hx hb dX11_sortsOf_26 (lv_at hl 4 rfl) ?_
          replace hw := hw (fun (x14 : Int32) => ∀ (H : Heap) (locs : List Loc) (ls : Array Slot), va_P (dC, dI) vwCl (MW cI h q f g a) H → va_D A (MW cI h q f g a) → va_S A s.heap H locs → lv_has ls 6 [(0, .ref h), (1, .int p0), (2, .int x1), (3, .int x2), (5, .int x6)] → W p l e rmX11_sortsOf s m args below meth c H locs 0 0 Q (F0 m 81 ls [.int x14])) (by
            intro x14 hw H locs ls hP hD hS hl
            refine lv_istore (lv' := [(4, .int x14), (0, .ref h), (1, .int p0), (2, .int x1), (3, .int x2), (5, .int x6)]) hx hb dX11_sortsOf_81 hl (by decide) rfl (fun ls hl => ?_)
            obtain ⟨x16, ex16⟩ : ∃ y : Int32, y = x6 + (4 : Int32) := ⟨_, rfl⟩
            replace hw := hw x16 ex16
            refine lv_iinc (v := x16) (lv' := [(5, .int x16), (4, .int x14), (0, .ref h), (1, .int p0), (2, .int x1), (3, .int x2)]) hx hb dX11_sortsOf_83 hl (k := 5) rfl (by rw [ex16]; rfl) (by decide) rfl (fun ls hl => ?_)
            refine lv_goto (tgt := 15) hx hb dX11_sortsOf_86 (by decide) ?_
            exact hw H locs ls hP hD hS (lv_sub hl [2, 3, 4, 5, 1, 0] rfl))
          replace hw := hw (∀ (H : Heap) (locs : List Loc) (ls : Array Slot), va_P (dC, dI) vwCl (MW cI h q f g a) H → va_D A (MW cI h q f g a) → va_S A s.heap H locs → lv_has ls 6 [(0, .ref h), (1, .int p0), (2, .int x1), (3, .int x2), (5, .int x6)] → W p l e rmX11_sortsOf s m args below meth c H locs 0 0 Q (F0 m 80 ls [])) (by
            intro hw H locs ls hP hD hS hl
            refine lv_iconst (v := 0) hx hb dX11_sortsOf_80 (by decide) ?_
            exact hw H locs ls hP hD hS (lv_sub hl [0, 1, 2, 3, 4] rfl))
          refine lv_if_eq (tgt := 80) hx hb dX11_sortsOf_28 (by decide) (fun hc18 => ?_) (fun hc18 => ?_)
          · replace hw := hw.1 hc18
            exact hw H locs ls hP hD hS (lv_sub hl [0, 1, 2, 3, 5] rfl)
          · replace hw := hw.2 hc18
            refine lv_aload_n hx hb dX11_sortsOf_31 rfl (lv_at hl 0 rfl) ?_
            refine va_get (D := (dC, dI)) (ci := 13) (v := .ref (q 19)) (C := RX11) (T := TX11) (N := 29) hx hb hts hiX11 hown hK hP 0 rfl rfl 19 (by decide) hf34 (fun _ h9 => h9) rfl dX11_sortsOf_32 ?_
            refine lv_iload hx hb dX11_sortsOf_35 (lv_at hl 5 rfl) ?_
            obtain ⟨hb19, hw⟩ := hw
            refine va_iald hx hb hK hP 9 0 rfl rfl hb19 dX11_sortsOf_37 ?_
            refine lv_iload_n hx hb dX11_sortsOf_38 rfl (lv_at hl 1 rfl) ?_
            replace hw := hw (∀ (H : Heap) (locs : List Loc) (ls : Array Slot), va_P (dC, dI) vwCl (MW cI h q f g a) H → va_D A (MW cI h q f g a) → va_S A s.heap H locs → lv_has ls 6 [(0, .ref h), (1, .int p0), (2, .int x1), (3, .int x2), (5, .int x6)] → W p l e rmX11_sortsOf s m args below meth c H locs 0 0 Q (F0 m 76 ls [])) (by
              intro hw H locs ls hP hD hS hl
              refine lv_iconst (v := 1) hx hb dX11_sortsOf_76 (by decide) ?_
              refine lv_goto (tgt := 81) hx hb dX11_sortsOf_77 (by decide) ?_
              exact hw H locs ls hP hD hS (lv_sub hl [0, 1, 2, 3, 4] rfl))
            refine lv_icmp_ne (tgt := 76) hx hb dX11_sortsOf_39 (by decide) (fun hc21 => ?_) (fun hc21 => ?_)
            · replace hw := hw.1 hc21
              exact hw H locs ls hP hD hS (lv_sub hl [0, 1, 2, 3, 5] rfl)
            · replace hw := hw.2 hc21
              refine lv_iload_n hx hb dX11_sortsOf_42 rfl (lv_at hl 3 rfl) ?_
              refine lv_aload_n hx hb dX11_sortsOf_43 rfl (lv_at hl 0 rfl) ?_
              refine va_get (D := (dC, dI)) (ci := 13) (v := .ref (q 19)) (C := RX11) (T := TX11) (N := 29) hx hb hts hiX11 hown hK hP 0 rfl rfl 19 (by decide) hf34 (fun _ h9 => h9) rfl dX11_sortsOf_44 ?_
              refine lv_iload hx hb dX11_sortsOf_47 (lv_at hl 5 rfl) ?_
              refine lv_iconst (v := 1) hx hb dX11_sortsOf_49 (by decide) ?_
              refine lv_iadd hx hb dX11_sortsOf_50 ?_
              obtain ⟨hb22, hw⟩ := hw
              refine va_iald hx hb hK hP 9 0 rfl rfl hb22 dX11_sortsOf_51 ?_
              refine lv_aload_n hx hb dX11_sortsOf_52 rfl (lv_at hl 0 rfl) ?_
              refine va_get (D := (dC, dI)) (ci := 13) (v := .ref (q 19)) (C := RX11) (T := TX11) (N := 29) hx hb hts hiX11 hown hK hP 0 rfl rfl 19 (by decide) hf34 (fun _ h9 => h9) rfl dX11_sortsOf_53 ?_
              refine lv_iload hx hb dX11_sortsOf_56 (lv_at hl 5 rfl) ?_
              refine lv_iconst (v := 2) hx hb dX11_sortsOf_58 (by decide) ?_
              refine lv_iadd hx hb dX11_sortsOf_59 ?_
              obtain ⟨hb23, hw⟩ := hw
              refine va_iald hx hb hK hP 9 0 rfl rfl hb23 dX11_sortsOf_60 ?_
              refine g_callP (rest := []) [.int x2, .int ((a 19) (x6 + (1 : Int32)).toNatClampNeg), .int ((a 19) (x6 + (2 : Int32)).toNatClampNeg)] ⟨hx, hb, hml, hown, hts⟩ (t_X11_madeBy l x2 ((a 19) (x6 + (1 : Int32)).toNatClampNeg) ((a 19) (x6 + (2 : Int32)).toNatClampNeg) _ hw) (va_cwS 3 hts gX11_sortsOf_X11_madeBy rfl rfl rfl (by decide +kernel) ⟨Nat.le_of_ble_eq_true rfl, Nat.le_of_ble_eq_true rfl⟩) rfl hl.1 (Nat.le_of_ble_eq_true rfl) dX11_sortsOf_61 ⟨Nat.le_of_ble_eq_true rfl, Nat.le_of_ble_eq_true rfl⟩ (fun r24 hw => ?_)
              refine lv_aload_n hx hb dX11_sortsOf_64 rfl (lv_at hl 0 rfl) ?_
              refine va_get (D := (dC, dI)) (ci := 13) (v := .ref (q 19)) (C := RX11) (T := TX11) (N := 29) hx hb hts hiX11 hown hK hP 0 rfl rfl 19 (by decide) hf34 (fun _ h9 => h9) rfl dX11_sortsOf_65 ?_
              refine lv_iload hx hb dX11_sortsOf_68 (lv_at hl 5 rfl) ?_
              refine lv_iconst (v := 3) hx hb dX11_sortsOf_70 (by decide) ?_
              refine lv_iadd hx hb dX11_sortsOf_71 ?_
              obtain ⟨hb25, hw⟩ := hw
              refine va_iald hx hb hK hP 9 0 rfl rfl hb25 dX11_sortsOf_72 ?_
              refine lv_icmp_ne (tgt := 80) hx hb dX11_sortsOf_73 (by decide) (fun hc26 => ?_) (fun hc26 => ?_)
              · replace hw := hw.1 hc26
                exact hw H locs ls hP hD hS (lv_sub hl [0, 1, 2, 3, 5] rfl)
              · replace hw := hw.2 hc26
                exact hw H locs ls hP hD hS (lv_sub hl [0, 1, 2, 3, 5] rfl)

def w_X11_tryOf (f : Nat → Int32) (g : Int64) (a : Nat → Nat → Int32) (p0 : Int32) (Q : Int32 → MSt → Prop) : Prop := w_X11_sortsOf f g a p0 (fun (r2 : Int32) (u1 : MSt) => (∀ X6 : Int32 → Int32 → Int32 → Prop, (∀ (x3 : Int32) (x4 : Int32) (x5 : Int32), (((((100 : Int32) ≤ x5) → Q x3 u1) ∧ (¬ ((100 : Int32) ≤ x5) → (((r2 = 0) → Q x3 u1) ∧ (¬ (r2 = 0) → w_X11_worstBy r2 (x5 / (10 : Int32)) (x5 - x5 / (10 : Int32) * (10 : Int32)) (fun (r9 : Int32) => ∀ J11 : Int32 → Prop, (∀ (x10 : Int32), (∀ J13 : Int32 → Prop, (∀ (x12 : Int32), (∀ x14 : Int32, x14 = x5 + (1 : Int32) → X6 x10 x12 x14) → J13 x12) → (((x4 ≤ r9) → J13 x4) ∧ (¬ (x4 ≤ r9) → J13 r9))) → J11 x10) → (((x4 ≤ r9) → J11 x3) ∧ (¬ (x4 ≤ r9) → J11 x5)))))))) → X6 x3 x4 x5) → X6 (-1 : Int32) (6 : Int32) (0 : Int32)))
abbrev rmX11_tryOf : Room := { frames := 2, cells := 0, slots := 0, locals := 48 }
set_option maxHeartbeats 4000000 in
set_option maxRecDepth 100000 in
theorem t_X11_tryOf (l : Launch) (dC : Nat → ClassId) (dI : Nat → Nat → Nat) (cI : ClassId) (h : Nat) (q : Nat → Nat) (sz : Nat) (f : Nat → Int32) (g : Int64) (a : Nat → Nat → Int32) (p0 : Int32) (Q0 : Int32 → MSt → Prop) (hw : w_X11_tryOf f g a p0 Q0) : Met l yX11_tryOf wsX11_tryOf rmX11_tryOf (g_pre g_T (dC, dI) vwCl [(cI, .int)] (MW cI h q f g a) sz [.ref h, .int p0]) (g_qi (dC, dI) vwCl [(cI, .int)] (MWu cI h q) Q0 (va_A (MW cI h q f g a) sz)) 0 0 (va_A (MW cI h q f g a) sz) := by
  refine g_starti (by decide) rfl (Nat.le_of_ble_eq_true rfl) ?_
  intro p e s m args below meth c A Q ls hx hb hml hown hts hin hK hP hD hA hS hZ hret hl
  obtain ⟨H, eH⟩ : ∃ H : Heap, H = s.heap := ⟨_, rfl⟩
  obtain ⟨locs, eL⟩ : ∃ L : List Loc, L = [] := ⟨_, rfl⟩
  have hS : va_S A s.heap H locs := by rw [eH, eL]; exact hS
  rw [← eH] at hP
  suffices hg : W p l e rmX11_tryOf s m args below meth c H locs 0 0 Q (F0 m 0 ls []) by rw [eH, eL] at hg; exact hg
  clear eH eL
  replace hl : lv_has ls 7 [(0, .ref h), (1, .int p0)] := hl
  unfold w_X11_tryOf at hw
  refine lv_aload_n hx hb dX11_tryOf_0 rfl (lv_at hl 0 rfl) ?_
  refine lv_iload_n hx hb dX11_tryOf_1 rfl (lv_at hl 1 rfl) ?_
  refine g_callVi (rest := []) (W2 := (MWu cI h q)) [.int p0] [0, 1, 2, 3, 4, 5, 6, 7, 8, 9, 10, 11, 12, 13] [] [0] [0, 1, 2, 3, 4, 5, 6, 7, 8, 9, 10, 11, 12, 13] g_Tb (fun _ _ _ _ => trivial) ⟨hx, hb, hml, hown, hts⟩ (t_X11_sortsOf l dC dI cI h q H.size f g a p0 _ hw) (cwV 1 hts gX11_tryOf_X11_sortsOf rfl rfl rfl (by decide +kernel) ⟨Nat.le_of_ble_eq_true rfl, Nat.le_of_ble_eq_true rfl⟩) hK hP hD hS hA rfl (by decide) (wr := []) rfl (by decide) (by decide) rfl (fun _ => rfl) (by decide) (q0 := 0) rfl rfl rfl hl.1 (Nat.le_of_ble_eq_true rfl) dX11_tryOf_2 ⟨Nat.le_of_ble_eq_true rfl, Nat.le_of_ble_eq_true rfl⟩ (fun r2 u1 H locs hw hP hD hS => ?_)
  refine lv_istore_n (lv' := [(2, .int r2), (0, .ref h), (1, .int p0)]) hx hb dX11_tryOf_5 rfl hl (by decide) rfl (fun ls hl => ?_)
  refine lv_iconst (v := -1) hx hb dX11_tryOf_6 (by decide) ?_
  refine lv_istore_n (lv' := [(3, .int (-1 : Int32)), (2, .int r2), (0, .ref h), (1, .int p0)]) hx hb dX11_tryOf_7 rfl hl (by decide) rfl (fun ls hl => ?_)
  refine lv_bipush (v := 6) hx hb dX11_tryOf_8 (by decide) ?_
  refine lv_istore (lv' := [(4, .int (6 : Int32)), (3, .int (-1 : Int32)), (2, .int r2), (0, .ref h), (1, .int p0)]) hx hb dX11_tryOf_10 hl (by decide) rfl (fun ls hl => ?_)
  refine lv_iconst (v := 0) hx hb dX11_tryOf_12 (by decide) ?_
  refine lv_istore (lv' := [(5, .int (0 : Int32)), (4, .int (6 : Int32)), (3, .int (-1 : Int32)), (2, .int r2), (0, .ref h), (1, .int p0)]) hx hb dX11_tryOf_13 hl (by decide) rfl (fun ls hl => ?_)
  refine hw (fun (x3 : Int32) (x4 : Int32) (x5 : Int32) => ∀ (H : Heap) (locs : List Loc) (ls : Array Slot), va_P (dC, dI) vwCl (MW cI h q u1.1 (u1.2.1) u1.2.2) H → va_D A (MW cI h q u1.1 (u1.2.1) u1.2.2) → va_S A s.heap H locs → lv_has ls 7 [(2, .int r2), (3, .int x3), (4, .int x4), (5, .int x5)] → W p l e rmX11_tryOf s m args below meth c H locs 0 0 Q (F0 m 15 ls [])) ?_ H locs ls hP hD hS (lv_sub hl [3, 2, 1, 0] rfl)
  · intro x3 x4 x5 hw H locs ls hP hD hS hl
    refine lv_iload hx hb dX11_tryOf_15 (lv_at hl 3 rfl) ?_
    refine lv_bipush (v := 100) hx hb dX11_tryOf_17 (by decide) ?_
    refine lv_icmp_ge (tgt := 78) hx hb dX11_tryOf_19 (by decide) (fun hc7 => ?_) (fun hc7 => ?_)
    · replace hw := hw.1 hc7
      refine lv_iload_n hx hb dX11_tryOf_78 rfl (lv_at hl 1 rfl) ?_
      exact hret dX11_tryOf_79 hK hP hD hS hw
    · replace hw := hw.2 hc7
      refine lv_iload_n hx hb dX11_tryOf_22 rfl (lv_at hl 0 rfl) ?_
      refine lv_if_eq (tgt := 78) hx hb dX11_tryOf_23 (by decide) (fun hc8 => ?_) (fun hc8 => ?_)
      · replace hw := hw.1 hc8
        refine lv_iload_n hx hb dX11_tryOf_78 rfl (lv_at hl 1 rfl) ?_
        exact hret dX11_tryOf_79 hK hP hD hS hw
      · replace hw := hw.2 hc8
        refine lv_iload_n hx hb dX11_tryOf_26 rfl (lv_at hl 0 rfl) ?_
        refine lv_iload hx hb dX11_tryOf_27 (lv_at hl 3 rfl) ?_
        refine lv_bipush (v := 10) hx hb dX11_tryOf_29 (by decide) ?_
        refine lv_idiv hx hb dX11_tryOf_31 (by decide) ?_
        refine lv_iload hx hb dX11_tryOf_32 (lv_at hl 3 rfl) ?_
        refine lv_bipush (v := 10) hx hb dX11_tryOf_34 (by decide) ?_
        refine lv_irem hx hb dX11_tryOf_36 (by decide) ?_
        refine g_callP (rest := []) [.int r2, .int (x5 / (10 : Int32)), .int (x5 - x5 / (10 : Int32) * (10 : Int32))] ⟨hx, hb, hml, hown, hts⟩ (t_X11_worstBy l r2 (x5 / (10 : Int32)) (x5 - x5 / (10 : Int32) * (10 : Int32)) _ hw) (va_cwS 3 hts gX11_tryOf_X11_worstBy rfl rfl rfl (by decide +kernel) ⟨Nat.le_of_ble_eq_true rfl, Nat.le_of_ble_eq_true rfl⟩) rfl hl.1 (Nat.le_of_ble_eq_true rfl) dX11_tryOf_37 ⟨Nat.le_of_ble_eq_true rfl, Nat.le_of_ble_eq_true rfl⟩ (fun r9 hw => ?_)
        refine lv_istore (lv' := [(6, .int r9), (2, .int r2), (3, .int x3), (4, .int x4), (5, .int x5)]) hx hb dX11_tryOf_40 hl (by decide) rfl (fun ls hl => ?_)
        refine lv_iload hx hb dX11_tryOf_42 (lv_at hl 0 rfl) ?_
        refine lv_iload hx hb dX11_tryOf_44 (lv_at hl 3 rfl) ?_
        replace hw := hw (fun (x10 : Int32) => ∀ (H : Heap) (locs : List Loc) (ls : Array Slot), va_P (dC, dI) vwCl (MW cI h q u1.1 (u1.2.1) u1.2.2) H → va_D A (MW cI h q u1.1 (u1.2.1) u1.2.2) → va_S A s.heap H locs → lv_has ls 7 [(2, .int r2), (4, .int x4), (5, .int x5), (6, .int r9)] → W p l e rmX11_tryOf s m args below meth c H locs 0 0 Q (F0 m 55 ls [.int x10])) (by
          intro x10 hw H locs ls hP hD hS hl
          refine lv_istore_n (lv' := [(3, .int x10), (2, .int r2), (4, .int x4), (5, .int x5), (6, .int r9)]) hx hb dX11_tryOf_55 rfl hl (by decide) rfl (fun ls hl => ?_)
          refine lv_iload hx hb dX11_tryOf_56 (lv_at hl 4 rfl) ?_
          refine lv_iload hx hb dX11_tryOf_58 (lv_at hl 2 rfl) ?_
          replace hw := hw (fun (x12 : Int32) => ∀ (H : Heap) (locs : List Loc) (ls : Array Slot), va_P (dC, dI) vwCl (MW cI h q u1.1 (u1.2.1) u1.2.2) H → va_D A (MW cI h q u1.1 (u1.2.1) u1.2.2) → va_S A s.heap H locs → lv_has ls 7 [(2, .int r2), (3, .int x10), (5, .int x5)] → W p l e rmX11_tryOf s m args below meth c H locs 0 0 Q (F0 m 70 ls [.int x12])) (by
            intro x12 hw H locs ls hP hD hS hl
            refine lv_istore (lv' := [(4, .int x12), (2, .int r2), (3, .int x10), (5, .int x5)]) hx hb dX11_tryOf_70 hl (by decide) rfl (fun ls hl => ?_)
            obtain ⟨x14, ex14⟩ : ∃ y : Int32, y = x5 + (1 : Int32) := ⟨_, rfl⟩
            replace hw := hw x14 ex14
            refine lv_iinc (v := x14) (lv' := [(5, .int x14), (4, .int x12), (2, .int r2), (3, .int x10)]) hx hb dX11_tryOf_72 hl (k := 3) rfl (by rw [ex14]; rfl) (by decide) rfl (fun ls hl => ?_)
            refine lv_goto (tgt := 15) hx hb dX11_tryOf_75 (by decide) ?_
            exact hw H locs ls hP hD hS (lv_sub hl [2, 3, 1, 0] rfl))
          refine lv_icmp_ge (tgt := 68) hx hb dX11_tryOf_60 (by decide) (fun hc15 => ?_) (fun hc15 => ?_)
          · replace hw := hw.1 hc15
            refine lv_iload hx hb dX11_tryOf_68 (lv_at hl 2 rfl) ?_
            exact hw H locs ls hP hD hS (lv_sub hl [1, 0, 3] rfl)
          · replace hw := hw.2 hc15
            refine lv_iload hx hb dX11_tryOf_63 (lv_at hl 4 rfl) ?_
            refine lv_goto (tgt := 70) hx hb dX11_tryOf_65 (by decide) ?_
            exact hw H locs ls hP hD hS (lv_sub hl [1, 0, 3] rfl))
        refine lv_icmp_ge (tgt := 54) hx hb dX11_tryOf_46 (by decide) (fun hc16 => ?_) (fun hc16 => ?_)
        · replace hw := hw.1 hc16
          refine lv_iload_n hx hb dX11_tryOf_54 rfl (lv_at hl 2 rfl) ?_
          exact hw H locs ls hP hD hS (lv_sub hl [1, 3, 4, 0] rfl)
        · replace hw := hw.2 hc16
          refine lv_iload hx hb dX11_tryOf_49 (lv_at hl 4 rfl) ?_
          refine lv_goto (tgt := 55) hx hb dX11_tryOf_51 (by decide) ?_
          exact hw H locs ls hP hD hS (lv_sub hl [1, 3, 4, 0] rfl)

def w_X11_tellBrick (f : Nat → Int32) (g : Int64) (a : Nat → Nat → Int32) (p0 : Int32) (p1 : Int32) (Q : Int32 → MSt → Prop) : Prop := w_X11_layNow f g a (fun (u1 : MSt) => ∀ J3 : Int32 → Prop, (∀ (x2 : Int32), (((p1 = 0 → (((x2 = 0) → Q (-1 : Int32) u1) ∧ (¬ (x2 = 0) → (vp_in p0 10) ∧ Q ((u1.2.2 10) p0.toNatClampNeg) u1))) ∧ (¬ p1 = 0 → ((p1 = 1 → (vp_in p0 10) ∧ Q ((u1.2.2 13) p0.toNatClampNeg) u1) ∧ (¬ p1 = 1 → ((p1 = 2 → (((x2 = 0) → Q (-1 : Int32) u1) ∧ (¬ (x2 = 0) → w_X11_leftOf u1.1 (u1.2.1) u1.2.2 p0 (fun (r12 : Int32) (u11 : MSt) => Q ((r12 + p1) - (2 : Int32)) u11)))) ∧ (¬ p1 = 2 → ((p1 = 3 → (((x2 = 0) → Q (-1 : Int32) u1) ∧ (¬ (x2 = 0) → w_X11_leftOf u1.1 (u1.2.1) u1.2.2 p0 (fun (r16 : Int32) (u15 : MSt) => Q ((r16 + p1) - (2 : Int32)) u15)))) ∧ (¬ p1 = 3 → ((p1 = 4 → (vp_in p0 10) ∧ Q ((u1.2.2 12) p0.toNatClampNeg) u1) ∧ (¬ p1 = 4 → ((p1 = 5 → (((x2 = 0) → Q (0 : Int32) u1) ∧ (¬ (x2 = 0) → w_X11_sortsOf u1.1 (u1.2.1) u1.2.2 p0 (fun (r22 : Int32) (u21 : MSt) => Q r22 u21)))) ∧ (¬ p1 = 5 → ((p1 = 6 → (((x2 = 0) → Q (-1 : Int32) u1) ∧ (¬ (x2 = 0) → w_X11_tryOf u1.1 (u1.2.1) u1.2.2 p0 (fun (r26 : Int32) (u25 : MSt) => Q r26 u25)))) ∧ (¬ p1 = 6 → Q (-102 : Int32) u1))))))))))))))) → J3 x2) → (((p0 < (u1.1 6)) → J3 (0 : Int32)) ∧ (¬ (p0 < (u1.1 6)) → J3 (1 : Int32))))
abbrev rmX11_tellBrick : Room := { frames := 3, cells := 0, slots := 0, locals := 74 }
set_option maxHeartbeats 4000000 in
set_option maxRecDepth 100000 in
theorem t_X11_tellBrick (l : Launch) (dC : Nat → ClassId) (dI : Nat → Nat → Nat) (cI : ClassId) (h : Nat) (q : Nat → Nat) (sz : Nat) (f : Nat → Int32) (g : Int64) (a : Nat → Nat → Int32) (p0 : Int32) (p1 : Int32) (Q0 : Int32 → MSt → Prop) (hw : w_X11_tellBrick f g a p0 p1 Q0) : Met l yX11_tellBrick wsX11_tellBrick rmX11_tellBrick (g_pre g_T (dC, dI) vwCl [(cI, .int)] (MW cI h q f g a) sz [.ref h, .int p0, .int p1]) (g_qi (dC, dI) vwCl [(cI, .int)] (MWu cI h q) Q0 (va_A (MW cI h q f g a) sz)) 0 0 (va_A (MW cI h q f g a) sz) := by
  refine g_starti (by decide) rfl (Nat.le_of_ble_eq_true rfl) ?_
  intro p e s m args below meth c A Q ls hx hb hml hown hts hin hK hP hD hA hS hZ hret hl
  obtain ⟨H, eH⟩ : ∃ H : Heap, H = s.heap := ⟨_, rfl⟩
  obtain ⟨locs, eL⟩ : ∃ L : List Loc, L = [] := ⟨_, rfl⟩
  have hS : va_S A s.heap H locs := by rw [eH, eL]; exact hS
  rw [← eH] at hP
  suffices hg : W p l e rmX11_tellBrick s m args below meth c H locs 0 0 Q (F0 m 0 ls []) by rw [eH, eL] at hg; exact hg
  clear eH eL
  replace hl : lv_has ls 4 [(0, .ref h), (1, .int p0), (2, .int p1)] := hl
  have hf97 := hts (.fieldLink RX11 97 "NumberPileModel" "wide" "I") (by decide +kernel)
  have hiX11 : ∀ w ∈ u_ws RX11 TX11 29, w ∈ wsX11_tellBrick := fun w h => List.mem_cons_of_mem _ (List.mem_append_right _ h)
  have hf16 := hts (.fieldLink RX11 16 "NumberPileModel" "kinds" "[I") (by decide +kernel)
  have hf25 := hts (.fieldLink RX11 25 "NumberPileModel" "values" "[I") (by decide +kernel)
  have hf22 := hts (.fieldLink RX11 22 "NumberPileModel" "told" "[I") (by decide +kernel)
  unfold w_X11_tellBrick at hw
  refine lv_aload_n hx hb dX11_tellBrick_0 rfl (lv_at hl 0 rfl) ?_
  refine g_callVv (rest := []) (W2 := (MWu cI h q)) [] [0, 1, 2, 3, 4, 5, 6, 7, 8, 9, 10, 11, 12, 13] [] [0] [0, 1, 2, 3, 4, 5, 6, 7, 8, 9, 10, 11, 12, 13] g_Tb (fun _ _ _ _ => trivial) ⟨hx, hb, hml, hown, hts⟩ (t_X11_layNow l dC dI cI h q H.size f g a _ hw) (cwV 0 hts gX11_tellBrick_X11_layNow rfl rfl rfl (by decide +kernel) ⟨Nat.le_of_ble_eq_true rfl, Nat.le_of_ble_eq_true rfl⟩) hK hP hD hS hA rfl (by decide) (wr := []) rfl (by decide) (by decide) rfl (fun _ => rfl) (by decide) (q0 := 0) rfl rfl rfl hl.1 (Nat.le_of_ble_eq_true rfl) dX11_tellBrick_1 ⟨Nat.le_of_ble_eq_true rfl, Nat.le_of_ble_eq_true rfl⟩ (fun u1 H locs hw hP hD hS => ?_)
  refine lv_iload_n hx hb dX11_tellBrick_4 rfl (lv_at hl 1 rfl) ?_
  refine lv_aload_n hx hb dX11_tellBrick_5 rfl (lv_at hl 0 rfl) ?_
  refine va_get (D := (dC, dI)) (ci := 13) (v := .int (u1.1 6)) (C := RX11) (T := TX11) (N := 29) hx hb hts hiX11 hown hK hP 0 rfl rfl 6 (by decide) hf97 (fun _ h9 => h9) rfl dX11_tellBrick_6 ?_
  replace hw := hw (fun (x2 : Int32) => ∀ (H : Heap) (locs : List Loc) (ls : Array Slot), va_P (dC, dI) vwCl (MW cI h q u1.1 (u1.2.1) u1.2.2) H → va_D A (MW cI h q u1.1 (u1.2.1) u1.2.2) → va_S A s.heap H locs → lv_has ls 4 [(0, .ref h), (1, .int p0), (2, .int p1)] → W p l e rmX11_tellBrick s m args below meth c H locs 0 0 Q (F0 m 17 ls [.int x2])) (by
    intro x2 hw H locs ls hP hD hS hl
    refine lv_istore_n (lv' := [(3, .int x2), (0, .ref h), (1, .int p0), (2, .int p1)]) hx hb dX11_tellBrick_17 rfl hl (by decide) rfl (fun ls hl => ?_)
    refine lv_iload_n hx hb dX11_tellBrick_18 rfl (lv_at hl 3 rfl) ?_
    by_cases hc4 : p1 = 0
    · replace hw := hw.1 hc4
      refine lv_tableIn (tgt := 60) hx hb dX11_tellBrick_19 (by rw [hc4]; decide) (by rw [hc4]; decide) (by rw [hc4]; rfl) (by decide) ?_
      refine lv_iload_n hx hb dX11_tellBrick_60 rfl (lv_at hl 0 rfl) ?_
      refine lv_if_eq (tgt := 73) hx hb dX11_tellBrick_61 (by decide) (fun hc5 => ?_) (fun hc5 => ?_)
      · replace hw := hw.1 hc5
        refine lv_iconst (v := -1) hx hb dX11_tellBrick_73 (by decide) ?_
        exact hret dX11_tellBrick_74 hK hP hD hS hw
      · replace hw := hw.2 hc5
        refine lv_aload_n hx hb dX11_tellBrick_64 rfl (lv_at hl 1 rfl) ?_
        refine va_get (D := (dC, dI)) (ci := 13) (v := .ref (q 10)) (C := RX11) (T := TX11) (N := 29) hx hb hts hiX11 hown hK hP 0 rfl rfl 10 (by decide) hf16 (fun _ h9 => h9) rfl dX11_tellBrick_65 ?_
        refine lv_iload_n hx hb dX11_tellBrick_68 rfl (lv_at hl 2 rfl) ?_
        obtain ⟨hb6, hw⟩ := hw
        refine va_iald hx hb hK hP 3 0 rfl rfl hb6 dX11_tellBrick_69 ?_
        refine lv_goto (tgt := 74) hx hb dX11_tellBrick_70 (by decide) ?_
        exact hret dX11_tellBrick_74 hK hP hD hS hw
    · replace hw := hw.2 hc4
      by_cases hc7 : p1 = 1
      · replace hw := hw.1 hc7
        refine lv_tableIn (tgt := 75) hx hb dX11_tellBrick_19 (by rw [hc7]; decide) (by rw [hc7]; decide) (by rw [hc7]; rfl) (by decide) ?_
        refine lv_aload_n hx hb dX11_tellBrick_75 rfl (lv_at hl 1 rfl) ?_
        refine va_get (D := (dC, dI)) (ci := 13) (v := .ref (q 13)) (C := RX11) (T := TX11) (N := 29) hx hb hts hiX11 hown hK hP 0 rfl rfl 13 (by decide) hf25 (fun _ h9 => h9) rfl dX11_tellBrick_76 ?_
        refine lv_iload_n hx hb dX11_tellBrick_79 rfl (lv_at hl 2 rfl) ?_
        obtain ⟨hb8, hw⟩ := hw
        refine va_iald hx hb hK hP 6 0 rfl rfl hb8 dX11_tellBrick_80 ?_
        exact hret dX11_tellBrick_81 hK hP hD hS hw
      · replace hw := hw.2 hc7
        by_cases hc9 : p1 = 2
        · replace hw := hw.1 hc9
          refine lv_tableIn (tgt := 82) hx hb dX11_tellBrick_19 (by rw [hc9]; decide) (by rw [hc9]; decide) (by rw [hc9]; rfl) (by decide) ?_
          refine lv_iload_n hx hb dX11_tellBrick_82 rfl (lv_at hl 0 rfl) ?_
          refine lv_if_eq (tgt := 98) hx hb dX11_tellBrick_83 (by decide) (fun hc10 => ?_) (fun hc10 => ?_)
          · replace hw := hw.1 hc10
            refine lv_iconst (v := -1) hx hb dX11_tellBrick_98 (by decide) ?_
            exact hret dX11_tellBrick_99 hK hP hD hS hw
          · replace hw := hw.2 hc10
            refine lv_aload_n hx hb dX11_tellBrick_86 rfl (lv_at hl 1 rfl) ?_
            refine lv_iload_n hx hb dX11_tellBrick_87 rfl (lv_at hl 2 rfl) ?_
            refine g_callVi (rest := []) (W2 := (MWu cI h q)) [.int p0] [0, 1, 2, 3, 4, 5, 6, 7, 8, 9, 10, 11, 12, 13] [] [0] [0, 1, 2, 3, 4, 5, 6, 7, 8, 9, 10, 11, 12, 13] g_Tb (fun _ _ _ _ => trivial) ⟨hx, hb, hml, hown, hts⟩ (t_X11_leftOf l dC dI cI h q H.size u1.1 (u1.2.1) u1.2.2 p0 _ hw) (cwV 1 hts gX11_tellBrick_X11_leftOf rfl rfl rfl (by decide +kernel) ⟨Nat.le_of_ble_eq_true rfl, Nat.le_of_ble_eq_true rfl⟩) hK hP hD hS hA rfl (by decide) (wr := []) rfl (by decide) (by decide) rfl (fun _ => rfl) (by decide) (q0 := 0) rfl rfl rfl hl.1 (Nat.le_of_ble_eq_true rfl) dX11_tellBrick_88 ⟨Nat.le_of_ble_eq_true rfl, Nat.le_of_ble_eq_true rfl⟩ (fun r12 u11 H locs hw hP hD hS => ?_)
            refine lv_iload_n hx hb dX11_tellBrick_91 rfl (lv_at hl 3 rfl) ?_
            refine lv_iadd hx hb dX11_tellBrick_92 ?_
            refine lv_iconst (v := 2) hx hb dX11_tellBrick_93 (by decide) ?_
            refine lv_isub hx hb dX11_tellBrick_94 ?_
            refine lv_goto (tgt := 99) hx hb dX11_tellBrick_95 (by decide) ?_
            exact hret dX11_tellBrick_99 hK hP hD hS hw
        · replace hw := hw.2 hc9
          by_cases hc13 : p1 = 3
          · replace hw := hw.1 hc13
            refine lv_tableIn (tgt := 82) hx hb dX11_tellBrick_19 (by rw [hc13]; decide) (by rw [hc13]; decide) (by rw [hc13]; rfl) (by decide) ?_
            refine lv_iload_n hx hb dX11_tellBrick_82 rfl (lv_at hl 0 rfl) ?_
            refine lv_if_eq (tgt := 98) hx hb dX11_tellBrick_83 (by decide) (fun hc14 => ?_) (fun hc14 => ?_)
            · replace hw := hw.1 hc14
              refine lv_iconst (v := -1) hx hb dX11_tellBrick_98 (by decide) ?_
              exact hret dX11_tellBrick_99 hK hP hD hS hw
            · replace hw := hw.2 hc14
              refine lv_aload_n hx hb dX11_tellBrick_86 rfl (lv_at hl 1 rfl) ?_
              refine lv_iload_n hx hb dX11_tellBrick_87 rfl (lv_at hl 2 rfl) ?_
              refine g_callVi (rest := []) (W2 := (MWu cI h q)) [.int p0] [0, 1, 2, 3, 4, 5, 6, 7, 8, 9, 10, 11, 12, 13] [] [0] [0, 1, 2, 3, 4, 5, 6, 7, 8, 9, 10, 11, 12, 13] g_Tb (fun _ _ _ _ => trivial) ⟨hx, hb, hml, hown, hts⟩ (t_X11_leftOf l dC dI cI h q H.size u1.1 (u1.2.1) u1.2.2 p0 _ hw) (cwV 1 hts gX11_tellBrick_X11_leftOf rfl rfl rfl (by decide +kernel) ⟨Nat.le_of_ble_eq_true rfl, Nat.le_of_ble_eq_true rfl⟩) hK hP hD hS hA rfl (by decide) (wr := []) rfl (by decide) (by decide) rfl (fun _ => rfl) (by decide) (q0 := 0) rfl rfl rfl hl.1 (Nat.le_of_ble_eq_true rfl) dX11_tellBrick_88 ⟨Nat.le_of_ble_eq_true rfl, Nat.le_of_ble_eq_true rfl⟩ (fun r16 u15 H locs hw hP hD hS => ?_)
              refine lv_iload_n hx hb dX11_tellBrick_91 rfl (lv_at hl 3 rfl) ?_
              refine lv_iadd hx hb dX11_tellBrick_92 ?_
              refine lv_iconst (v := 2) hx hb dX11_tellBrick_93 (by decide) ?_
              refine lv_isub hx hb dX11_tellBrick_94 ?_
              refine lv_goto (tgt := 99) hx hb dX11_tellBrick_95 (by decide) ?_
              exact hret dX11_tellBrick_99 hK hP hD hS hw
          · replace hw := hw.2 hc13
            by_cases hc17 : p1 = 4
            · replace hw := hw.1 hc17
              refine lv_tableIn (tgt := 100) hx hb dX11_tellBrick_19 (by rw [hc17]; decide) (by rw [hc17]; decide) (by rw [hc17]; rfl) (by decide) ?_
              refine lv_aload_n hx hb dX11_tellBrick_100 rfl (lv_at hl 1 rfl) ?_
              refine va_get (D := (dC, dI)) (ci := 13) (v := .ref (q 12)) (C := RX11) (T := TX11) (N := 29) hx hb hts hiX11 hown hK hP 0 rfl rfl 12 (by decide) hf22 (fun _ h9 => h9) rfl dX11_tellBrick_101 ?_
              refine lv_iload_n hx hb dX11_tellBrick_104 rfl (lv_at hl 2 rfl) ?_
              obtain ⟨hb18, hw⟩ := hw
              refine va_iald hx hb hK hP 5 0 rfl rfl hb18 dX11_tellBrick_105 ?_
              exact hret dX11_tellBrick_106 hK hP hD hS hw
            · replace hw := hw.2 hc17
              by_cases hc19 : p1 = 5
              · replace hw := hw.1 hc19
                refine lv_tableIn (tgt := 107) hx hb dX11_tellBrick_19 (by rw [hc19]; decide) (by rw [hc19]; decide) (by rw [hc19]; rfl) (by decide) ?_
                refine lv_iload_n hx hb dX11_tellBrick_107 rfl (lv_at hl 0 rfl) ?_
                refine lv_if_eq (tgt := 119) hx hb dX11_tellBrick_108 (by decide) (fun hc20 => ?_) (fun hc20 => ?_)
                · replace hw := hw.1 hc20
                  refine lv_iconst (v := 0) hx hb dX11_tellBrick_119 (by decide) ?_
                  exact hret dX11_tellBrick_120 hK hP hD hS hw
                · replace hw := hw.2 hc20
                  refine lv_aload_n hx hb dX11_tellBrick_111 rfl (lv_at hl 1 rfl) ?_
                  refine lv_iload_n hx hb dX11_tellBrick_112 rfl (lv_at hl 2 rfl) ?_
                  refine g_callVi (rest := []) (W2 := (MWu cI h q)) [.int p0] [0, 1, 2, 3, 4, 5, 6, 7, 8, 9, 10, 11, 12, 13] [] [0] [0, 1, 2, 3, 4, 5, 6, 7, 8, 9, 10, 11, 12, 13] g_Tb (fun _ _ _ _ => trivial) ⟨hx, hb, hml, hown, hts⟩ (t_X11_sortsOf l dC dI cI h q H.size u1.1 (u1.2.1) u1.2.2 p0 _ hw) (cwV 1 hts gX11_tellBrick_X11_sortsOf rfl rfl rfl (by decide +kernel) ⟨Nat.le_of_ble_eq_true rfl, Nat.le_of_ble_eq_true rfl⟩) hK hP hD hS hA rfl (by decide) (wr := []) rfl (by decide) (by decide) rfl (fun _ => rfl) (by decide) (q0 := 0) rfl rfl rfl hl.1 (Nat.le_of_ble_eq_true rfl) dX11_tellBrick_113 ⟨Nat.le_of_ble_eq_true rfl, Nat.le_of_ble_eq_true rfl⟩ (fun r22 u21 H locs hw hP hD hS => ?_)
                  refine lv_goto (tgt := 120) hx hb dX11_tellBrick_116 (by decide) ?_
                  exact hret dX11_tellBrick_120 hK hP hD hS hw
              · replace hw := hw.2 hc19
                by_cases hc23 : p1 = 6
                · replace hw := hw.1 hc23
                  refine lv_tableIn (tgt := 121) hx hb dX11_tellBrick_19 (by rw [hc23]; decide) (by rw [hc23]; decide) (by rw [hc23]; rfl) (by decide) ?_
                  refine lv_iload_n hx hb dX11_tellBrick_121 rfl (lv_at hl 0 rfl) ?_
                  refine lv_if_eq (tgt := 133) hx hb dX11_tellBrick_122 (by decide) (fun hc24 => ?_) (fun hc24 => ?_)
                  · replace hw := hw.1 hc24
                    refine lv_iconst (v := -1) hx hb dX11_tellBrick_133 (by decide) ?_
                    exact hret dX11_tellBrick_134 hK hP hD hS hw
                  · replace hw := hw.2 hc24
                    refine lv_aload_n hx hb dX11_tellBrick_125 rfl (lv_at hl 1 rfl) ?_
                    refine lv_iload_n hx hb dX11_tellBrick_126 rfl (lv_at hl 2 rfl) ?_
                    refine g_callVi (rest := []) (W2 := (MWu cI h q)) [.int p0] [0, 1, 2, 3, 4, 5, 6, 7, 8, 9, 10, 11, 12, 13] [] [0] [0, 1, 2, 3, 4, 5, 6, 7, 8, 9, 10, 11, 12, 13] g_Tb (fun _ _ _ _ => trivial) ⟨hx, hb, hml, hown, hts⟩ (t_X11_tryOf l dC dI cI h q H.size u1.1 (u1.2.1) u1.2.2 p0 _ hw) (cwV 1 hts gX11_tellBrick_X11_tryOf rfl rfl rfl (by decide +kernel) ⟨Nat.le_of_ble_eq_true rfl, Nat.le_of_ble_eq_true rfl⟩) hK hP hD hS hA rfl (by decide) (wr := []) rfl (by decide) (by decide) rfl (fun _ => rfl) (by decide) (q0 := 0) rfl rfl rfl hl.1 (Nat.le_of_ble_eq_true rfl) dX11_tellBrick_127 ⟨Nat.le_of_ble_eq_true rfl, Nat.le_of_ble_eq_true rfl⟩ (fun r26 u25 H locs hw hP hD hS => ?_)
                    refine lv_goto (tgt := 134) hx hb dX11_tellBrick_130 (by decide) ?_
                    exact hret dX11_tellBrick_134 hK hP hD hS hw
                · replace hw := hw.2 hc23
                  refine lv_tableOut (tgt := 135) hx hb dX11_tellBrick_19 (by have z0 := lv_neT hc4 (a := 0) rfl; have z1 := lv_neT hc7 (a := 1) rfl; have z2 := lv_neT hc9 (a := 2) rfl; have z3 := lv_neT hc13 (a := 3) rfl; have z4 := lv_neT hc17 (a := 4) rfl; have z5 := lv_neT hc19 (a := 5) rfl; have z6 := lv_neT hc23 (a := 6) rfl; omega) (by decide) ?_
                  refine lv_bipush (v := -102) hx hb dX11_tellBrick_135 (by decide) ?_
                  exact hret dX11_tellBrick_137 hK hP hD hS hw)
  refine lv_icmp_lt (tgt := 16) hx hb dX11_tellBrick_9 (by decide) (fun hc27 => ?_) (fun hc27 => ?_)
  · replace hw := hw.1 hc27
    refine lv_iconst (v := 0) hx hb dX11_tellBrick_16 (by decide) ?_
    exact hw H locs ls hP hD hS (lv_sub hl [0, 1, 2] rfl)
  · replace hw := hw.2 hc27
    refine lv_iconst (v := 1) hx hb dX11_tellBrick_12 (by decide) ?_
    refine lv_goto (tgt := 17) hx hb dX11_tellBrick_13 (by decide) ?_
    exact hw H locs ls hP hD hS (lv_sub hl [0, 1, 2] rfl)
