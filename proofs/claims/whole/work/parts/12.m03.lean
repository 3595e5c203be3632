def w_X11_brick (f : Nat → Int32) (g : Int64) (a : Nat → Nat → Int32) (p0 : Int32) (p1 : Int32) (Q : Int32 → MSt → Prop) : Prop := w_X11_isBrick f g a p0 (fun (r2 : Int32) (u1 : MSt) => (((r2 = 0) → Q (-101 : Int32) u1) ∧ (¬ (r2 = 0) → w_X11_tellBrick u1.1 (u1.2.1) u1.2.2 p0 p1 (fun (r5 : Int32) (u4 : MSt) => Q r5 u4))))
abbrev rmX11_brick : Room := { frames := 4, cells := 0, slots := 0, locals := 97 }
set_option maxHeartbeats 4000000 in
set_option maxRecDepth 100000 in
theorem t_X11_brick (l : Launch) (dC : Nat → ClassId) (dI : Nat → Nat → Nat) (cI : ClassId) (h : Nat) (q : Nat → Nat) (sz : Nat) (f : Nat → Int32) (g : Int64) (a : Nat → Nat → Int32) (p0 : Int32) (p1 : Int32) (Q0 : Int32 → MSt → Prop) (hw : w_X11_brick f g a p0 p1 Q0) : Met l yX11_brick wsX11_brick rmX11_brick (g_pre g_T (dC, dI) vwCl [(cI, .int)] (MW cI h q f g a) sz [.ref h, .int p0, .int p1]) (g_qi (dC, dI) vwCl [(cI, .int)] (MWu cI h q) Q0 (va_A (MW cI h q f g a) sz)) 0 0 (va_A (MW cI h q f g a) sz) := by
  refine g_starti (by decide) rfl (Nat.le_of_ble_eq_true rfl) ?_
  intro p e s m args below meth c A Q ls hx hb hml hown hts hin hK hP hD hA hS hZ hret hl
  obtain ⟨H, eH⟩ : ∃ H : Heap, H = s.heap := ⟨_, rfl⟩
  obtain ⟨locs, eL⟩ : ∃ L : List Loc, L = [] := ⟨_, rfl⟩
  have hS : va_S A s.heap H locs := by rw [eH, eL]; exact hS
  rw [← eH] at hP
  suffices hg : W p l e rmX11_brick s m args below meth c H locs 0 0 Q (F0 m 0 ls []) by rw [eH, eL] at hg; exact hg
  clear eH eL
  replace hl : lv_has ls 3 [(0, .ref h), (1, .int p0), (2, .int p1)] := hl
  unfold w_X11_brick at hw
  refine lv_aload_n hx hb dX11_brick_0 rfl (lv_at hl 0 rfl) ?_
  refine lv_iload_n hx hb dX11_brick_1 rfl (lv_at hl 1 rfl) ?_
  refine g_callVi (rest := []) (W2 := (MWu cI h q)) [.int p0] [0, 1, 2, 3, 4, 5, 6, 7, 8, 9, 10, 11, 12, 13] [] [0] [0, 1, 2, 3, 4, 5, 6, 7, 8, 9, 10, 11, 12, 13] g_Tb (fun _ _ _ _ => trivial) ⟨hx, hb, hml, hown, hts⟩ (t_X11_isBrick l dC dI cI h q H.size f g a p0 _ hw) (cwV 1 hts gX11_brick_X11_isBrick rfl rfl rfl (by decide +kernel) ⟨Nat.le_of_ble_eq_true rfl, Nat.le_of_ble_eq_true rfl⟩) hK hP hD hS hA rfl (by decide) (wr := []) rfl (by decide) (by decide) rfl (fun _ => rfl) (by decide) (q0 := 0) rfl rfl rfl hl.1 (Nat.le_of_ble_eq_true rfl) dX11_brick_2 ⟨Nat.le_of_ble_eq_true rfl, Nat.le_of_ble_eq_true rfl⟩ (fun r2 u1 H locs hw hP hD hS => ?_)
  refine lv_if_eq (tgt := 17) hx hb dX11_brick_5 (by decide) (fun hc3 => ?_) (fun hc3 => ?_)
  · replace hw := hw.1 hc3
    refine lv_bipush (v := -101) hx hb dX11_brick_17 (by decide) ?_
    exact hret dX11_brick_19 hK hP hD hS hw
  · replace hw := hw.2 hc3
    refine lv_aload_n hx hb dX11_brick_8 rfl (lv_at hl 0 rfl) ?_
    refine lv_iload_n hx hb dX11_brick_9 rfl (lv_at hl 1 rfl) ?_
    refine lv_iload_n hx hb dX11_brick_10 rfl (lv_at hl 2 rfl) ?_
    refine g_callVi (rest := []) (W2 := (MWu cI h q)) [.int p0, .int p1] [0, 1, 2, 3, 4, 5, 6, 7, 8, 9, 10, 11, 12, 13] [] [0] [0, 1, 2, 3, 4, 5, 6, 7, 8, 9, 10, 11, 12, 13] g_Tb (fun _ _ _ _ => trivial) ⟨hx, hb, hml, hown, hts⟩ (t_X11_tellBrick l dC dI cI h q H.size u1.1 (u1.2.1) u1.2.2 p0 p1 _ hw) (cwV 2 hts gX11_brick_X11_tellBrick rfl rfl rfl (by decide +kernel) ⟨Nat.le_of_ble_eq_true rfl, Nat.le_of_ble_eq_true rfl⟩) hK hP hD hS hA rfl (by decide) (wr := []) rfl (by decide) (by decide) rfl (fun _ => rfl) (by decide) (q0 := 0) rfl rfl rfl hl.1 (Nat.le_of_ble_eq_true rfl) dX11_brick_11 ⟨Nat.le_of_ble_eq_true rfl, Nat.le_of_ble_eq_true rfl⟩ (fun r5 u4 H locs hw hP hD hS => ?_)
    refine lv_goto (tgt := 19) hx hb dX11_brick_14 (by decide) ?_
    exact hret dX11_brick_19 hK hP hD hS hw

def w_X11_as (f : Nat → Int32) (g : Int64) (a : Nat → Nat → Int32) (p0 : Int32) (p1 : Int32) (Q : Int32 → MSt → Prop) : Prop := w_X11_isBrick f g a p0 (fun (r2 : Int32) (u1 : MSt) => (((¬ r2 = 0) → w_X11_in (p1.toInt64) (0 : Int64) (4 : Int64) (fun (r4 : Int32) => (((¬ r4 = 0) → ∀ J7 : Int32 → Prop, (∀ (x6 : Int32), ((((x6 = 0) → Q (-1 : Int32) u1) ∧ (¬ (x6 = 0) → (((p0 < (u1.1 6)) → Q (-1 : Int32) u1) ∧ (¬ (p0 < (u1.1 6)) → Q p0 u1))))) → J7 x6) → ∀ J10 : Prop, ((J7 (1 : Int32)) → J10) → (((p1 = 0) → J10) ∧ (¬ (p1 = 0) → (vp_in p0 10) ∧ (((p1 = ((u1.2.2 10) p0.toNatClampNeg)) → J10) ∧ (¬ (p1 = ((u1.2.2 10) p0.toNatClampNeg)) → ∀ J14 : Prop, ((J7 (0 : Int32)) → J14) → (((¬ p1 = (3 : Int32)) → J14) ∧ (p1 = (3 : Int32) → (vp_in p0 10) ∧ (((¬ ((u1.2.2 10) p0.toNatClampNeg) = (4 : Int32)) → J14) ∧ (((u1.2.2 10) p0.toNatClampNeg) = (4 : Int32) → J10))))))))) ∧ (r4 = 0 → Q (-102 : Int32) u1)))) ∧ (r2 = 0 → Q (-101 : Int32) u1)))
abbrev rmX11_as : Room := { frames := 2, cells := 0, slots := 0, locals := 46 }
set_option maxHeartbeats 4000000 in
set_option maxRecDepth 100000 in
theorem t_X11_as (l : Launch) (dC : Nat → ClassId) (dI : Nat → Nat → Nat) (cI : ClassId) (h : Nat) (q : Nat → Nat) (sz : Nat) (f : Nat → Int32) (g : Int64) (a : Nat → Nat → Int32) (p0 : Int32) (p1 : Int32) (Q0 : Int32 → MSt → Prop) (hw : w_X11_as f g a p0 p1 Q0) : Met l yX11_as wsX11_as rmX11_as (g_pre g_T (dC, dI) vwCl [(cI, .int)] (MW cI h q f g a) sz [.ref h, .int p0, .int p1]) (g_qi (dC, dI) vwCl [(cI, .int)] (MWu cI h q) Q0 (va_A (MW cI h q f g a) sz)) 0 0 (va_A (MW cI h q f g a) sz) := by
  refine g_starti (by decide) rfl (Nat.le_of_ble_eq_true rfl) ?_
  intro p e s m args below meth c A Q ls hx hb hml hown hts hin hK hP hD hA hS hZ hret hl
  obtain ⟨H, eH⟩ : ∃ H : Heap, H = s.heap := ⟨_, rfl⟩
  obtain ⟨locs, eL⟩ : ∃ L : List Loc, L = [] := ⟨_, rfl⟩
  have hS : va_S A s.heap H locs := by rw [eH, eL]; exact hS
  rw [← eH] at hP
  suffices hg : W p l e rmX11_as s m args below meth c H locs 0 0 Q (F0 m 0 ls []) by rw [eH, eL] at hg; exact hg
  clear eH eL
  replace hl : lv_has ls 4 [(0, .ref h), (1, .int p0), (2, .int p1)] := hl
  have kc145 := hts (.constantLong RX11 145 (4)) (by decide +kernel)
  have hf97 := hts (.fieldLink RX11 97 "NumberPileModel" "wide" "I") (by decide +kernel)
  have hiX11 : ∀ w ∈ u_ws RX11 TX11 29, w ∈ wsX11_as := fun w h => List.mem_cons_of_mem _ (List.mem_append_right _ h)
  have hf16 := hts (.fieldLink RX11 16 "NumberPileModel" "kinds" "[I") (by decide +kernel)
  unfold w_X11_as at hw
  refine lv_aload_n hx hb dX11_as_0 rfl (lv_at hl 0 rfl) ?_
  refine lv_iload_n hx hb dX11_as_1 rfl (lv_at hl 1 rfl) ?_
  refine g_callVi (rest := []) (W2 := (MWu cI h q)) [.int p0] [0, 1, 2, 3, 4, 5, 6, 7, 8, 9, 10, 11, 12, 13] [] [0] [0, 1, 2, 3, 4, 5, 6, 7, 8, 9, 10, 11, 12, 13] g_Tb (fun _ _ _ _ => trivial) ⟨hx, hb, hml, hown, hts⟩ (t_X11_isBrick l dC dI cI h q H.size f g a p0 _ hw) (cwV 1 hts gX11_as_X11_isBrick rfl rfl rfl (by decide +kernel) ⟨Nat.le_of_ble_eq_true rfl, Nat.le_of_ble_eq_true rfl⟩) hK hP hD hS hA rfl (by decide) (wr := []) rfl (by decide) (by decide) rfl (fun _ => rfl) (by decide) (q0 := 0) rfl rfl rfl hl.1 (Nat.le_of_ble_eq_true rfl) dX11_as_2 ⟨Nat.le_of_ble_eq_true rfl, Nat.le_of_ble_eq_true rfl⟩ (fun r2 u1 H locs hw hP hD hS => ?_)
  refine lv_if_ne (tgt := 11) hx hb dX11_as_5 (by decide) (fun hc3 => ?_) (fun hc3 => ?_)
  · replace hw := hw.1 hc3
    refine lv_iload_n hx hb dX11_as_11 rfl (lv_at hl 2 rfl) ?_
    refine lv_i2l hx hb dX11_as_12 rfl ?_
    refine lv_lconst (v := 0) hx hb dX11_as_13 (by decide) ?_
    refine lv_ldc2 hx hb hown kc145 dX11_as_14 ?_
    refine g_callP (rest := []) [.long (p1.toInt64), .long (0 : Int64), .long (4 : Int64)] ⟨hx, hb, hml, hown, hts⟩ (t_X11_in l (p1.toInt64) (0 : Int64) (4 : Int64) _ hw) (va_cwS 3 hts gX11_as_X11_in rfl rfl rfl (by decide +kernel) ⟨Nat.le_of_ble_eq_true rfl, Nat.le_of_ble_eq_true rfl⟩) rfl hl.1 (Nat.le_of_ble_eq_true rfl) dX11_as_17 ⟨Nat.le_of_ble_eq_true rfl, Nat.le_of_ble_eq_true rfl⟩ (fun r4 hw => ?_)
    refine lv_if_ne (tgt := 26) hx hb dX11_as_20 (by decide) (fun hc5 => ?_) (fun hc5 => ?_)
    · replace hw := hw.1 hc5
      refine lv_iload_n hx hb dX11_as_26 rfl (lv_at hl 2 rfl) ?_
      replace hw := hw (fun (x6 : Int32) => ∀ (H : Heap) (locs : List Loc) (ls : Array Slot), va_P (dC, dI) vwCl (MW cI h q u1.1 (u1.2.1) u1.2.2) H → va_D A (MW cI h q u1.1 (u1.2.1) u1.2.2) → va_S A s.heap H locs → lv_has ls 4 [(0, .ref h), (1, .int p0)] → W p l e rmX11_as s m args below meth c H locs 0 0 Q (F0 m 60 ls [.int x6])) (by
        intro x6 hw H locs ls hP hD hS hl
        refine lv_istore_n (lv' := [(3, .int x6), (0, .ref h), (1, .int p0)]) hx hb dX11_as_60 rfl hl (by decide) rfl (fun ls hl => ?_)
        refine lv_iload_n hx hb dX11_as_61 rfl (lv_at hl 0 rfl) ?_
        refine lv_if_eq (tgt := 77) hx hb dX11_as_62 (by decide) (fun hc8 => ?_) (fun hc8 => ?_)
        · replace hw := hw.1 hc8
          refine lv_iconst (v := -1) hx hb dX11_as_77 (by decide) ?_
          exact hret dX11_as_78 hK hP hD hS hw
        · replace hw := hw.2 hc8
          refine lv_iload_n hx hb dX11_as_65 rfl (lv_at hl 2 rfl) ?_
          refine lv_aload_n hx hb dX11_as_66 rfl (lv_at hl 1 rfl) ?_
          refine va_get (D := (dC, dI)) (ci := 13) (v := .int (u1.1 6)) (C := RX11) (T := TX11) (N := 29) hx hb hts hiX11 hown hK hP 0 rfl rfl 6 (by decide) hf97 (fun _ h9 => h9) rfl dX11_as_67 ?_
          refine lv_icmp_lt (tgt := 77) hx hb dX11_as_70 (by decide) (fun hc9 => ?_) (fun hc9 => ?_)
          · replace hw := hw.1 hc9
            refine lv_iconst (v := -1) hx hb dX11_as_77 (by decide) ?_
            exact hret dX11_as_78 hK hP hD hS hw
          · replace hw := hw.2 hc9
            refine lv_iload_n hx hb dX11_as_73 rfl (lv_at hl 2 rfl) ?_
            refine lv_goto (tgt := 78) hx hb dX11_as_74 (by decide) ?_
            exact hret dX11_as_78 hK hP hD hS hw)
      replace hw := hw (∀ (H : Heap) (locs : List Loc) (ls : Array Slot), va_P (dC, dI) vwCl (MW cI h q u1.1 (u1.2.1) u1.2.2) H → va_D A (MW cI h q u1.1 (u1.2.1) u1.2.2) → va_S A s.heap H locs → lv_has ls 4 [(0, .ref h), (1, .int p0)] → W p l e rmX11_as s m args below meth c H locs 0 0 Q (F0 m 55 ls [])) (by
        intro hw H locs ls hP hD hS hl
        refine lv_iconst (v := 1) hx hb dX11_as_55 (by decide) ?_
        refine lv_goto (tgt := 60) hx hb dX11_as_56 (by decide) ?_
        exact hw H locs ls hP hD hS (lv_sub hl [0, 1] rfl))
      refine lv_if_eq (tgt := 55) hx hb dX11_as_27 (by decide) (fun hc11 => ?_) (fun hc11 => ?_)
      · replace hw := hw.1 hc11
        exact hw H locs ls hP hD hS (lv_sub hl [0, 1] rfl)
      · replace hw := hw.2 hc11
        refine lv_iload_n hx hb dX11_as_30 rfl (lv_at hl 2 rfl) ?_
        refine lv_aload_n hx hb dX11_as_31 rfl (lv_at hl 0 rfl) ?_
        refine va_get (D := (dC, dI)) (ci := 13) (v := .ref (q 10)) (C := RX11) (T := TX11) (N := 29) hx hb hts hiX11 hown hK hP 0 rfl rfl 10 (by decide) hf16 (fun _ h9 => h9) rfl dX11_as_32 ?_
        refine lv_iload_n hx hb dX11_as_35 rfl (lv_at hl 1 rfl) ?_
        obtain ⟨hb12, hw⟩ := hw
        refine va_iald hx hb hK hP 3 0 rfl rfl hb12 dX11_as_36 ?_
        refine lv_icmp_eq (tgt := 55) hx hb dX11_as_37 (by decide) (fun hc13 => ?_) (fun hc13 => ?_)
        · replace hw := hw.1 hc13
          exact hw H locs ls hP hD hS (lv_sub hl [0, 1] rfl)
        · replace hw := hw.2 hc13
          refine lv_iload_n hx hb dX11_as_40 rfl (lv_at hl 2 rfl) ?_
          refine lv_iconst (v := 3) hx hb dX11_as_41 (by decide) ?_
          replace hw := hw (∀ (H : Heap) (locs : List Loc) (ls : Array Slot), va_P (dC, dI) vwCl (MW cI h q u1.1 (u1.2.1) u1.2.2) H → va_D A (MW cI h q u1.1 (u1.2.1) u1.2.2) → va_S A s.heap H locs → lv_has ls 4 [(0, .ref h), (1, .int p0)] → W p l e rmX11_as s m args below meth c H locs 0 0 Q (F0 m 59 ls [])) (by
            intro hw H locs ls hP hD hS hl
            refine lv_iconst (v := 0) hx hb dX11_as_59 (by decide) ?_
            exact hw H locs ls hP hD hS (lv_sub hl [0, 1] rfl))
          refine lv_icmp_ne (tgt := 59) hx hb dX11_as_42 (by decide) (fun hc15 => ?_) (fun hc15 => ?_)
          · replace hw := hw.1 hc15
            exact hw H locs ls hP hD hS (lv_sub hl [0, 1] rfl)
          · replace hw := hw.2 hc15
            refine lv_aload_n hx hb dX11_as_45 rfl (lv_at hl 0 rfl) ?_
            refine va_get (D := (dC, dI)) (ci := 13) (v := .ref (q 10)) (C := RX11) (T := TX11) (N := 29) hx hb hts hiX11 hown hK hP 0 rfl rfl 10 (by decide) hf16 (fun _ h9 => h9) rfl dX11_as_46 ?_
            refine lv_iload_n hx hb dX11_as_49 rfl (lv_at hl 1 rfl) ?_
            obtain ⟨hb16, hw⟩ := hw
            refine va_iald hx hb hK hP 3 0 rfl rfl hb16 dX11_as_50 ?_
            refine lv_iconst (v := 4) hx hb dX11_as_51 (by decide) ?_
            refine lv_icmp_ne (tgt := 59) hx hb dX11_as_52 (by decide) (fun hc17 => ?_) (fun hc17 => ?_)
            · replace hw := hw.1 hc17
              exact hw H locs ls hP hD hS (lv_sub hl [0, 1] rfl)
            · replace hw := hw.2 hc17
              exact hw H locs ls hP hD hS (lv_sub hl [0, 1] rfl)
    · replace hw := hw.2 hc5
      refine lv_bipush (v := -102) hx hb dX11_as_23 (by decide) ?_
      exact hret dX11_as_25 hK hP hD hS hw
  · replace hw := hw.2 hc3
    refine lv_bipush (v := -101) hx hb dX11_as_8 (by decide) ?_
    exact hret dX11_as_10 hK hP hD hS hw

def w_X11_makes (f : Nat → Int32) (g : Int64) (a : Nat → Nat → Int32) (p0 : Int32) (p1 : Int32) (p2 : Int32) (Q : Int32 → MSt → Prop) : Prop := w_X11_isUpper f g a p0 (fun (r2 : Int32) (u1 : MSt) => (((¬ r2 = 0) → w_X11_in (p1.toInt64) (0 : Int64) (9 : Int64) (fun (r4 : Int32) => (((r4 = 0) → Q (-102 : Int32) u1) ∧ (¬ (r4 = 0) → w_X11_in (p2.toInt64) (0 : Int64) (9 : Int64) (fun (r6 : Int32) => (((r6 = 0) → Q (-102 : Int32) u1) ∧ (¬ (r6 = 0) → (vp_in p0 10) ∧ w_X11_madeBy ((u1.2.2 10) p0.toNatClampNeg) p1 p2 (fun (r9 : Int32) => Q r9 u1)))))))) ∧ (r2 = 0 → Q (-101 : Int32) u1)))
abbrev rmX11_makes : Room := { frames := 2, cells := 0, slots := 0, locals := 46 }
set_option maxHeartbeats 4000000 in
set_option maxRecDepth 100000 in
theorem t_X11_makes (l : Launch) (dC : Nat → ClassId) (dI : Nat → Nat → Nat) (cI : ClassId) (h : Nat) (q : Nat → Nat) (sz : Nat) (f : Nat → Int32) (g : Int64) (a : Nat → Nat → Int32) (p0 : Int32) (p1 : Int32) (p2 : Int32) (Q0 : Int32 → MSt → Prop) (hw : w_X11_makes f g a p0 p1 p2 Q0) : Met l yX11_makes wsX11_makes rmX11_makes (g_pre g_T (dC, dI) vwCl [(cI, .int)] (MW cI h q f g a) sz [.ref h, .int p0, .int p1, .int p2]) (g_qi (dC, dI) vwCl [(cI, .int)] (MWu cI h q) Q0 (va_A (MW cI h q f g a) sz)) 0 0 (va_A (MW cI h q f g a) sz) := by
  refine g_starti (by decide) rfl (Nat.le_of_ble_eq_true rfl) ?_
  intro p e s m args below meth c A Q ls hx hb hml hown hts hin hK hP hD hA hS hZ hret hl
  obtain ⟨H, eH⟩ : ∃ H : Heap, H = s.heap := ⟨_, rfl⟩
  obtain ⟨locs, eL⟩ : ∃ L : List Loc, L = [] := ⟨_, rfl⟩
  have hS : va_S A s.heap H locs := by rw [eH, eL]; exact hS
  rw [← eH] at hP
  suffices hg : W p l e rmX11_makes s m args below meth c H locs 0 0 Q (F0 m 0 ls []) by rw [eH, eL] at hg; exact hg
  clear eH eL
  replace hl : lv_has ls 4 [(0, .ref h), (1, .int p0), (2, .int p1), (3, .int p2)] := hl
  have kc150 := hts (.constantLong RX11 150 (9)) (by decide +kernel)
  have hf16 := hts (.fieldLink RX11 16 "NumberPileModel" "kinds" "[I") (by decide +kernel)
  have hiX11 : ∀ w ∈ u_ws RX11 TX11 29, w ∈ wsX11_makes := fun w h => List.mem_cons_of_mem _ (List.mem_append_right _ h)
  unfold w_X11_makes at hw
  refine lv_aload_n hx hb dX11_makes_0 rfl (lv_at hl 0 rfl) ?_
  refine lv_iload_n hx hb dX11_makes_1 rfl (lv_at hl 1 rfl) ?_
  refine g_callVi (rest := []) (W2 := (MWu cI h q)) [.int p0] [0, 1, 2, 3, 4, 5, 6, 7, 8, 9, 10, 11, 12, 13] [] [0] [0, 1, 2, 3, 4, 5, 6, 7, 8, 9, 10, 11, 12, 13] g_Tb (fun _ _ _ _ => trivial) ⟨hx, hb, hml, hown, hts⟩ (t_X11_isUpper l dC dI cI h q H.size f g a p0 _ hw) (cwV 1 hts gX11_makes_X11_isUpper rfl rfl rfl (by decide +kernel) ⟨Nat.le_of_ble_eq_true rfl, Nat.le_of_ble_eq_true rfl⟩) hK hP hD hS hA rfl (by decide) (wr := []) rfl (by decide) (by decide) rfl (fun _ => rfl) (by decide) (q0 := 0) rfl rfl rfl hl.1 (Nat.le_of_ble_eq_true rfl) dX11_makes_2 ⟨Nat.le_of_ble_eq_true rfl, Nat.le_of_ble_eq_true rfl⟩ (fun r2 u1 H locs hw hP hD hS => ?_)
  refine lv_if_ne (tgt := 11) hx hb dX11_makes_5 (by decide) (fun hc3 => ?_) (fun hc3 => ?_)
  · replace hw := hw.1 hc3
    refine lv_iload_n hx hb dX11_makes_11 rfl (lv_at hl 2 rfl) ?_
    refine lv_i2l hx hb dX11_makes_12 rfl ?_
    refine lv_lconst (v := 0) hx hb dX11_makes_13 (by decide) ?_
    refine lv_ldc2 hx hb hown kc150 dX11_makes_14 ?_
    refine g_callP (rest := []) [.long (p1.toInt64), .long (0 : Int64), .long (9 : Int64)] ⟨hx, hb, hml, hown, hts⟩ (t_X11_in l (p1.toInt64) (0 : Int64) (9 : Int64) _ hw) (va_cwS 3 hts gX11_makes_X11_in rfl rfl rfl (by decide +kernel) ⟨Nat.le_of_ble_eq_true rfl, Nat.le_of_ble_eq_true rfl⟩) rfl hl.1 (Nat.le_of_ble_eq_true rfl) dX11_makes_17 ⟨Nat.le_of_ble_eq_true rfl, Nat.le_of_ble_eq_true rfl⟩ (fun r4 hw => ?_)
    refine lv_if_eq (tgt := 49) hx hb dX11_makes_20 (by decide) (fun hc5 => ?_) (fun hc5 => ?_)
    · replace hw := hw.1 hc5
      refine lv_bipush (v := -102) hx hb dX11_makes_49 (by decide) ?_
      exact hret dX11_makes_51 hK hP hD hS hw
    · replace hw := hw.2 hc5
      refine lv_iload_n hx hb dX11_makes_23 rfl (lv_at hl 3 rfl) ?_
      refine lv_i2l hx hb dX11_makes_24 rfl ?_
      refine lv_lconst (v := 0) hx hb dX11_makes_25 (by decide) ?_
      refine lv_ldc2 hx hb hown kc150 dX11_makes_26 ?_
      refine g_callP (rest := []) [.long (p2.toInt64), .long (0 : Int64), .long (9 : Int64)] ⟨hx, hb, hml, hown, hts⟩ (t_X11_in l (p2.toInt64) (0 : Int64) (9 : Int64) _ hw) (va_cwS 3 hts gX11_makes_X11_in rfl rfl rfl (by decide +kernel) ⟨Nat.le_of_ble_eq_true rfl, Nat.le_of_ble_eq_true rfl⟩) rfl hl.1 (Nat.le_of_ble_eq_true rfl) dX11_makes_29 ⟨Nat.le_of_ble_eq_true rfl, Nat.le_of_ble_eq_true rfl⟩ (fun r6 hw => ?_)
      refine lv_if_eq (tgt := 49) hx hb dX11_makes_32 (by decide) (fun hc7 => ?_) (fun hc7 => ?_)
      · replace hw := hw.1 hc7
        refine lv_bipush (v := -102) hx hb dX11_makes_49 (by decide) ?_
        exact hret dX11_makes_51 hK hP hD hS hw
      · replace hw := hw.2 hc7
        refine lv_aload_n hx hb dX11_makes_35 rfl (lv_at hl 0 rfl) ?_
        refine va_get (D := (dC, dI)) (ci := 13) (v := .ref (q 10)) (C := RX11) (T := TX11) (N := 29) hx hb hts hiX11 hown hK hP 0 rfl rfl 10 (by decide) hf16 (fun _ h9 => h9) rfl dX11_makes_36 ?_
        refine lv_iload_n hx hb dX11_makes_39 rfl (lv_at hl 1 rfl) ?_
        obtain ⟨hb8, hw⟩ := hw
        refine va_iald hx hb hK hP 3 0 rfl rfl hb8 dX11_makes_40 ?_
        refine lv_iload_n hx hb dX11_makes_41 rfl (lv_at hl 2 rfl) ?_
        refine lv_iload_n hx hb dX11_makes_42 rfl (lv_at hl 3 rfl) ?_
        refine g_callP (rest := []) [.int ((u1.2.2 10) p0.toNatClampNeg), .int p1, .int p2] ⟨hx, hb, hml, hown, hts⟩ (t_X11_madeBy l ((u1.2.2 10) p0.toNatClampNeg) p1 p2 _ hw) (va_cwS 3 hts gX11_makes_X11_madeBy rfl rfl rfl (by decide +kernel) ⟨Nat.le_of_ble_eq_true rfl, Nat.le_of_ble_eq_true rfl⟩) rfl hl.1 (Nat.le_of_ble_eq_true rfl) dX11_makes_43 ⟨Nat.le_of_ble_eq_true rfl, Nat.le_of_ble_eq_true rfl⟩ (fun r9 hw => ?_)
        refine lv_goto (tgt := 51) hx hb dX11_makes_46 (by decide) ?_
        exact hret dX11_makes_51 hK hP hD hS hw
  · replace hw := hw.2 hc3
    refine lv_bipush (v := -101) hx hb dX11_makes_8 (by decide) ?_
    exact hret dX11_makes_10 hK hP hD hS hw

def w_X11_put (f : Nat → Int32) (g : Int64) (a : Nat → Nat → Int32) (p0 : Int32) (p1 : Int32) (Q : Int32 → MSt → Prop) : Prop := w_X11_isFigure f g a p0 (fun (r2 : Int32) (u1 : MSt) => (((¬ r2 = 0) → w_X11_in (p1.toInt64) (0 : Int64) (9 : Int64) (fun (r4 : Int32) => (((¬ r4 = 0) → (((¬ (u1.1 8) = (9999 : Int32)) → (vp_in p0 4) ∧ ∀ x8 : Int32, x8 = ((u1.1 8) + (1 : Int32)) → w_X11_topNow (upd u1.1 8 x8) (u1.2.1) (va_up u1.2.2 11 (upd (u1.2.2 11) p0.toNatClampNeg p1)) (fun (r10 : Int32) (u9 : MSt) => Q r10 u9)) ∧ ((u1.1 8) = (9999 : Int32) → Q (-104 : Int32) u1))) ∧ (r4 = 0 → Q (-102 : Int32) u1)))) ∧ (r2 = 0 → Q (-101 : Int32) u1)))
abbrev rmX11_put : Room := { frames := 4, cells := 0, slots := 0, locals := 84 }
set_option maxHeartbeats 4000000 in
set_option maxRecDepth 100000 in
theorem t_X11_put (l : Launch) (dC : Nat → ClassId) (dI : Nat → Nat → Nat) (cI : ClassId) (h : Nat) (q : Nat → Nat) (sz : Nat) (f : Nat → Int32) (g : Int64) (a : Nat → Nat → Int32) (p0 : Int32) (p1 : Int32) (Q0 : Int32 → MSt → Prop) (hw : w_X11_put f g a p0 p1 Q0) : Met l yX11_put wsX11_put rmX11_put (g_pre g_T (dC, dI) vwCl [(cI, .int)] (MW cI h q f g a) sz [.ref h, .int p0, .int p1]) (g_qi (dC, dI) vwCl [(cI, .int)] (MWu cI h q) Q0 (va_A (MW cI h q f g a) sz)) 0 0 (va_A (MW cI h q f g a) sz) := by
  refine g_starti (by decide) rfl (Nat.le_of_ble_eq_true rfl) ?_
  intro p e s m args below meth c A Q ls hx hb hml hown hts hin hK hP hD hA hS hZ hret hl
  obtain ⟨H, eH⟩ : ∃ H : Heap, H = s.heap := ⟨_, rfl⟩
  obtain ⟨locs, eL⟩ : ∃ L : List Loc, L = [] := ⟨_, rfl⟩
  have hS : va_S A s.heap H locs := by rw [eH, eL]; exact hS
  rw [← eH] at hP
  suffices hg : W p l e rmX11_put s m args below meth c H locs 0 0 Q (F0 m 0 ls []) by rw [eH, eL] at hg; exact hg
  clear eH eL
  replace hl : lv_has ls 3 [(0, .ref h), (1, .int p0), (2, .int p1)] := hl
  have kc150 := hts (.constantLong RX11 150 (9)) (by decide +kernel)
  have hf110 := hts (.fieldLink RX11 110 "NumberPileModel" "changes" "I") (by decide +kernel)
  have hiX11 : ∀ w ∈ u_ws RX11 TX11 29, w ∈ wsX11_put := fun w h => List.mem_cons_of_mem _ (List.mem_append_right _ h)
  have hf19 := hts (.fieldLink RX11 19 "NumberPileModel" "figures" "[I") (by decide +kernel)
  unfold w_X11_put at hw
  refine lv_aload_n hx hb dX11_put_0 rfl (lv_at hl 0 rfl) ?_
  refine lv_iload_n hx hb dX11_put_1 rfl (lv_at hl 1 rfl) ?_
  refine g_callVi (rest := []) (W2 := (MWu cI h q)) [.int p0] [0, 1, 2, 3, 4, 5, 6, 7, 8, 9, 10, 11, 12, 13] [] [0] [0, 1, 2, 3, 4, 5, 6, 7, 8, 9, 10, 11, 12, 13] g_Tb (fun _ _ _ _ => trivial) ⟨hx, hb, hml, hown, hts⟩ (t_X11_isFigure l dC dI cI h q H.size f g a p0 _ hw) (cwV 1 hts gX11_put_X11_isFigure rfl rfl rfl (by decide +kernel) ⟨Nat.le_of_ble_eq_true rfl, Nat.le_of_ble_eq_true rfl⟩) hK hP hD hS hA rfl (by decide) (wr := []) rfl (by decide) (by decide) rfl (fun _ => rfl) (by decide) (q0 := 0) rfl rfl rfl hl.1 (Nat.le_of_ble_eq_true rfl) dX11_put_2 ⟨Nat.le_of_ble_eq_true rfl, Nat.le_of_ble_eq_true rfl⟩ (fun r2 u1 H locs hw hP hD hS => ?_)
  refine lv_if_ne (tgt := 11) hx hb dX11_put_5 (by decide) (fun hc3 => ?_) (fun hc3 => ?_)
  · replace hw := hw.1 hc3
    refine lv_iload_n hx hb dX11_put_11 rfl (lv_at hl 2 rfl) ?_
    refine lv_i2l hx hb dX11_put_12 rfl ?_
    refine lv_lconst (v := 0) hx hb dX11_put_13 (by decide) ?_
    refine lv_ldc2 hx hb hown kc150 dX11_put_14 ?_
    refine g_callP (rest := []) [.long (p1.toInt64), .long (0 : Int64), .long (9 : Int64)] ⟨hx, hb, hml, hown, hts⟩ (t_X11_in l (p1.toInt64) (0 : Int64) (9 : Int64) _ hw) (va_cwS 3 hts gX11_put_X11_in rfl rfl rfl (by decide +kernel) ⟨Nat.le_of_ble_eq_true rfl, Nat.le_of_ble_eq_true rfl⟩) rfl hl.1 (Nat.le_of_ble_eq_true rfl) dX11_put_17 ⟨Nat.le_of_ble_eq_true rfl, Nat.le_of_ble_eq_true rfl⟩ (fun r4 hw => ?_)
    refine lv_if_ne (tgt := 26) hx hb dX11_put_20 (by decide) (fun hc5 => ?_) (fun hc5 => ?_)
    · replace hw := hw.1 hc5
      refine lv_aload_n hx hb dX11_put_26 rfl (lv_at hl 0 rfl) ?_
      refine va_get (D := (dC, dI)) (ci := 13) (v := .int (u1.1 8)) (C := RX11) (T := TX11) (N := 29) hx hb hts hiX11 hown hK hP 0 rfl rfl 8 (by decide) hf110 (fun _ h9 => h9) rfl dX11_put_27 ?_
      refine lv_sipush (v := 9999) hx hb dX11_put_30 (by decide) ?_
      refine lv_icmp_ne (tgt := 39) hx hb dX11_put_33 (by decide) (fun hc6 => ?_) (fun hc6 => ?_)
      · replace hw := hw.1 hc6
        refine lv_aload_n hx hb dX11_put_39 rfl (lv_at hl 0 rfl) ?_
        refine va_get (D := (dC, dI)) (ci := 13) (v := .ref (q 11)) (C := RX11) (T := TX11) (N := 29) hx hb hts hiX11 hown hK hP 0 rfl rfl 11 (by decide) hf19 (fun _ h9 => h9) rfl dX11_put_40 ?_
        refine lv_iload_n hx hb dX11_put_43 rfl (lv_at hl 1 rfl) ?_
        refine lv_iload_n hx hb dX11_put_44 rfl (lv_at hl 2 rfl) ?_
        obtain ⟨hb7, hw⟩ := hw
        refine va_iast hx hb hK hP hD hS 4 0 rfl rfl hb7 dX11_put_45 (fun H locs hP hD hS => ?_)
        replace hP : va_P (dC, dI) vwCl (MW cI h q u1.1 (u1.2.1) (va_up u1.2.2 11 (upd (u1.2.2 11) p0.toNatClampNeg p1))) H := hP
        replace hD : va_D A (MW cI h q u1.1 (u1.2.1) (va_up u1.2.2 11 (upd (u1.2.2 11) p0.toNatClampNeg p1))) := hD
        refine lv_aload_n hx hb dX11_put_46 rfl (lv_at hl 0 rfl) ?_
        refine lv_dup hx hb dX11_put_47 rfl ?_
        refine va_get (D := (dC, dI)) (ci := 13) (v := .int (u1.1 8)) (C := RX11) (T := TX11) (N := 29) hx hb hts hiX11 hown hK hP 0 rfl rfl 8 (by decide) hf110 (fun _ h9 => h9) rfl dX11_put_48 ?_
        refine lv_iconst (v := 1) hx hb dX11_put_51 (by decide) ?_
        refine lv_iadd hx hb dX11_put_52 ?_
        refine lv_topi (fun x8 ex8 => ?_)
        replace hw := hw x8 ex8
        refine va_put (D := (dC, dI)) (ci := 13) (v := .int x8) (ty := (.int)) (C := RX11) (T := TX11) (N := 29) hx hb hts hiX11 tyX11 tyX11_ok nmX11 hown hK hP hD hS 0 rfl rfl 8 (by decide) hf110 (fun _ h9 => h9) rfl (by decide +kernel) rfl rfl (Nat.le_of_ble_eq_true rfl) dX11_put_53 (fun H locs hP hD hS => ?_)
        replace hP : va_P (dC, dI) vwCl (MW cI h q (upd u1.1 8 x8) (u1.2.1) (va_up u1.2.2 11 (upd (u1.2.2 11) p0.toNatClampNeg p1))) H := hP
        replace hD : va_D A (MW cI h q (upd u1.1 8 x8) (u1.2.1) (va_up u1.2.2 11 (upd (u1.2.2 11) p0.toNatClampNeg p1))) := hD
        refine lv_aload_n hx hb dX11_put_56 rfl (lv_at hl 0 rfl) ?_
        refine g_callVi (rest := []) (W2 := (MWu cI h q)) [] [0, 1, 2, 3, 4, 5, 6, 7, 8, 9, 10, 11, 12, 13] [] [0] [0, 1, 2, 3, 4, 5, 6, 7, 8, 9, 10, 11, 12, 13] g_Tb (fun _ _ _ _ => trivial) ⟨hx, hb, hml, hown, hts⟩ (t_X11_topNow l dC dI cI h q H.size (upd u1.1 8 x8) (u1.2.1) (va_up u1.2.2 11 (upd (u1.2.2 11) p0.toNatClampNeg p1)) _ hw) (cwV 0 hts gX11_put_X11_topNow rfl rfl rfl (by decide +kernel) ⟨Nat.le_of_ble_eq_true rfl, Nat.le_of_ble_eq_true rfl⟩) hK hP hD hS hA rfl (by decide) (wr := []) rfl (by decide) (by decide) rfl (fun _ => rfl) (by decide) (q0 := 0) rfl rfl rfl hl.1 (Nat.le_of_ble_eq_true rfl) dX11_put_57 ⟨Nat.le_of_ble_eq_true rfl, Nat.le_of_ble_eq_true rfl⟩ (fun r10 u9 H locs hw hP hD hS => ?_)
        exact hret dX11_put_60 hK hP hD hS hw
      · replace hw := hw.2 hc6
        refine lv_bipush (v := -104) hx hb dX11_put_36 (by decide) ?_
        exact hret dX11_put_38 hK hP hD hS hw
    · replace hw := hw.2 hc5
      refine lv_bipush (v := -102) hx hb dX11_put_23 (by decide) ?_
      exact hret dX11_put_25 hK hP hD hS hw
  · replace hw := hw.2 hc3
    refine lv_bipush (v := -101) hx hb dX11_put_8 (by decide) ?_
    exact hret dX11_put_10 hK hP hD hS hw

def w_X11_exchange (f : Nat → Int32) (g : Int64) (a : Nat → Nat → Int32) (p0 : Int32) (p1 : Int32) (Q : Int32 → MSt → Prop) : Prop := w_X11_isFigure f g a p0 (fun (r2 : Int32) (u1 : MSt) => (((r2 = 0) → Q (-101 : Int32) u1) ∧ (¬ (r2 = 0) → w_X11_isFigure u1.1 (u1.2.1) u1.2.2 p1 (fun (r5 : Int32) (u4 : MSt) => (((r5 = 0) → Q (-101 : Int32) u4) ∧ (¬ (r5 = 0) → (((¬ p0 = p1) → (((¬ (u4.1 8) = (9999 : Int32)) → (vp_in p0 4) ∧ ∀ x10 : Int32, x10 = ((u4.2.2 11) p0.toNatClampNeg) → (vp_in p1 4) ∧ ∀ x13 : Int32, x13 = ((u4.2.2 11) p1.toNatClampNeg) → (vp_in p0 4) ∧ ∀ z15 : Nat → Int32, z15 = (upd (u4.2.2 11) p0.toNatClampNeg x13) → (vp_in p1 4) ∧ ∀ x16 : Int32, x16 = ((u4.1 8) + (1 : Int32)) → w_X11_topNow (upd u4.1 8 x16) (u4.2.1) (va_up u4.2.2 11 (upd z15 p1.toNatClampNeg x10)) (fun (r18 : Int32) (u17 : MSt) => Q r18 u17)) ∧ ((u4.1 8) = (9999 : Int32) → Q (-104 : Int32) u4))) ∧ (p0 = p1 → Q (-101 : Int32) u4))))))))
abbrev rmX11_exchange : Room := { frames := 4, cells := 0, slots := 0, locals := 84 }
set_option maxHeartbeats 4000000 in
set_option maxRecDepth 100000 in
theorem t_X11_exchange (l : Launch) (dC : Nat → ClassId) (dI : Nat → Nat → Nat) (cI : ClassId) (h : Nat) (q : Nat → Nat) (sz : Nat) (f : Nat → Int32) (g : Int64) (a : Nat → Nat → Int32) (p0 : Int32) (p1 : Int32) (Q0 : Int32 → MSt → Prop) (hw : w_X11_exchange f g a p0 p1 Q0) : Met l yX11_exchange wsX11_exchange rmX11_exchange (g_pre g_T (dC, dI) vwCl [(cI, .int)] (MW cI h q f g a) sz [.ref h, .int p0, .int p1]) (g_qi (dC, dI) vwCl [(cI, .int)] (MWu cI h q) Q0 (va_A (MW cI h q f g a) sz)) 0 0 (va_A (MW cI h q f g a) sz) := by
  refine g_starti (by decide) rfl (Nat.le_of_ble_eq_true rfl) ?_
  intro p e s m args below meth c A Q ls hx hb hml hown hts hin hK hP hD hA hS hZ hret hl
  obtain ⟨H, eH⟩ : ∃ H : Heap, H = s.heap := ⟨_, rfl⟩
  obtain ⟨locs, eL⟩ : ∃ L : List Loc, L = [] := ⟨_, rfl⟩
  have hS : va_S A s.heap H locs := by rw [eH, eL]; exact hS
  rw [← eH] at hP
  suffices hg : W p l e rmX11_exchange s m args below meth c H locs 0 0 Q (F0 m 0 ls []) by rw [eH, eL] at hg; exact hg
  clear eH eL
  replace hl : lv_has ls 4 [(0, .ref h), (1, .int p0), (2, .int p1)] := hl
  have hf110 := hts (.fieldLink RX11 110 "NumberPileModel" "changes" "I") (by decide +kernel)
  have hiX11 : ∀ w ∈ u_ws RX11 TX11 29, w ∈ wsX11_exchange := fun w h => List.mem_cons_of_mem _ (List.mem_append_right _ h)
  have hf19 := hts (.fieldLink RX11 19 "NumberPileModel" "figures" "[I") (by decide +kernel)
  unfold w_X11_exchange at hw
  refine lv_aload_n hx hb dX11_exchange_0 rfl (lv_at hl 0 rfl) ?_
  refine lv_iload_n hx hb dX11_exchange_1 rfl (lv_at hl 1 rfl) ?_
  refine g_callVi (rest := []) (W2 := (MWu cI h q)) [.int p0] [0, 1, 2, 3, 4, 5, 6, 7, 8, 9, 10, 11, 12, 13] [] [0] [0, 1, 2, 3, 4, 5, 6, 7, 8, 9, 10, 11, 12, 13] g_Tb (fun _ _ _ _ => trivial) ⟨hx, hb, hml, hown, hts⟩ (t_X11_isFigure l dC dI cI h q H.size f g a p0 _ hw) (cwV 1 hts gX11_exchange_X11_isFigure rfl rfl rfl (by decide +kernel) ⟨Nat.le_of_ble_eq_true rfl, Nat.le_of_ble_eq_true rfl⟩) hK hP hD hS hA rfl (by decide) (wr := []) rfl (by decide) (by decide) rfl (fun _ => rfl) (by decide) (q0 := 0) rfl rfl rfl hl.1 (Nat.le_of_ble_eq_true rfl) dX11_exchange_2 ⟨Nat.le_of_ble_eq_true rfl, Nat.le_of_ble_eq_true rfl⟩ (fun r2 u1 H locs hw hP hD hS => ?_)
  refine lv_if_eq (tgt := 21) hx hb dX11_exchange_5 (by decide) (fun hc3 => ?_) (fun hc3 => ?_)
  · replace hw := hw.1 hc3
    refine lv_bipush (v := -101) hx hb dX11_exchange_21 (by decide) ?_
    exact hret dX11_exchange_23 hK hP hD hS hw
  · replace hw := hw.2 hc3
    refine lv_aload_n hx hb dX11_exchange_8 rfl (lv_at hl 0 rfl) ?_
    refine lv_iload_n hx hb dX11_exchange_9 rfl (lv_at hl 2 rfl) ?_
    refine g_callVi (rest := []) (W2 := (MWu cI h q)) [.int p1] [0, 1, 2, 3, 4, 5, 6, 7, 8, 9, 10, 11, 12, 13] [] [0] [0, 1, 2, 3, 4, 5, 6, 7, 8, 9, 10, 11, 12, 13] g_Tb (fun _ _ _ _ => trivial) ⟨hx, hb, hml, hown, hts⟩ (t_X11_isFigure l dC dI cI h q H.size u1.1 (u1.2.1) u1.2.2 p1 _ hw) (cwV 1 hts gX11_exchange_X11_isFigure rfl rfl rfl (by decide +kernel) ⟨Nat.le_of_ble_eq_true rfl, Nat.le_of_ble_eq_true rfl⟩) hK hP hD hS hA rfl (by decide) (wr := []) rfl (by decide) (by decide) rfl (fun _ => rfl) (by decide) (q0 := 0) rfl rfl rfl hl.1 (Nat.le_of_ble_eq_true rfl) dX11_exchange_10 ⟨Nat.le_of_ble_eq_true rfl, Nat.le_of_ble_eq_true rfl⟩ (fun r5 u4 H locs hw hP hD hS => ?_)
    refine lv_if_eq (tgt := 21) hx hb dX11_exchange_13 (by decide) (fun hc6 => ?_) (fun hc6 => ?_)
    · replace hw := hw.1 hc6
      refine lv_bipush (v := -101) hx hb dX11_exchange_21 (by decide) ?_
      exact hret dX11_exchange_23 hK hP hD hS hw
    · replace hw := hw.2 hc6
      refine lv_iload_n hx hb dX11_exchange_16 rfl (lv_at hl 1 rfl) ?_
      refine lv_iload_n hx hb dX11_exchange_17 rfl (lv_at hl 2 rfl) ?_
      refine lv_icmp_ne (tgt := 24) hx hb dX11_exchange_18 (by decide) (fun hc7 => ?_) (fun hc7 => ?_)
      · replace hw := hw.1 hc7
        refine lv_aload_n hx hb dX11_exchange_24 rfl (lv_at hl 0 rfl) ?_
        refine va_get (D := (dC, dI)) (ci := 13) (v := .int (u4.1 8)) (C := RX11) (T := TX11) (N := 29) hx hb hts hiX11 hown hK hP 0 rfl rfl 8 (by decide) hf110 (fun _ h9 => h9) rfl dX11_exchange_25 ?_
        refine lv_sipush (v := 9999) hx hb dX11_exchange_28 (by decide) ?_
        refine lv_icmp_ne (tgt := 37) hx hb dX11_exchange_31 (by decide) (fun hc8 => ?_) (fun hc8 => ?_)
        · replace hw := hw.1 hc8
          refine lv_aload_n hx hb dX11_exchange_37 rfl (lv_at hl 0 rfl) ?_
          refine va_get (D := (dC, dI)) (ci := 13) (v := .ref (q 11)) (C := RX11) (T := TX11) (N := 29) hx hb hts hiX11 hown hK hP 0 rfl rfl 11 (by decide) hf19 (fun _ h9 => h9) rfl dX11_exchange_38 ?_
          refine lv_iload_n hx hb dX11_exchange_41 rfl (lv_at hl 1 rfl) ?_
          obtain ⟨hb9, hw⟩ := hw
          refine va_iald hx hb hK hP 4 0 rfl rfl hb9 dX11_exchange_42 ?_
          refine lv_topi (fun x10 ex10 => ?_)
          replace hw := hw x10 ex10
          refine lv_istore_n (lv' := [(3, .int x10), (0, .ref h), (1, .int p0), (2, .int p1)]) hx hb dX11_exchange_43 rfl hl (by decide) rfl (fun ls hl => ?_)
          refine lv_aload_n hx hb dX11_exchange_44 rfl (lv_at hl 1 rfl) ?_
          refine va_get (D := (dC, dI)) (ci := 13) (v := .ref (q 11)) (C := RX11) (T := TX11) (N := 29) hx hb hts hiX11 hown hK hP 0 rfl rfl 11 (by decide) hf19 (fun _ h9 => h9) rfl dX11_exchange_45 ?_
          refine lv_iload_n hx hb dX11_exchange_48 rfl (lv_at hl 2 rfl) ?_
          refine lv_aload_n hx hb dX11_exchange_49 rfl (lv_at hl 1 rfl) ?_
          refine va_get (D := (dC, dI)) (ci := 13) (v := .ref (q 11)) (C := RX11) (T := TX11) (N := 29) hx hb hts hiX11 hown hK hP 0 rfl rfl 11 (by decide) hf19 (fun _ h9 => h9) rfl dX11_exchange_50 ?_
          refine lv_iload_n hx hb dX11_exchange_53 rfl (lv_at hl 3 rfl) ?_
          obtain ⟨hb11, hw⟩ := hw
          refine va_iald hx hb hK hP 4 0 rfl rfl hb11 dX11_exchange_54 ?_
          refine lv_topi (fun x13 ex13 => ?_)
          replace hw := hw x13 ex13
          obtain ⟨hb12, hw⟩ := hw
          refine va_iast hx hb hK hP hD hS 4 0 rfl rfl hb12 dX11_exchange_55 (fun H locs hP hD hS => ?_)
          replace hP : va_P (dC, dI) vwCl (MW cI h q u4.1 (u4.2.1) (va_up u4.2.2 11 (upd (u4.2.2 11) p0.toNatClampNeg x13))) H := hP
          replace hD : va_D A (MW cI h q u4.1 (u4.2.1) (va_up u4.2.2 11 (upd (u4.2.2 11) p0.toNatClampNeg x13))) := hD
          refine lv_aload_n hx hb dX11_exchange_56 rfl (lv_at hl 1 rfl) ?_
          refine va_get (D := (dC, dI)) (ci := 13) (v := .ref (q 11)) (C := RX11) (T := TX11) (N := 29) hx hb hts hiX11 hown hK hP 0 rfl rfl 11 (by decide) hf19 (fun _ h9 => h9) rfl dX11_exchange_57 ?_
          refine lv_iload_n hx hb dX11_exchange_60 rfl (lv_at hl 3 rfl) ?_
          refine lv_iload_n hx hb dX11_exchange_61 rfl (lv_at hl 0 rfl) ?_
          obtain ⟨z15, ez15⟩ : ∃ y : Nat → Int32, y = (upd (u4.2.2 11) p0.toNatClampNeg x13) := ⟨_, rfl⟩
          replace hw := hw z15 ez15
          rw [← ez15] at hP hD
          obtain ⟨hb14, hw⟩ := hw
          refine va_iast hx hb hK hP hD hS 4 0 rfl rfl hb14 dX11_exchange_62 (fun H locs hP hD hS => ?_)
          replace hP : va_P (dC, dI) vwCl (MW cI h q u4.1 (u4.2.1) (va_up u4.2.2 11 (upd z15 p1.toNatClampNeg x10))) H := hP
          replace hD : va_D A (MW cI h q u4.1 (u4.2.1) (va_up u4.2.2 11 (upd z15 p1.toNatClampNeg x10))) := hD
          refine lv_aload_n hx hb dX11_exchange_63 rfl (lv_at hl 1 rfl) ?_
          refine lv_dup hx hb dX11_exchange_64 rfl ?_
          refine va_get (D := (dC, dI)) (ci := 13) (v := .int (u4.1 8)) (C := RX11) (T := TX11) (N := 29) hx hb hts hiX11 hown hK hP 0 rfl rfl 8 (by decide) hf110 (fun _ h9 => h9) rfl dX11_exchange_65 ?_
          refine lv_iconst (v := 1) hx hb dX11_exchange_68 (by decide) ?_
          refine lv_iadd hx hb dX11_exchange_69 ?_
          refine lv_topi (fun x16 ex16 => ?_)
          replace hw := hw x16 ex16
          refine va_put (D := (dC, dI)) (ci := 13) (v := .int x16) (ty := (.int)) (C := RX11) (T := TX11) (N := 29) hx hb hts hiX11 tyX11 tyX11_ok nmX11 hown hK hP hD hS 0 rfl rfl 8 (by decide) hf110 (fun _ h9 => h9) rfl (by decide +kernel) rfl rfl (Nat.le_of_ble_eq_true rfl) dX11_exchange_70 (fun H locs hP hD hS => ?_)
          replace hP : va_P (dC, dI) vwCl (MW cI h q (upd u4.1 8 x16) (u4.2.1) (va_up u4.2.2 11 (upd z15 p1.toNatClampNeg x10))) H := hP
          replace hD : va_D A (MW cI h q (upd u4.1 8 x16) (u4.2.1) (va_up u4.2.2 11 (upd z15 p1.toNatClampNeg x10))) := hD
          refine lv_aload_n hx hb dX11_exchange_73 rfl (lv_at hl 1 rfl) ?_
          refine g_callVi (rest := []) (W2 := (MWu cI h q)) [] [0, 1, 2, 3, 4, 5, 6, 7, 8, 9, 10, 11, 12, 13] [] [0] [0, 1, 2, 3, 4, 5, 6, 7, 8, 9, 10, 11, 12, 13] g_Tb (fun _ _ _ _ => trivial) ⟨hx, hb, hml, hown, hts⟩ (t_X11_topNow l dC dI cI h q H.size (upd u4.1 8 x16) (u4.2.1) (va_up u4.2.2 11 (upd z15 p1.toNatClampNeg x10)) _ hw) (cwV 0 hts gX11_exchange_X11_topNow rfl rfl rfl (by decide +kernel) ⟨Nat.le_of_ble_eq_true rfl, Nat.le_of_ble_eq_true rfl⟩) hK hP hD hS hA rfl (by decide) (wr := []) rfl (by decide) (by decide) rfl (fun _ => rfl) (by decide) (q0 := 0) rfl rfl rfl hl.1 (Nat.le_of_ble_eq_true rfl) dX11_exchange_74 ⟨Nat.le_of_ble_eq_true rfl, Nat.le_of_ble_eq_true rfl⟩ (fun r18 u17 H locs hw hP hD hS => ?_)
          exact hret dX11_exchange_77 hK hP hD hS hw
        · replace hw := hw.2 hc8
          refine lv_bipush (v := -104) hx hb dX11_exchange_34 (by decide) ?_
          exact hret dX11_exchange_36 hK hP hD hS hw
      · replace hw := hw.2 hc7
        refine lv_bipush (v := -101) hx hb dX11_exchange_21 (by decide) ?_
        exact hret dX11_exchange_23 hK hP hD hS hw

def w_X11_change (f : Nat → Int32) (g : Int64) (a : Nat → Nat → Int32) (p0 : Int32) (p1 : Int32) (Q : Int32 → MSt → Prop) : Prop := w_X11_isUpper f g a p0 (fun (r2 : Int32) (u1 : MSt) => (((¬ r2 = 0) → w_X11_in (p1.toInt64) (0 : Int64) (4 : Int64) (fun (r4 : Int32) => (((¬ r4 = 0) → (vp_in p0 10) ∧ ∀ x7 : Int32, x7 = ((u1.2.2 10) p0.toNatClampNeg) → (vp_in p0 10) ∧ Q x7 (u1.1, u1.2.1, (va_up u1.2.2 10 (upd (u1.2.2 10) p0.toNatClampNeg p1)))) ∧ (r4 = 0 → Q (-102 : Int32) u1)))) ∧ (r2 = 0 → Q (-101 : Int32) u1)))
abbrev rmX11_change : Room := { frames := 2, cells := 0, slots := 0, locals := 46 }
set_option maxHeartbeats 4000000 in
set_option maxRecDepth 100000 in
theorem t_X11_change (l : Launch) (dC : Nat → ClassId) (dI : Nat → Nat → Nat) (cI : ClassId) (h : Nat) (q : Nat → Nat) (sz : Nat) (f : Nat → Int32) (g : Int64) (a : Nat → Nat → Int32) (p0 : Int32) (p1 : Int32) (Q0 : Int32 → MSt → Prop) (hw : w_X11_change f g a p0 p1 Q0) : Met l yX11_change wsX11_change rmX11_change (g_pre g_T (dC, dI) vwCl [(cI, .int)] (MW cI h q f g a) sz [.ref h, .int p0, .int p1]) (g_qi (dC, dI) vwCl [(cI, .int)] (MWu cI h q) Q0 (va_A (MW cI h q f g a) sz)) 0 0 (va_A (MW cI h q f g a) sz) := by
  refine g_starti (by decide) rfl (Nat.le_of_ble_eq_true rfl) ?_
  intro p e s m args below meth c A Q ls hx hb hml hown hts hin hK hP hD hA hS hZ hret hl
  obtain ⟨H, eH⟩ : ∃ H : Heap, H = s.heap := ⟨_, rfl⟩
  obtain ⟨locs, eL⟩ : ∃ L : List Loc, L = [] := ⟨_, rfl⟩
  have hS : va_S A s.heap H locs := by rw [eH, eL]; exact hS
  rw [← eH] at hP
  suffices hg : W p l e rmX11_change s m args below meth c H locs 0 0 Q (F0 m 0 ls []) by rw [eH, eL] at hg; exact hg
  clear eH eL
  replace hl : lv_has ls 4 [(0, .ref h), (1, .int p0), (2, .int p1)] := hl
  have kc145 := hts (.constantLong RX11 145 (4)) (by decide +kernel)
  have hf16 := hts (.fieldLink RX11 16 "NumberPileModel" "kinds" "[I") (by decide +kernel)
  have hiX11 : ∀ w ∈ u_ws RX11 TX11 29, w ∈ wsX11_change := fun w h => List.mem_cons_of_mem _ (List.mem_append_right _ h)
  unfold w_X11_change at hw
  refine lv_aload_n hx hb dX11_change_0 rfl (lv_at hl 0 rfl) ?_
  refine lv_iload_n hx hb dX11_change_1 rfl (lv_at hl 1 rfl) ?_
  refine g_callVi (rest := []) (W2 := (MWu cI h q)) [.int p0] [0, 1, 2, 3, 4, 5, 6, 7, 8, 9, 10, 11, 12, 13] [] [0] [0, 1, 2, 3, 4, 5, 6, 7, 8, 9, 10, 11, 12, 13] g_Tb (fun _ _ _ _ => trivial) ⟨hx, hb, hml, hown, hts⟩ (t_X11_isUpper l dC dI cI h q H.size f g a p0 _ hw) (cwV 1 hts gX11_change_X11_isUpper rfl rfl rfl (by decide +kernel) ⟨Nat.le_of_ble_eq_true rfl, Nat.le_of_ble_eq_true rfl⟩) hK hP hD hS hA rfl (by decide) (wr := []) rfl (by decide) (by decide) rfl (fun _ => rfl) (by decide) (q0 := 0) rfl rfl rfl hl.1 (Nat.le_of_ble_eq_true rfl) dX11_change_2 ⟨Nat.le_of_ble_eq_true rfl, Nat.le_of_ble_eq_true rfl⟩ (fun r2 u1 H locs hw hP hD hS => ?_)
  refine lv_if_ne (tgt := 11) hx hb dX11_change_5 (by decide) (fun hc3 => ?_) (fun hc3 => ?_)
  · replace hw := hw.1 hc3
    refine lv_iload_n hx hb dX11_change_11 rfl (lv_at hl 2 rfl) ?_
    refine lv_i2l hx hb dX11_change_12 rfl ?_
    refine lv_lconst (v := 0) hx hb dX11_change_13 (by decide) ?_
    refine lv_ldc2 hx hb hown kc145 dX11_change_14 ?_
    refine g_callP (rest := []) [.long (p1.toInt64), .long (0 : Int64), .long (4 : Int64)] ⟨hx, hb, hml, hown, hts⟩ (t_X11_in l (p1.toInt64) (0 : Int64) (4 : Int64) _ hw) (va_cwS 3 hts gX11_change_X11_in rfl rfl rfl (by decide +kernel) ⟨Nat.le_of_ble_eq_true rfl, Nat.le_of_ble_eq_true rfl⟩) rfl hl.1 (Nat.le_of_ble_eq_true rfl) dX11_change_17 ⟨Nat.le_of_ble_eq_true rfl, Nat.le_of_ble_eq_true rfl⟩ (fun r4 hw => ?_)
    refine lv_if_ne (tgt := 26) hx hb dX11_change_20 (by decide) (fun hc5 => ?_) (fun hc5 => ?_)
    · replace hw := hw.1 hc5
      refine lv_aload_n hx hb dX11_change_26 rfl (lv_at hl 0 rfl) ?_
      refine va_get (D := (dC, dI)) (ci := 13) (v := .ref (q 10)) (C := RX11) (T := TX11) (N := 29) hx hb hts hiX11 hown hK hP 0 rfl rfl 10 (by decide) hf16 (fun _ h9 => h9) rfl dX11_change_27 ?_
      refine lv_iload_n hx hb dX11_change_30 rfl (lv_at hl 1 rfl) ?_
      obtain ⟨hb6, hw⟩ := hw
      refine va_iald hx hb hK hP 3 0 rfl rfl hb6 dX11_change_31 ?_
      refine lv_topi (fun x7 ex7 => ?_)
      replace hw := hw x7 ex7
      refine lv_istore_n (lv' := [(3, .int x7), (0, .ref h), (1, .int p0), (2, .int p1)]) hx hb dX11_change_32 rfl hl (by decide) rfl (fun ls hl => ?_)
      refine lv_aload_n hx hb dX11_change_33 rfl (lv_at hl 1 rfl) ?_
      refine va_get (D := (dC, dI)) (ci := 13) (v := .ref (q 10)) (C := RX11) (T := TX11) (N := 29) hx hb hts hiX11 hown hK hP 0 rfl rfl 10 (by decide) hf16 (fun _ h9 => h9) rfl dX11_change_34 ?_
      refine lv_iload_n hx hb dX11_change_37 rfl (lv_at hl 2 rfl) ?_
      refine lv_iload_n hx hb dX11_change_38 rfl (lv_at hl 3 rfl) ?_
      obtain ⟨hb8, hw⟩ := hw
      refine va_iast hx hb hK hP hD hS 3 0 rfl rfl hb8 dX11_change_39 (fun H locs hP hD hS => ?_)
      replace hP : va_P (dC, dI) vwCl (MW cI h q u1.1 (u1.2.1) (va_up u1.2.2 10 (upd (u1.2.2 10) p0.toNatClampNeg p1))) H := hP
      replace hD : va_D A (MW cI h q u1.1 (u1.2.1) (va_up u1.2.2 10 (upd (u1.2.2 10) p0.toNatClampNeg p1))) := hD
      refine lv_iload_n hx hb dX11_change_40 rfl (lv_at hl 0 rfl) ?_
      exact hret dX11_change_41 hK hP hD hS hw
    · replace hw := hw.2 hc5
      refine lv_bipush (v := -102) hx hb dX11_change_23 (by decide) ?_
      exact hret dX11_change_25 hK hP hD hS hw
  · replace hw := hw.2 hc3
    refine lv_bipush (v := -101) hx hb dX11_change_8 (by decide) ?_
    exact hret dX11_change_10 hK hP hD hS hw

def w_X11_isFit (f : Nat → Int32) (g : Int64) (a : Nat → Nat → Int32) (p0 : Int32) (Q : Int32 → MSt → Prop) : Prop := w_X11_layNumber f g a p0 (fun (u1 : MSt) => (∀ X3 : Int32 → Prop, (∀ (x2 : Int32), (((((u1.1 7) ≤ x2) → Q (1 : Int32) u1) ∧ (¬ ((u1.1 7) ≤ x2) → (vp_in x2 10) ∧ ∀ J6 : Prop, ((∀ x7 : Int32, x7 = x2 + (1 : Int32) → X3 x7) → J6) → (((((u1.2.2 12) x2.toNatClampNeg) = (-1 : Int32)) → J6) ∧ (¬ (((u1.2.2 12) x2.toNatClampNeg) = (-1 : Int32)) → (vp_in x2 10) ∧ (vp_in x2 10) ∧ (((((u1.2.2 12) x2.toNatClampNeg) = ((u1.2.2 13) x2.toNatClampNeg)) → J6) ∧ (¬ (((u1.2.2 12) x2.toNatClampNeg) = ((u1.2.2 13) x2.toNatClampNeg)) → Q (0 : Int32) u1))))))) → X3 x2) → X3 (0 : Int32)))
abbrev rmX11_isFit : Room := { frames := 3, cells := 0, slots := 0, locals := 67 }
set_option maxHeartbeats 4000000 in
set_option maxRecDepth 100000 in
theorem t_X11_isFit (l : Launch) (dC : Nat → ClassId) (dI : Nat → Nat → Nat) (cI : ClassId) (h : Nat) (q : Nat → Nat) (sz : Nat) (f : Nat → Int32) (g : Int64) (a : Nat → Nat → Int32) (p0 : Int32) (Q0 : Int32 → MSt → Prop) (hw : w_X11_isFit f g a p0 Q0) : Met l yX11_isFit wsX11_isFit rmX11_isFit (g_pre g_T (dC, dI) vwCl [(cI, .int)] (MW cI h q f g a) sz [.ref h, .int p0]) (g_qi (dC, dI) vwCl [(cI, .int)] (MWu cI h q) Q0 (va_A (MW cI h q f g a) sz)) 0 0 (va_A (MW cI h q f g a) sz) := by
  refine g_startz (by decide) rfl (Nat.le_of_ble_eq_true rfl) ?_
  intro p e s m args below meth c A Q ls hx hb hml hown hts hin hK hP hD hA hS hZ hret hl
  obtain ⟨H, eH⟩ : ∃ H : Heap, H = s.heap := ⟨_, rfl⟩
  obtain ⟨locs, eL⟩ : ∃ L : List Loc, L = [] := ⟨_, rfl⟩
  have hS : va_S A s.heap H locs := by rw [eH, eL]; exact hS
  rw [← eH] at hP
  suffices hg : W p l e rmX11_isFit s m args below meth c H locs 0 0 Q (F0 m 0 ls []) by rw [eH, eL] at hg; exact hg
  clear eH eL
  replace hl : lv_has ls 3 [(0, .ref h), (1, .int p0)] := hl
  have hf103 := hts (.fieldLink RX11 103 "NumberPileModel" "bricks" "I") (by decide +kernel)
  have hiX11 : ∀ w ∈ u_ws RX11 TX11 29, w ∈ wsX11_isFit := fun w h => List.mem_cons_of_mem _ (List.mem_append_right _ h)
  have hf22 := hts (.fieldLink RX11 22 "NumberPileModel" "told" "[I") (by decide +kernel)
  have hf25 := hts (.fieldLink RX11 25 "NumberPileModel" "values" "[I") (by decide +kernel)
  unfold w_X11_isFit at hw
  refine lv_aload_n hx hb dX11_isFit_0 rfl (lv_at hl 0 rfl) ?_
  refine lv_iload_n hx hb dX11_isFit_1 rfl (lv_at hl 1 rfl) ?_
  refine g_callVv (rest := []) (W2 := (MWu cI h q)) [.int p0] [0, 1, 2, 3, 4, 5, 6, 7, 8, 9, 10, 11, 12, 13] [] [0] [0, 1, 2, 3, 4, 5, 6, 7, 8, 9, 10, 11, 12, 13] g_Tb (fun _ _ _ _ => trivial) ⟨hx, hb, hml, hown, hts⟩ (t_X11_layNumber l dC dI cI h q H.size f g a p0 _ hw) (cwV 1 hts gX11_isFit_X11_layNumber rfl rfl rfl (by decide +kernel) ⟨Nat.le_of_ble_eq_true rfl, Nat.le_of_ble_eq_true rfl⟩) hK hP hD hS hA rfl (by decide) (wr := []) rfl (by decide) (by decide) rfl (fun _ => rfl) (by decide) (q0 := 0) rfl rfl rfl hl.1 (Nat.le_of_ble_eq_true rfl) dX11_isFit_2 ⟨Nat.le_of_ble_eq_true rfl, Nat.le_of_ble_eq_true rfl⟩ (fun u1 H locs hw hP hD hS => ?_)
  refine lv_iconst (v := 0) hx hb dX11_isFit_5 (by decide) ?_
  refine lv_istore_n (lv' := [(2, .int (0 : Int32)), (0, .ref h), (1, .int p0)]) hx hb dX11_isFit_6 rfl hl (by decide) rfl (fun ls hl => ?_)
  refine hw (fun (x2 : Int32) => ∀ (H : Heap) (locs : List Loc) (ls : Array Slot), va_P (dC, dI) vwCl (MW cI h q u1.1 (u1.2.1) u1.2.2) H → va_D A (MW cI h q u1.1 (u1.2.1) u1.2.2) → va_S A s.heap H locs → lv_has ls 3 [(0, .ref h), (2, .int x2)] → W p l e rmX11_isFit s m args below meth c H locs 0 0 Q (F0 m 7 ls [])) ?_ H locs ls hP hD hS (lv_sub hl [1, 0] rfl)
  · intro x2 hw H locs ls hP hD hS hl
    refine lv_iload_n hx hb dX11_isFit_7 rfl (lv_at hl 1 rfl) ?_
    refine lv_aload_n hx hb dX11_isFit_8 rfl (lv_at hl 0 rfl) ?_
    refine va_get (D := (dC, dI)) (ci := 13) (v := .int (u1.1 7)) (C := RX11) (T := TX11) (N := 29) hx hb hts hiX11 hown hK hP 0 rfl rfl 7 (by decide) hf103 (fun _ h9 => h9) rfl dX11_isFit_9 ?_
    refine lv_icmp_ge (tgt := 48) hx hb dX11_isFit_12 (by decide) (fun hc4 => ?_) (fun hc4 => ?_)
    · replace hw := hw.1 hc4
      refine lv_iconst (v := 1) hx hb dX11_isFit_48 (by decide) ?_
      exact hret dX11_isFit_49 hK hP hD hS isB_1 hw
    · replace hw := hw.2 hc4
      refine lv_aload_n hx hb dX11_isFit_15 rfl (lv_at hl 0 rfl) ?_
      refine va_get (D := (dC, dI)) (ci := 13) (v := .ref (q 12)) (C := RX11) (T := TX11) (N := 29) hx hb hts hiX11 hown hK hP 0 rfl rfl 12 (by decide) hf22 (fun _ h9 => h9) rfl dX11_isFit_16 ?_
      refine lv_iload_n hx hb dX11_isFit_19 rfl (lv_at hl 1 rfl) ?_
      obtain ⟨hb5, hw⟩ := hw
      refine va_iald hx hb hK hP 5 0 rfl rfl hb5 dX11_isFit_20 ?_
      refine lv_iconst (v := -1) hx hb dX11_isFit_21 (by decide) ?_
      replace hw := hw (∀ (H : Heap) (locs : List Loc) (ls : Array Slot), va_P (dC, dI) vwCl (MW cI h q u1.1 (u1.2.1) u1.2.2) H → va_D A (MW cI h q u1.1 (u1.2.1) u1.2.2) → va_S A s.heap H locs → lv_has ls 3 [(0, .ref h), (2, .int x2)] → W p l e rmX11_isFit s m args below meth c H locs 0 0 Q (F0 m 42 ls [])) (by
        intro hw H locs ls hP hD hS hl
        obtain ⟨x7, ex7⟩ : ∃ y : Int32, y = x2 + (1 : Int32) := ⟨_, rfl⟩
        replace hw := hw x7 ex7
        refine lv_iinc (v := x7) (lv' := [(2, .int x7), (0, .ref h)]) hx hb dX11_isFit_42 hl (k := 1) rfl (by rw [ex7]; rfl) (by decide) rfl (fun ls hl => ?_)
        refine lv_goto (tgt := 7) hx hb dX11_isFit_45 (by decide) ?_
        exact hw H locs ls hP hD hS (lv_sub hl [1, 0] rfl))
      refine lv_icmp_eq (tgt := 42) hx hb dX11_isFit_22 (by decide) (fun hc8 => ?_) (fun hc8 => ?_)
      · replace hw := hw.1 hc8
        exact hw H locs ls hP hD hS (lv_sub hl [0, 1] rfl)
      · replace hw := hw.2 hc8
        refine lv_aload_n hx hb dX11_isFit_25 rfl (lv_at hl 0 rfl) ?_
        refine va_get (D := (dC, dI)) (ci := 13) (v := .ref (q 12)) (C := RX11) (T := TX11) (N := 29) hx hb hts hiX11 hown hK hP 0 rfl rfl 12 (by decide) hf22 (fun _ h9 => h9) rfl dX11_isFit_26 ?_
        refine lv_iload_n hx hb dX11_isFit_29 rfl (lv_at hl 1 rfl) ?_
        obtain ⟨hb9, hw⟩ := hw
        refine va_iald hx hb hK hP 5 0 rfl rfl hb9 dX11_isFit_30 ?_
        refine lv_aload_n hx hb dX11_isFit_31 rfl (lv_at hl 0 rfl) ?_
        refine va_get (D := (dC, dI)) (ci := 13) (v := .ref (q 13)) (C := RX11) (T := TX11) (N := 29) hx hb hts hiX11 hown hK hP 0 rfl rfl 13 (by decide) hf25 (fun _ h9 => h9) rfl dX11_isFit_32 ?_
        refine lv_iload_n hx hb dX11_isFit_35 rfl (lv_at hl 1 rfl) ?_
        obtain ⟨hb10, hw⟩ := hw
        refine va_iald hx hb hK hP 6 0 rfl rfl hb10 dX11_isFit_36 ?_
        refine lv_icmp_eq (tgt := 42) hx hb dX11_isFit_37 (by decide) (fun hc11 => ?_) (fun hc11 => ?_)
        · replace hw := hw.1 hc11
          exact hw H locs ls hP hD hS (lv_sub hl [0, 1] rfl)
        · replace hw := hw.2 hc11
          refine lv_iconst (v := 0) hx hb dX11_isFit_40 (by decide) ?_
          exact hret dX11_isFit_41 hK hP hD hS isB_0 hw

def w_X11_leftMany (f : Nat → Int32) (g : Int64) (a : Nat → Nat → Int32)  (Q : Int32 → MSt → Prop) : Prop := (∀ X4 : Int32 → Int32 → MSt → Prop, (∀ (x1 : Int32) (x2 : Int32) (u3 : MSt), (w_X11_power (10 : Int32) (u3.1 6) (fun (r5 : Int32) => (((r5 ≤ x2) → Q x1 u3) ∧ (¬ (r5 ≤ x2) → w_X11_isFit u3.1 (u3.2.1) u3.2.2 x2 (fun (r8 : Int32) (u7 : MSt) => ∀ J10 : Int32 → Prop, (∀ (x9 : Int32), (∀ x11 : Int32, x11 = (x1 + x9) → ∀ x12 : Int32, x12 = x2 + (1 : Int32) → X4 x11 x12 u7) → J10 x9) → (((r8 = 0) → J10 (0 : Int32)) ∧ (¬ (r8 = 0) → J10 (1 : Int32)))))))) → X4 x1 x2 u3) → X4 (0 : Int32) (0 : Int32) (f, g, a))
abbrev rmX11_leftMany : Room := { frames := 4, cells := 0, slots := 0, locals := 89 }
set_option maxHeartbeats 4000000 in
set_option maxRecDepth 100000 in
theorem t_X11_leftMany (l : Launch) (dC : Nat → ClassId) (dI : Nat → Nat → Nat) (cI : ClassId) (h : Nat) (q : Nat → Nat) (sz : Nat) (f : Nat → Int32) (g : Int64) (a : Nat → Nat → Int32)  (Q0 : Int32 → MSt → Prop) (hw : w_X11_leftMany f g a  Q0) : Met l yX11_leftMany wsX11_leftMany rmX11_leftMany (g_pre g_T (dC, dI) vwCl [(cI, .int)] (MW cI h q f g a) sz [.ref h]) (g_qi (dC, dI) vwCl [(cI, .int)] (MWu cI h q) Q0 (va_A (MW cI h q f g a) sz)) 0 0 (va_A (MW cI h q f g a) sz) := by
  refine g_starti (by decide) rfl (Nat.le_of_ble_eq_true rfl) ?_
  intro p e s m args below meth c A Q ls hx hb hml hown hts hin hK hP hD hA hS hZ hret hl
  obtain ⟨H, eH⟩ : ∃ H : Heap, H = s.heap := ⟨_, rfl⟩
  obtain ⟨locs, eL⟩ : ∃ L : List Loc, L = [] := ⟨_, rfl⟩
  have hS : va_S A s.heap H locs := by rw [eH, eL]; exact hS
  rw [← eH] at hP
  suffices hg : W p l e rmX11_leftMany s m args below meth c H locs 0 0 Q (F0 m 0 ls []) by rw [eH, eL] at hg; exact hg
  clear eH eL
  replace hl : lv_has ls 3 [(0, .ref h)] := hl
  have hf97 := hts (.fieldLink RX11 97 "NumberPileModel" "wide" "I") (by decide +kernel)
  have hiX11 : ∀ w ∈ u_ws RX11 TX11 29, w ∈ wsX11_leftMany := fun w h => List.mem_cons_of_mem _ (List.mem_append_right _ h)
  unfold w_X11_leftMany at hw
  refine lv_iconst (v := 0) hx hb dX11_leftMany_0 (by decide) ?_
  refine lv_istore_n (lv' := [(1, .int (0 : Int32)), (0, .ref h)]) hx hb dX11_leftMany_1 rfl hl (by decide) rfl (fun ls hl => ?_)
  refine lv_iconst (v := 0) hx hb dX11_leftMany_2 (by decide) ?_
  refine lv_istore_n (lv' := [(2, .int (0 : Int32)), (1, .int (0 : Int32)), (0, .ref h)]) hx hb dX11_leftMany_3 rfl hl (by decide) rfl (fun ls hl => ?_)
  refine hw (fun (x1 : Int32) (x2 : Int32) (u3 : MSt) => ∀ (H : Heap) (locs : List Loc) (ls : Array Slot), va_P (dC, dI) vwCl (MW cI h q u3.1 (u3.2.1) u3.2.2) H → va_D A (MW cI h q u3.1 (u3.2.1) u3.2.2) → va_S A s.heap H locs → lv_has ls 3 [(0, .ref h), (1, .int x1), (2, .int x2)] → W p l e rmX11_leftMany s m args below meth c H locs 0 0 Q (F0 m 4 ls [])) ?_ H locs ls hP hD hS (lv_sub hl [2, 1, 0] rfl)
  · intro x1 x2 u3 hw H locs ls hP hD hS hl
    refine lv_iload_n hx hb dX11_leftMany_4 rfl (lv_at hl 2 rfl) ?_
    refine lv_bipush (v := 10) hx hb dX11_leftMany_5 (by decide) ?_
    refine lv_aload_n hx hb dX11_leftMany_7 rfl (lv_at hl 0 rfl) ?_
    refine va_get (D := (dC, dI)) (ci := 13) (v := .int (u3.1 6)) (C := RX11) (T := TX11) (N := 29) hx hb hts hiX11 hown hK hP 0 rfl rfl 6 (by decide) hf97 (fun _ h9 => h9) rfl dX11_leftMany_8 ?_
    refine g_callP (rest := [.int x2]) [.int (10 : Int32), .int (u3.1 6)] ⟨hx, hb, hml, hown, hts⟩ (t_X11_power l (10 : Int32) (u3.1 6) _ hw) (va_cwS 2 hts gX11_leftMany_X11_power rfl rfl rfl (by decide +kernel) ⟨Nat.le_of_ble_eq_true rfl, Nat.le_of_ble_eq_true rfl⟩) rfl hl.1 (Nat.le_of_ble_eq_true rfl) dX11_leftMany_11 ⟨Nat.le_of_ble_eq_true rfl, Nat.le_of_ble_eq_true rfl⟩ (fun r5 hw => ?_)
    refine lv_icmp_ge (tgt := 39) hx hb dX11_leftMany_14 (by decide) (fun hc6 => ?_) (fun hc6 => ?_)
    · replace hw := hw.1 hc6
      refine lv_iload_n hx hb dX11_leftMany_39 rfl (lv_at hl 1 rfl) ?_
      exact hret dX11_leftMany_40 hK hP hD hS hw
    · replace hw := hw.2 hc6
      refine lv_iload_n hx hb dX11_leftMany_17 rfl (lv_at hl 1 rfl) ?_
      refine lv_aload_n hx hb dX11_leftMany_18 rfl (lv_at hl 0 rfl) ?_
      refine lv_iload_n hx hb dX11_leftMany_19 rfl (lv_at hl 2 rfl) ?_
      refine g_callVi (rest := [.int x1]) (W2 := (MWu cI h q)) [.int x2] [0, 1, 2, 3, 4, 5, 6, 7, 8, 9, 10, 11, 12, 13] [] [0] [0, 1, 2, 3, 4, 5, 6, 7, 8, 9, 10, 11, 12, 13] g_Tb (fun _ _ _ _ => trivial) ⟨hx, hb, hml, hown, hts⟩ (t_X11_isFit l dC dI cI h q H.size u3.1 (u3.2.1) u3.2.2 x2 _ hw) (cwV 1 hts gX11_leftMany_X11_isFit rfl rfl rfl (by decide +kernel) ⟨Nat.le_of_ble_eq_true rfl, Nat.le_of_ble_eq_true rfl⟩) hK hP hD hS hA rfl (by decide) (wr := []) rfl (by decide) (by decide) rfl (fun _ => rfl) (by decide) (q0 := 0) rfl rfl rfl hl.1 (Nat.le_of_ble_eq_true rfl) dX11_leftMany_20 ⟨Nat.le_of_ble_eq_true rfl, Nat.le_of_ble_eq_true rfl⟩ (fun r8 u7 H locs hw hP hD hS => ?_)
      replace hw := hw (fun (x9 : Int32) => ∀ (H : Heap) (locs : List Loc) (ls : Array Slot), va_P (dC, dI) vwCl (MW cI h q u7.1 (u7.2.1) u7.2.2) H → va_D A (MW cI h q u7.1 (u7.2.1) u7.2.2) → va_S A s.heap H locs → lv_has ls 3 [(0, .ref h), (2, .int x2)] → W p l e rmX11_leftMany s m args below meth c H locs 0 0 Q (F0 m 31 ls [.int x9, .int x1])) (by
        intro x9 hw H locs ls hP hD hS hl
        refine lv_iadd hx hb dX11_leftMany_31 ?_
        refine lv_topi (fun x11 ex11 => ?_)
        replace hw := hw x11 ex11
        refine lv_istore_n (lv' := [(1, .int x11), (0, .ref h), (2, .int x2)]) hx hb dX11_leftMany_32 rfl hl (by decide) rfl (fun ls hl => ?_)
        obtain ⟨x12, ex12⟩ : ∃ y : Int32, y = x2 + (1 : Int32) := ⟨_, rfl⟩
        replace hw := hw x12 ex12
        refine lv_iinc (v := x12) (lv' := [(2, .int x12), (1, .int x11), (0, .ref h)]) hx hb dX11_leftMany_33 hl (k := 2) rfl (by rw [ex12]; rfl) (by decide) rfl (fun ls hl => ?_)
        refine lv_goto (tgt := 4) hx hb dX11_leftMany_36 (by decide) ?_
        exact hw H locs ls hP hD hS (lv_sub hl [2, 1, 0] rfl))
      refine lv_if_eq (tgt := 30) hx hb dX11_leftMany_23 (by decide) (fun hc13 => ?_) (fun hc13 => ?_)
      · replace hw := hw.1 hc13
        refine lv_iconst (v := 0) hx hb dX11_leftMany_30 (by decide) ?_
        exact hw H locs ls hP hD hS (lv_sub hl [0, 2] rfl)
      · replace hw := hw.2 hc13
        refine lv_iconst (v := 1) hx hb dX11_leftMany_26 (by decide) ?_
        refine lv_goto (tgt := 31) hx hb dX11_leftMany_27 (by decide) ?_
        exact hw H locs ls hP hD hS (lv_sub hl [0, 2] rfl)

def w_X11_tell (f : Nat → Int32) (g : Int64) (a : Nat → Nat → Int32) (p0 : Int32) (p1 : Int32) (Q : Int32 → MSt → Prop) : Prop := w_X11_isBrick f g a p0 (fun (r2 : Int32) (u1 : MSt) => (((¬ r2 = 0) → w_X11_in (p1.toInt64) (0 : Int64) (999 : Int64) (fun (r4 : Int32) => (((¬ r4 = 0) → (vp_in p0 10) ∧ w_X11_leftMany u1.1 (u1.2.1) (va_up u1.2.2 12 (upd (u1.2.2 12) p0.toNatClampNeg p1)) (fun (r8 : Int32) (u7 : MSt) => Q r8 u7)) ∧ (r4 = 0 → Q (-102 : Int32) u1)))) ∧ (r2 = 0 → Q (-101 : Int32) u1)))
abbrev rmX11_tell : Room := { frames := 5, cells := 0, slots := 0, locals := 111 }
set_option maxHeartbeats 4000000 in
set_option maxRecDepth 100000 in
theorem t_X11_tell (l : Launch) (dC : Nat → ClassId) (dI : Nat → Nat → Nat) (cI : ClassId) (h : Nat) (q : Nat → Nat) (sz : Nat) (f : Nat → Int32) (g : Int64) (a : Nat → Nat → Int32) (p0 : Int32) (p1 : Int32) (Q0 : Int32 → MSt → Prop) (hw : w_X11_tell f g a p0 p1 Q0) : Met l yX11_tell wsX11_tell rmX11_tell (g_pre g_T (dC, dI) vwCl [(cI, .int)] (MW cI h q f g a) sz [.ref h, .int p0, .int p1]) (g_qi (dC, dI) vwCl [(cI, .int)] (MWu cI h q) Q0 (va_A (MW cI h q f g a) sz)) 0 0 (va_A (MW cI h q f g a) sz) := by
  refine g_starti (by decide) rfl (Nat.le_of_ble_eq_true rfl) ?_
  intro p e s m args below meth c A Q ls hx hb hml hown hts hin hK hP hD hA hS hZ hret hl
  obtain ⟨H, eH⟩ : ∃ H : Heap, H = s.heap := ⟨_, rfl⟩
  obtain ⟨locs, eL⟩ : ∃ L : List Loc, L = [] := ⟨_, rfl⟩
  have hS : va_S A s.heap H locs := by rw [eH, eL]; exact hS
  rw [← eH] at hP
  suffices hg : W p l e rmX11_tell s m args below meth c H locs 0 0 Q (F0 m 0 ls []) by rw [eH, eL] at hg; exact hg
  clear eH eL
  replace hl : lv_has ls 3 [(0, .ref h), (1, .int p0), (2, .int p1)] := hl
  have kc158 := hts (.constantLong RX11 158 (999)) (by decide +kernel)
  have hf22 := hts (.fieldLink RX11 22 "NumberPileModel" "told" "[I") (by decide +kernel)
  have hiX11 : ∀ w ∈ u_ws RX11 TX11 29, w ∈ wsX11_tell := fun w h => List.mem_cons_of_mem _ (List.mem_append_right _ h)
  unfold w_X11_tell at hw
  refine lv_aload_n hx hb dX11_tell_0 rfl (lv_at hl 0 rfl) ?_
  refine lv_iload_n hx hb dX11_tell_1 rfl (lv_at hl 1 rfl) ?_
  refine g_callVi (rest := []) (W2 := (MWu cI h q)) [.int p0] [0, 1, 2, 3, 4, 5, 6, 7, 8, 9, 10, 11, 12, 13] [] [0] [0, 1, 2, 3, 4, 5, 6, 7, 8, 9, 10, 11, 12, 13] g_Tb (fun _ _ _ _ => trivial) ⟨hx, hb, hml, hown, hts⟩ (t_X11_isBrick l dC dI cI h q H.size f g a p0 _ hw) (cwV 1 hts gX11_tell_X11_isBrick rfl rfl rfl (by decide +kernel) ⟨Nat.le_of_ble_eq_true rfl, Nat.le_of_ble_eq_true rfl⟩) hK hP hD hS hA rfl (by decide) (wr := []) rfl (by decide) (by decide) rfl (fun _ => rfl) (by decide) (q0 := 0) rfl rfl rfl hl.1 (Nat.le_of_ble_eq_true rfl) dX11_tell_2 ⟨Nat.le_of_ble_eq_true rfl, Nat.le_of_ble_eq_true rfl⟩ (fun r2 u1 H locs hw hP hD hS => ?_)
  refine lv_if_ne (tgt := 11) hx hb dX11_tell_5 (by decide) (fun hc3 => ?_) (fun hc3 => ?_)
  · replace hw := hw.1 hc3
    refine lv_iload_n hx hb dX11_tell_11 rfl (lv_at hl 2 rfl) ?_
    refine lv_i2l hx hb dX11_tell_12 rfl ?_
    refine lv_lconst (v := 0) hx hb dX11_tell_13 (by decide) ?_
    refine lv_ldc2 hx hb hown kc158 dX11_tell_14 ?_
    refine g_callP (rest := []) [.long (p1.toInt64), .long (0 : Int64), .long (999 : Int64)] ⟨hx, hb, hml, hown, hts⟩ (t_X11_in l (p1.toInt64) (0 : Int64) (999 : Int64) _ hw) (va_cwS 3 hts gX11_tell_X11_in rfl rfl rfl (by decide +kernel) ⟨Nat.le_of_ble_eq_true rfl, Nat.le_of_ble_eq_true rfl⟩) rfl hl.1 (Nat.le_of_ble_eq_true rfl) dX11_tell_17 ⟨Nat.le_of_ble_eq_true rfl, Nat.le_of_ble_eq_true rfl⟩ (fun r4 hw => ?_)
    refine lv_if_ne (tgt := 26) hx hb dX11_tell_20 (by decide) (fun hc5 => ?_) (fun hc5 => ?_)
    · replace hw := hw.1 hc5
      refine lv_aload_n hx hb dX11_tell_26 rfl (lv_at hl 0 rfl) ?_
      refine va_get (D := (dC, dI)) (ci := 13) (v := .ref (q 12)) (C := RX11) (T := TX11) (N := 29) hx hb hts hiX11 hown hK hP 0 rfl rfl 12 (by decide) hf22 (fun _ h9 => h9) rfl dX11_tell_27 ?_
      refine lv_iload_n hx hb dX11_tell_30 rfl (lv_at hl 1 rfl) ?_
      refine lv_iload_n hx hb dX11_tell_31 rfl (lv_at hl 2 rfl) ?_
      obtain ⟨hb6, hw⟩ := hw
      refine va_iast hx hb hK hP hD hS 5 0 rfl rfl hb6 dX11_tell_32 (fun H locs hP hD hS => ?_)
      replace hP : va_P (dC, dI) vwCl (MW cI h q u1.1 (u1.2.1) (va_up u1.2.2 12 (upd (u1.2.2 12) p0.toNatClampNeg p1))) H := hP
      replace hD : va_D A (MW cI h q u1.1 (u1.2.1) (va_up u1.2.2 12 (upd (u1.2.2 12) p0.toNatClampNeg p1))) := hD
      refine lv_aload_n hx hb dX11_tell_33 rfl (lv_at hl 0 rfl) ?_
      refine g_callVi (rest := []) (W2 := (MWu cI h q)) [] [0, 1, 2, 3, 4, 5, 6, 7, 8, 9, 10, 11, 12, 13] [] [0] [0, 1, 2, 3, 4, 5, 6, 7, 8, 9, 10, 11, 12, 13] g_Tb (fun _ _ _ _ => trivial) ⟨hx, hb, hml, hown, hts⟩ (t_X11_leftMany l dC dI cI h q H.size u1.1 (u1.2.1) (va_up u1.2.2 12 (upd (u1.2.2 12) p0.toNatClampNeg p1)) _ hw) (cwV 0 hts gX11_tell_X11_leftMany rfl rfl rfl (by decide +kernel) ⟨Nat.le_of_ble_eq_true rfl, Nat.le_of_ble_eq_true rfl⟩) hK hP hD hS hA rfl (by decide) (wr := []) rfl (by decide) (by decide) rfl (fun _ => rfl) (by decide) (q0 := 0) rfl rfl rfl hl.1 (Nat.le_of_ble_eq_true rfl) dX11_tell_34 ⟨Nat.le_of_ble_eq_true rfl, Nat.le_of_ble_eq_true rfl⟩ (fun r8 u7 H locs hw hP hD hS => ?_)
      exact hret dX11_tell_37 hK hP hD hS hw
    · replace hw := hw.2 hc5
      refine lv_bipush (v := -102) hx hb dX11_tell_23 (by decide) ?_
      exact hret dX11_tell_25 hK hP hD hS hw
  · replace hw := hw.2 hc3
    refine lv_bipush (v := -101) hx hb dX11_tell_8 (by decide) ?_
    exact hret dX11_tell_10 hK hP hD hS hw

def w_X11_hush (f : Nat → Int32) (g : Int64) (a : Nat → Nat → Int32) (p0 : Int32) (Q : Int32 → MSt → Prop) : Prop := w_X11_isBrick f g a p0 (fun (r2 : Int32) (u1 : MSt) => (((¬ r2 = 0) → (vp_in p0 10) ∧ (((¬ ((u1.2.2 12) p0.toNatClampNeg) = (-1 : Int32)) → (vp_in p0 10) ∧ w_X11_leftMany u1.1 (u1.2.1) (va_up u1.2.2 12 (upd (u1.2.2 12) p0.toNatClampNeg (-1 : Int32))) (fun (r8 : Int32) (u7 : MSt) => Q r8 u7)) ∧ (((u1.2.2 12) p0.toNatClampNeg) = (-1 : Int32) → Q (-103 : Int32) u1))) ∧ (r2 = 0 → Q (-101 : Int32) u1)))
abbrev rmX11_hush : Room := { frames := 5, cells := 0, slots := 0, locals := 111 }
set_option maxHeartbeats 4000000 in
set_option maxRecDepth 100000 in
theorem t_X11_hush (l : Launch) (dC : Nat → ClassId) (dI : Nat → Nat → Nat) (cI : ClassId) (h : Nat) (q : Nat → Nat) (sz : Nat) (f : Nat → Int32) (g : Int64) (a : Nat → Nat → Int32) (p0 : Int32) (Q0 : Int32 → MSt → Prop) (hw : w_X11_hush f g a p0 Q0) : Met l yX11_hush wsX11_hush rmX11_hush (g_pre g_T (dC, dI) vwCl [(cI, .int)] (MW cI h q f g a) sz [.ref h, .int p0]) (g_qi (dC, dI) vwCl [(cI, .int)] (MWu cI h q) Q0 (va_A (MW cI h q f g a) sz)) 0 0 (va_A (MW cI h q f g a) sz) := by
  refine g_starti (by decide) rfl (Nat.le_of_ble_eq_true rfl) ?_
  intro p e s m args below meth c A Q ls hx hb hml hown hts hin hK hP hD hA hS hZ hret hl
  obtain ⟨H, eH⟩ : ∃ H : Heap, H = s.heap := ⟨_, rfl⟩
  obtain ⟨locs, eL⟩ : ∃ L : List Loc, L = [] := ⟨_, rfl⟩
  have hS : va_S A s.heap H locs := by rw [eH, eL]; exact hS
  rw [← eH] at hP
  suffices hg : W p l e rmX11_hush s m args below meth c H locs 0 0 Q (F0 m 0 ls []) by rw [eH, eL] at hg; exact hg
  clear eH eL
  replace hl : lv_has ls 2 [(0, .ref h), (1, .int p0)] := hl
  have hf22 := hts (.fieldLink RX11 22 "NumberPileModel" "told" "[I") (by decide +kernel)
  have hiX11 : ∀ w ∈ u_ws RX11 TX11 29, w ∈ wsX11_hush := fun w h => List.mem_cons_of_mem _ (List.mem_append_right _ h)
  unfold w_X11_hush at hw
  refine lv_aload_n hx hb dX11_hush_0 rfl (lv_at hl 0 rfl) ?_
  refine lv_iload_n hx hb dX11_hush_1 rfl (lv_at hl 1 rfl) ?_
  refine g_callVi (rest := []) (W2 := (MWu cI h q)) [.int p0] [0, 1, 2, 3, 4, 5, 6, 7, 8, 9, 10, 11, 12, 13] [] [0] [0, 1, 2, 3, 4, 5, 6, 7, 8, 9, 10, 11, 12, 13] g_Tb (fun _ _ _ _ => trivial) ⟨hx, hb, hml, hown, hts⟩ (t_X11_isBrick l dC dI cI h q H.size f g a p0 _ hw) (cwV 1 hts gX11_hush_X11_isBrick rfl rfl rfl (by decide +kernel) ⟨Nat.le_of_ble_eq_true rfl, Nat.le_of_ble_eq_true rfl⟩) hK hP hD hS hA rfl (by decide) (wr := []) rfl (by decide) (by decide) rfl (fun _ => rfl) (by decide) (q0 := 0) rfl rfl rfl hl.1 (Nat.le_of_ble_eq_true rfl) dX11_hush_2 ⟨Nat.le_of_ble_eq_true rfl, Nat.le_of_ble_eq_true rfl⟩ (fun r2 u1 H locs hw hP hD hS => ?_)
  refine lv_if_ne (tgt := 11) hx hb dX11_hush_5 (by decide) (fun hc3 => ?_) (fun hc3 => ?_)
  · replace hw := hw.1 hc3
    refine lv_aload_n hx hb dX11_hush_11 rfl (lv_at hl 0 rfl) ?_
    refine va_get (D := (dC, dI)) (ci := 13) (v := .ref (q 12)) (C := RX11) (T := TX11) (N := 29) hx hb hts hiX11 hown hK hP 0 rfl rfl 12 (by decide) hf22 (fun _ h9 => h9) rfl dX11_hush_12 ?_
    refine lv_iload_n hx hb dX11_hush_15 rfl (lv_at hl 1 rfl) ?_
    obtain ⟨hb4, hw⟩ := hw
    refine va_iald hx hb hK hP 5 0 rfl rfl hb4 dX11_hush_16 ?_
    refine lv_iconst (v := -1) hx hb dX11_hush_17 (by decide) ?_
    refine lv_icmp_ne (tgt := 24) hx hb dX11_hush_18 (by decide) (fun hc5 => ?_) (fun hc5 => ?_)
    · replace hw := hw.1 hc5
      refine lv_aload_n hx hb dX11_hush_24 rfl (lv_at hl 0 rfl) ?_
      refine va_get (D := (dC, dI)) (ci := 13) (v := .ref (q 12)) (C := RX11) (T := TX11) (N := 29) hx hb hts hiX11 hown hK hP 0 rfl rfl 12 (by decide) hf22 (fun _ h9 => h9) rfl dX11_hush_25 ?_
      refine lv_iload_n hx hb dX11_hush_28 rfl (lv_at hl 1 rfl) ?_
      refine lv_iconst (v := -1) hx hb dX11_hush_29 (by decide) ?_
      obtain ⟨hb6, hw⟩ := hw
      refine va_iast hx hb hK hP hD hS 5 0 rfl rfl hb6 dX11_hush_30 (fun H locs hP hD hS => ?_)
      replace hP : va_P (dC, dI) vwCl (MW cI h q u1.1 (u1.2.1) (va_up u1.2.2 12 (upd (u1.2.2 12) p0.toNatClampNeg (-1 : Int32)))) H := hP
      replace hD : va_D A (MW cI h q u1.1 (u1.2.1) (va_up u1.2.2 12 (upd (u1.2.2 12) p0.toNatClampNeg (-1 : Int32)))) := hD
      refine lv_aload_n hx hb dX11_hush_31 rfl (lv_at hl 0 rfl) ?_
      refine g_callVi (rest := []) (W2 := (MWu cI h q)) [] [0, 1, 2, 3, 4, 5, 6, 7, 8, 9, 10, 11, 12, 13] [] [0] [0, 1, 2, 3, 4, 5, 6, 7, 8, 9, 10, 11, 12, 13] g_Tb (fun _ _ _ _ => trivial) ⟨hx, hb, hml, hown, hts⟩ (t_X11_leftMany l dC dI cI h q H.size u1.1 (u1.2.1) (va_up u1.2.2 12 (upd (u1.2.2 12) p0.toNatClampNeg (-1 : Int32))) _ hw) (cwV 0 hts gX11_hush_X11_leftMany rfl rfl rfl (by decide +kernel) ⟨Nat.le_of_ble_eq_true rfl, Nat.le_of_ble_eq_true rfl⟩) hK hP hD hS hA rfl (by decide) (wr := []) rfl (by decide) (by decide) rfl (fun _ => rfl) (by decide) (q0 := 0) rfl rfl rfl hl.1 (Nat.le_of_ble_eq_true rfl) dX11_hush_32 ⟨Nat.le_of_ble_eq_true rfl, Nat.le_of_ble_eq_true rfl⟩ (fun r8 u7 H locs hw hP hD hS => ?_)
      exact hret dX11_hush_35 hK hP hD hS hw
    · replace hw := hw.2 hc5
      refine lv_bipush (v := -103) hx hb dX11_hush_21 (by decide) ?_
      exact hret dX11_hush_23 hK hP hD hS hw
  · replace hw := hw.2 hc3
    refine lv_bipush (v := -101) hx hb dX11_hush_8 (by decide) ?_
    exact hret dX11_hush_10 hK hP hD hS hw

def w_X11_swingOf (f : Nat → Int32) (g : Int64) (a : Nat → Nat → Int32) (p0 : Int32) (Q : Int32 → MSt → Prop) : Prop := w_X11_topNow f g a (fun (r2 : Int32) (u1 : MSt) => (vp_in p0 4) ∧ (((¬ ((u1.2.2 11) p0.toNatClampNeg) = (9 : Int32)) → (vp_in p0 4) ∧ ∀ x7 : Int32, x7 = (((u1.2.2 14) p0.toNatClampNeg) + (1 : Int32)) → (vp_in p0 4) ∧ w_X11_layValues u1.1 (u1.2.1) (va_up u1.2.2 14 (upd (u1.2.2 14) p0.toNatClampNeg x7)) (fun (u8 : MSt) => (vp_in ((u8.1 7) - (1 : Int32)) 10) ∧ Q (((1000 : Int32) + ((u8.2.2 13) ((u8.1 7) - (1 : Int32)).toNatClampNeg)) - r2) u8)) ∧ (((u1.2.2 11) p0.toNatClampNeg) = (9 : Int32) → Q (-1 : Int32) u1)))
abbrev rmX11_swingOf : Room := { frames := 4, cells := 0, slots := 0, locals := 84 }
set_option maxHeartbeats 4000000 in
set_option maxRecDepth 100000 in
theorem t_X11_swingOf (l : Launch) (dC : Nat → ClassId) (dI : Nat → Nat → Nat) (cI : ClassId) (h : Nat) (q : Nat → Nat) (sz : Nat) (f : Nat → Int32) (g : Int64) (a : Nat → Nat → Int32) (p0 : Int32) (Q0 : Int32 → MSt → Prop) (hw : w_X11_swingOf f g a p0 Q0) : Met l yX11_swingOf wsX11_swingOf rmX11_swingOf (g_pre g_T (dC, dI) vwCl [(cI, .int)] (MW cI h q f g a) sz [.ref h, .int p0]) (g_qi (dC, dI) vwCl [(cI, .int)] (MWu cI h q) Q0 (va_A (MW cI h q f g a) sz)) 0 0 (va_A (MW cI h q f g a) sz) := by
  refine g_starti (by decide) rfl (Nat.le_of_ble_eq_true rfl) ?_
  intro p e s m args below meth c A Q ls hx hb hml hown hts hin hK hP hD hA hS hZ hret hl
  obtain ⟨H, eH⟩ : ∃ H : Heap, H = s.heap := ⟨_, rfl⟩
  obtain ⟨locs, eL⟩ : ∃ L : List Loc, L = [] := ⟨_, rfl⟩
  have hS : va_S A s.heap H locs := by rw [eH, eL]; exact hS
  rw [← eH] at hP
  suffices hg : W p l e rmX11_swingOf s m args below meth c H locs 0 0 Q (F0 m 0 ls []) by rw [eH, eL] at hg; exact hg
  clear eH eL
  replace hl : lv_has ls 3 [(0, .ref h), (1, .int p0)] := hl
  have hf19 := hts (.fieldLink RX11 19 "NumberPileModel" "figures" "[I") (by decide +kernel)
  have hiX11 : ∀ w ∈ u_ws RX11 TX11 29, w ∈ wsX11_swingOf := fun w h => List.mem_cons_of_mem _ (List.mem_append_right _ h)
  have hf28 := hts (.fieldLink RX11 28 "NumberPileModel" "some" "[I") (by decide +kernel)
  have hf25 := hts (.fieldLink RX11 25 "NumberPileModel" "values" "[I") (by decide +kernel)
  have hf103 := hts (.fieldLink RX11 103 "NumberPileModel" "bricks" "I") (by decide +kernel)
  unfold w_X11_swingOf at hw
  refine lv_aload_n hx hb dX11_swingOf_0 rfl (lv_at hl 0 rfl) ?_
  refine g_callVi (rest := []) (W2 := (MWu cI h q)) [] [0, 1, 2, 3, 4, 5, 6, 7, 8, 9, 10, 11, 12, 13] [] [0] [0, 1, 2, 3, 4, 5, 6, 7, 8, 9, 10, 11, 12, 13] g_Tb (fun _ _ _ _ => trivial) ⟨hx, hb, hml, hown, hts⟩ (t_X11_topNow l dC dI cI h q H.size f g a _ hw) (cwV 0 hts gX11_swingOf_X11_topNow rfl rfl rfl (by decide +kernel) ⟨Nat.le_of_ble_eq_true rfl, Nat.le_of_ble_eq_true rfl⟩) hK hP hD hS hA rfl (by decide) (wr := []) rfl (by decide) (by decide) rfl (fun _ => rfl) (by decide) (q0 := 0) rfl rfl rfl hl.1 (Nat.le_of_ble_eq_true rfl) dX11_swingOf_1 ⟨Nat.le_of_ble_eq_true rfl, Nat.le_of_ble_eq_true rfl⟩ (fun r2 u1 H locs hw hP hD hS => ?_)
  refine lv_istore_n (lv' := [(2, .int r2), (0, .ref h), (1, .int p0)]) hx hb dX11_swingOf_4 rfl hl (by decide) rfl (fun ls hl => ?_)
  refine lv_aload_n hx hb dX11_swingOf_5 rfl (lv_at hl 1 rfl) ?_
  refine va_get (D := (dC, dI)) (ci := 13) (v := .ref (q 11)) (C := RX11) (T := TX11) (N := 29) hx hb hts hiX11 hown hK hP 0 rfl rfl 11 (by decide) hf19 (fun _ h9 => h9) rfl dX11_swingOf_6 ?_
  refine lv_iload_n hx hb dX11_swingOf_9 rfl (lv_at hl 2 rfl) ?_
  obtain ⟨hb3, hw⟩ := hw
  refine va_iald hx hb hK hP 4 0 rfl rfl hb3 dX11_swingOf_10 ?_
  refine lv_bipush (v := 9) hx hb dX11_swingOf_11 (by decide) ?_
  refine lv_icmp_ne (tgt := 18) hx hb dX11_swingOf_13 (by decide) (fun hc4 => ?_) (fun hc4 => ?_)
  · replace hw := hw.1 hc4
    refine lv_aload_n hx hb dX11_swingOf_18 rfl (lv_at hl 1 rfl) ?_
    refine va_get (D := (dC, dI)) (ci := 13) (v := .ref (q 14)) (C := RX11) (T := TX11) (N := 29) hx hb hts hiX11 hown hK hP 0 rfl rfl 14 (by decide) hf28 (fun _ h9 => h9) rfl dX11_swingOf_19 ?_
    refine lv_iload_n hx hb dX11_swingOf_22 rfl (lv_at hl 2 rfl) ?_
    refine lv_dup2_11 hx hb dX11_swingOf_23 rfl rfl ?_
    obtain ⟨hb5, hw⟩ := hw
    refine va_iald hx hb hK hP 7 0 rfl rfl hb5 dX11_swingOf_24 ?_
    refine lv_iconst (v := 1) hx hb dX11_swingOf_25 (by decide) ?_
    refine lv_iadd hx hb dX11_swingOf_26 ?_
    refine lv_topi (fun x7 ex7 => ?_)
    replace hw := hw x7 ex7
    obtain ⟨hb6, hw⟩ := hw
    refine va_iast hx hb hK hP hD hS 7 0 rfl rfl hb6 dX11_swingOf_27 (fun H locs hP hD hS => ?_)
    replace hP : va_P (dC, dI) vwCl (MW cI h q u1.1 (u1.2.1) (va_up u1.2.2 14 (upd (u1.2.2 14) p0.toNatClampNeg x7))) H := hP
    replace hD : va_D A (MW cI h q u1.1 (u1.2.1) (va_up u1.2.2 14 (upd (u1.2.2 14) p0.toNatClampNeg x7))) := hD
    refine lv_aload_n hx hb dX11_swingOf_28 rfl (lv_at hl 1 rfl) ?_
    refine g_callVv (rest := []) (W2 := (MWu cI h q)) [] [0, 1, 2, 3, 4, 5, 6, 7, 8, 9, 10, 11, 12, 13] [] [0] [0, 1, 2, 3, 4, 5, 6, 7, 8, 9, 10, 11, 12, 13] g_Tb (fun _ _ _ _ => trivial) ⟨hx, hb, hml, hown, hts⟩ (t_X11_layValues l dC dI cI h q H.size u1.1 (u1.2.1) (va_up u1.2.2 14 (upd (u1.2.2 14) p0.toNatClampNeg x7)) _ hw) (cwV 0 hts gX11_swingOf_X11_layValues rfl rfl rfl (by decide +kernel) ⟨Nat.le_of_ble_eq_true rfl, Nat.le_of_ble_eq_true rfl⟩) hK hP hD hS hA rfl (by decide) (wr := []) rfl (by decide) (by decide) rfl (fun _ => rfl) (by decide) (q0 := 0) rfl rfl rfl hl.1 (Nat.le_of_ble_eq_true rfl) dX11_swingOf_29 ⟨Nat.le_of_ble_eq_true rfl, Nat.le_of_ble_eq_true rfl⟩ (fun u8 H locs hw hP hD hS => ?_)
    refine lv_sipush (v := 1000) hx hb dX11_swingOf_32 (by decide) ?_
    refine lv_aload_n hx hb dX11_swingOf_35 rfl (lv_at hl 1 rfl) ?_
    refine va_get (D := (dC, dI)) (ci := 13) (v := .ref (q 13)) (C := RX11) (T := TX11) (N := 29) hx hb hts hiX11 hown hK hP 0 rfl rfl 13 (by decide) hf25 (fun _ h9 => h9) rfl dX11_swingOf_36 ?_
    refine lv_aload_n hx hb dX11_swingOf_39 rfl (lv_at hl 1 rfl) ?_
    refine va_get (D := (dC, dI)) (ci := 13) (v := .int (u8.1 7)) (C := RX11) (T := TX11) (N := 29) hx hb hts hiX11 hown hK hP 0 rfl rfl 7 (by decide) hf103 (fun _ h9 => h9) rfl dX11_swingOf_40 ?_
    refine lv_iconst (v := 1) hx hb dX11_swingOf_43 (by decide) ?_
    refine lv_isub hx hb dX11_swingOf_44 ?_
    obtain ⟨hb9, hw⟩ := hw
    refine va_iald hx hb hK hP 6 0 rfl rfl hb9 dX11_swingOf_45 ?_
    refine lv_iadd hx hb dX11_swingOf_46 ?_
    refine lv_iload_n hx hb dX11_swingOf_47 rfl (lv_at hl 0 rfl) ?_
    refine lv_isub hx hb dX11_swingOf_48 ?_
    exact hret dX11_swingOf_49 hK hP hD hS hw
  · replace hw := hw.2 hc4
    refine lv_iconst (v := -1) hx hb dX11_swingOf_16 (by decide) ?_
    exact hret dX11_swingOf_17 hK hP hD hS hw
