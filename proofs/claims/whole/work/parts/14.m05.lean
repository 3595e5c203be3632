def w_X11_worstOf (f : Nat → Int32) (g : Int64) (a : Nat → Nat → Int32) (p0 : Int32) (Q : Int32 → MSt → Prop) : Prop := (∀ X3 : Int32 → MSt → Prop, (∀ (x1 : Int32) (u2 : MSt), (((((1000 : Int32) ≤ x1) → (∀ X8 : Int32 → Int32 → MSt → Prop, (∀ (x5 : Int32) (x6 : Int32) (u7 : MSt), (w_X11_power (10 : Int32) (u7.1 6) (fun (r9 : Int32) => (((r9 ≤ x6) → Q x5 u7) ∧ (¬ (r9 ≤ x6) → w_X11_isFit u7.1 (u7.2.1) u7.2.2 x6 (fun (r12 : Int32) (u11 : MSt) => ∀ J15 : Int32 → MSt → Prop, (∀ (x13 : Int32) (u14 : MSt), (∀ x16 : Int32, x16 = x6 + (1 : Int32) → X8 x13 x16 u14) → J15 x13 u14) → (((r12 = 0) → J15 x5 u11) ∧ (¬ (r12 = 0) → (vp_in p0 10) ∧ (vp_in ((u11.2.2 13) p0.toNatClampNeg) 1000) ∧ ∀ x21 : Int32, x21 = (((u11.2.2 16) ((u11.2.2 13) p0.toNatClampNeg).toNatClampNeg) + (1 : Int32)) → (vp_in ((u11.2.2 13) p0.toNatClampNeg) 1000) ∧ (vp_in p0 10) ∧ (vp_in ((u11.2.2 13) p0.toNatClampNeg) 1000) ∧ ∀ J25 : Int32 → Prop, (∀ (x24 : Int32), (J15 x24 (u11.1, u11.2.1, (va_up u11.2.2 16 (upd (u11.2.2 16) ((u11.2.2 13) p0.toNatClampNeg).toNatClampNeg x21)))) → J25 x24) → (((((upd (u11.2.2 16) ((u11.2.2 13) p0.toNatClampNeg).toNatClampNeg x21) ((u11.2.2 13) p0.toNatClampNeg).toNatClampNeg) ≤ x5) → J25 x5) ∧ (¬ (((upd (u11.2.2 16) ((u11.2.2 13) p0.toNatClampNeg).toNatClampNeg x21) ((u11.2.2 13) p0.toNatClampNeg).toNatClampNeg) ≤ x5) → (vp_in p0 10) ∧ (vp_in ((u11.2.2 13) p0.toNatClampNeg) 1000) ∧ J25 ((upd (u11.2.2 16) ((u11.2.2 13) p0.toNatClampNeg).toNatClampNeg x21) ((u11.2.2 13) p0.toNatClampNeg).toNatClampNeg)))))))))) → X8 x5 x6 u7) → X8 (0 : Int32) (0 : Int32) u2)) ∧ (¬ ((1000 : Int32) ≤ x1) → (vp_in x1 1000) ∧ ∀ x30 : Int32, x30 = x1 + (1 : Int32) → X3 x30 (u2.1, u2.2.1, (va_up u2.2.2 16 (upd (u2.2.2 16) x1.toNatClampNeg (0 : Int32))))))) → X3 x1 u2) → X3 (0 : Int32) (f, g, a))
abbrev rmX11_worstOf : Room := { frames := 4, cells := 0, slots := 0, locals := 89 }
set_option maxHeartbeats 4000000 in
set_option maxRecDepth 100000 in
theorem t_X11_worstOf (l : Launch) (dC : Nat → ClassId) (dI : Nat → Nat → Nat) (cI : ClassId) (h : Nat) (q : Nat → Nat) (sz : Nat) (f : Nat → Int32) (g : Int64) (a : Nat → Nat → Int32) (p0 : Int32) (Q0 : Int32 → MSt → Prop) (hw : w_X11_worstOf f g a p0 Q0) : Met l yX11_worstOf wsX11_worstOf rmX11_worstOf (g_pre g_T (dC, dI) vwCl [(cI, .int)] (MW cI h q f g a) sz [.ref h, .int p0]) (g_qi (dC, dI) vwCl [(cI, .int)] (MWu cI h q) Q0 (va_A (MW cI h q f g a) sz)) 0 0 (va_A (MW cI h q f g a) sz) := by
  refine g_starti (by decide) rfl (Nat.le_of_ble_eq_true rfl) ?_
  intro p e s m args below meth c A Q ls hx hb hml hown hts hin hK hP hD hA hS hZ hret hl
  obtain ⟨H, eH⟩ : ∃ H : Heap, H = s.heap := ⟨_, rfl⟩
  obtain ⟨locs, eL⟩ : ∃ L : List Loc, L = [] := ⟨_, rfl⟩
  have hS : va_S A s.heap H locs := by rw [eH, eL]; exact hS
  rw [← eH] at hP
  suffices hg : W p l e rmX11_worstOf s m args below meth c H locs 0 0 Q (F0 m 0 ls []) by rw [eH, eL] at hg; exact hg
  clear eH eL
  replace hl : lv_has ls 4 [(0, .ref h), (1, .int p0)] := hl
  have hf97 := hts (.fieldLink RX11 97 "NumberPileModel" "wide" "I") (by decide +kernel)
  have hiX11 : ∀ w ∈ u_ws RX11 TX11 29, w ∈ wsX11_worstOf := fun w h => List.mem_cons_of_mem _ (List.mem_append_right _ h)
  have hf31 := hts (.fieldLink RX11 31 "NumberPileModel" "sizes" "[I") (by decide +kernel)
  have hf25 := hts (.fieldLink RX11 25 "NumberPileModel" "values" "[I") (by decide +kernel)
  unfold w_X11_worstOf at hw
  refine lv_iconst (v := 0) hx hb dX11_worstOf_0 (by decide) ?_
  refine lv_istore_n (lv' := [(2, .int (0 : Int32)), (0, .ref h), (1, .int p0)]) hx hb dX11_worstOf_1 rfl hl (by decide) rfl (fun ls hl => ?_)
  refine hw (fun (x1 : Int32) (u2 : MSt) => ∀ (H : Heap) (locs : List Loc) (ls : Array Slot), va_P (dC, dI) vwCl (MW cI h q u2.1 (u2.2.1) u2.2.2) H → va_D A (MW cI h q u2.1 (u2.2.1) u2.2.2) → va_S A s.heap H locs → lv_has ls 4 [(0, .ref h), (1, .int p0), (2, .int x1)] → W p l e rmX11_worstOf s m args below meth c H locs 0 0 Q (F0 m 2 ls [])) ?_ H locs ls hP hD hS (lv_sub hl [1, 2, 0] rfl)
  · intro x1 u2 hw H locs ls hP hD hS hl
    refine lv_iload_n hx hb dX11_worstOf_2 rfl (lv_at hl 2 rfl) ?_
    refine lv_sipush (v := 1000) hx hb dX11_worstOf_3 (by decide) ?_
    refine lv_icmp_ge (tgt := 22) hx hb dX11_worstOf_6 (by decide) (fun hc4 => ?_) (fun hc4 => ?_)
    · replace hw := hw.1 hc4
      refine lv_iconst (v := 0) hx hb dX11_worstOf_22 (by decide) ?_
      refine lv_istore_n (lv' := [(2, .int (0 : Int32)), (0, .ref h), (1, .int p0)]) hx hb dX11_worstOf_23 rfl hl (by decide) rfl (fun ls hl => ?_)
      refine lv_iconst (v := 0) hx hb dX11_worstOf_24 (by decide) ?_
      refine lv_istore_n (lv' := [(3, .int (0 : Int32)), (2, .int (0 : Int32)), (0, .ref h), (1, .int p0)]) hx hb dX11_worstOf_25 rfl hl (by decide) rfl (fun ls hl => ?_)
      refine hw (fun (x5 : Int32) (x6 : Int32) (u7 : MSt) => ∀ (H : Heap) (locs : List Loc) (ls : Array Slot), va_P (dC, dI) vwCl (MW cI h q u7.1 (u7.2.1) u7.2.2) H → va_D A (MW cI h q u7.1 (u7.2.1) u7.2.2) → va_S A s.heap H locs → lv_has ls 4 [(0, .ref h), (1, .int p0), (2, .int x5), (3, .int x6)] → W p l e rmX11_worstOf s m args below meth c H locs 0 0 Q (F0 m 26 ls [])) ?_ H locs ls hP hD hS (lv_sub hl [2, 3, 1, 0] rfl)
      · intro x5 x6 u7 hw H locs ls hP hD hS hl
        refine lv_iload_n hx hb dX11_worstOf_26 rfl (lv_at hl 3 rfl) ?_
        refine lv_bipush (v := 10) hx hb dX11_worstOf_27 (by decide) ?_
        refine lv_aload_n hx hb dX11_worstOf_29 rfl (lv_at hl 0 rfl) ?_
        refine va_get (D := (dC, dI)) (ci := 13) (v := .int (u7.1 6)) (C := RX11) (T := TX11) (N := 29) hx hb hts hiX11 hown hK hP 0 rfl rfl 6 (by decide) hf97 (fun _ h9 => h9) rfl dX11_worstOf_30 ?_
        refine g_callP (rest := [.int x6]) [.int (10 : Int32), .int (u7.1 6)] ⟨hx, hb, hml, hown, hts⟩ (t_X11_power l (10 : Int32) (u7.1 6) _ hw) (va_cwS 2 hts gX11_worstOf_X11_power rfl rfl rfl (by decide +kernel) ⟨Nat.le_of_ble_eq_true rfl, Nat.le_of_ble_eq_true rfl⟩) rfl hl.1 (Nat.le_of_ble_eq_true rfl) dX11_worstOf_33 ⟨Nat.le_of_ble_eq_true rfl, Nat.le_of_ble_eq_true rfl⟩ (fun r9 hw => ?_)
        refine lv_icmp_ge (tgt := 99) hx hb dX11_worstOf_36 (by decide) (fun hc10 => ?_) (fun hc10 => ?_)
        · replace hw := hw.1 hc10
          refine lv_iload_n hx hb dX11_worstOf_99 rfl (lv_at hl 2 rfl) ?_
          exact hret dX11_worstOf_100 hK hP hD hS hw
        · replace hw := hw.2 hc10
          refine lv_aload_n hx hb dX11_worstOf_39 rfl (lv_at hl 0 rfl) ?_
          refine lv_iload_n hx hb dX11_worstOf_40 rfl (lv_at hl 3 rfl) ?_
          refine g_callVi (rest := []) (W2 := (MWu cI h q)) [.int x6] [0, 1, 2, 3, 4, 5, 6, 7, 8, 9, 10, 11, 12, 13] [] [0] [0, 1, 2, 3, 4, 5, 6, 7, 8, 9, 10, 11, 12, 13] g_Tb (fun _ _ _ _ => trivial) ⟨hx, hb, hml, hown, hts⟩ (t_X11_isFit l dC dI cI h q H.size u7.1 (u7.2.1) u7.2.2 x6 _ hw) (cwV 1 hts gX11_worstOf_X11_isFit rfl rfl rfl (by decide +kernel) ⟨Nat.le_of_ble_eq_true rfl, Nat.le_of_ble_eq_true rfl⟩) hK hP hD hS hA rfl (by decide) (wr := []) rfl (by decide) (by decide) rfl (fun _ => rfl) (by decide) (q0 := 0) rfl rfl rfl hl.1 (Nat.le_of_ble_eq_true rfl) dX11_worstOf_41 ⟨Nat.le_of_ble_eq_true rfl, Nat.le_of_ble_eq_true rfl⟩ (fun r12 u11 H locs hw hP hD hS => ?_)
          replace hw := hw (fun (x13 : Int32) (u14 : MSt) => ∀ (H : Heap) (locs : List Loc) (ls : Array Slot), va_P (dC, dI) vwCl (MW cI h q u14.1 (u14.2.1) u14.2.2) H → va_D A (MW cI h q u14.1 (u14.2.1) u14.2.2) → va_S A s.heap H locs → lv_has ls 4 [(0, .ref h), (1, .int p0), (2, .int x13), (3, .int x6)] → W p l e rmX11_worstOf s m args below meth c H locs 0 0 Q (F0 m 93 ls [])) (by
            intro x13 u14 hw H locs ls hP hD hS hl
            obtain ⟨x16, ex16⟩ : ∃ y : Int32, y = x6 + (1 : Int32) := ⟨_, rfl⟩
            replace hw := hw x16 ex16
            refine lv_iinc (v := x16) (lv' := [(3, .int x16), (0, .ref h), (1, .int p0), (2, .int x13)]) hx hb dX11_worstOf_93 hl (k := 3) rfl (by rw [ex16]; rfl) (by decide) rfl (fun ls hl => ?_)
            refine lv_goto (tgt := 26) hx hb dX11_worstOf_96 (by decide) ?_
            exact hw H locs ls hP hD hS (lv_sub hl [1, 2, 3, 0] rfl))
          refine lv_if_eq (tgt := 93) hx hb dX11_worstOf_44 (by decide) (fun hc17 => ?_) (fun hc17 => ?_)
          · replace hw := hw.1 hc17
            exact hw H locs ls hP hD hS (lv_sub hl [0, 1, 2, 3] rfl)
          · replace hw := hw.2 hc17
            refine lv_aload_n hx hb dX11_worstOf_47 rfl (lv_at hl 0 rfl) ?_
            refine va_get (D := (dC, dI)) (ci := 13) (v := .ref (q 16)) (C := RX11) (T := TX11) (N := 29) hx hb hts hiX11 hown hK hP 0 rfl rfl 16 (by decide) hf31 (fun _ h9 => h9) rfl dX11_worstOf_48 ?_
            refine lv_aload_n hx hb dX11_worstOf_51 rfl (lv_at hl 0 rfl) ?_
            refine va_get (D := (dC, dI)) (ci := 13) (v := .ref (q 13)) (C := RX11) (T := TX11) (N := 29) hx hb hts hiX11 hown hK hP 0 rfl rfl 13 (by decide) hf25 (fun _ h9 => h9) rfl dX11_worstOf_52 ?_
            refine lv_iload_n hx hb dX11_worstOf_55 rfl (lv_at hl 1 rfl) ?_
            obtain ⟨hb18, hw⟩ := hw
            refine va_iald hx hb hK hP 6 0 rfl rfl hb18 dX11_worstOf_56 ?_
            refine lv_dup2_11 hx hb dX11_worstOf_57 rfl rfl ?_
            obtain ⟨hb19, hw⟩ := hw
            refine va_iald hx hb hK hP 8 0 rfl rfl hb19 dX11_worstOf_58 ?_
            refine lv_iconst (v := 1) hx hb dX11_worstOf_59 (by decide) ?_
            refine lv_iadd hx hb dX11_worstOf_60 ?_
            refine lv_topi (fun x21 ex21 => ?_)
            replace hw := hw x21 ex21
            obtain ⟨hb20, hw⟩ := hw
            refine va_iast hx hb hK hP hD hS 8 0 rfl rfl hb20 dX11_worstOf_61 (fun H locs hP hD hS => ?_)
            replace hP : va_P (dC, dI) vwCl (MW cI h q u11.1 (u11.2.1) (va_up u11.2.2 16 (upd (u11.2.2 16) ((u11.2.2 13) p0.toNatClampNeg).toNatClampNeg x21))) H := hP
            replace hD : va_D A (MW cI h q u11.1 (u11.2.1) (va_up u11.2.2 16 (upd (u11.2.2 16) ((u11.2.2 13) p0.toNatClampNeg).toNatClampNeg x21))) := hD
            refine lv_aload_n hx hb dX11_worstOf_62 rfl (lv_at hl 0 rfl) ?_
            refine va_get (D := (dC, dI)) (ci := 13) (v := .ref (q 16)) (C := RX11) (T := TX11) (N := 29) hx hb hts hiX11 hown hK hP 0 rfl rfl 16 (by decide) hf31 (fun _ h9 => h9) rfl dX11_worstOf_63 ?_
            refine lv_aload_n hx hb dX11_worstOf_66 rfl (lv_at hl 0 rfl) ?_
            refine va_get (D := (dC, dI)) (ci := 13) (v := .ref (q 13)) (C := RX11) (T := TX11) (N := 29) hx hb hts hiX11 hown hK hP 0 rfl rfl 13 (by decide) hf25 (fun _ h9 => h9) rfl dX11_worstOf_67 ?_
            refine lv_iload_n hx hb dX11_worstOf_70 rfl (lv_at hl 1 rfl) ?_
            obtain ⟨hb22, hw⟩ := hw
            refine va_iald hx hb hK hP 6 0 rfl rfl hb22 dX11_worstOf_71 ?_
            obtain ⟨hb23, hw⟩ := hw
            refine va_iald hx hb hK hP 8 0 rfl rfl hb23 dX11_worstOf_72 ?_
            refine lv_iload_n hx hb dX11_worstOf_73 rfl (lv_at hl 2 rfl) ?_
            replace hw := hw (fun (x24 : Int32) => ∀ (H : Heap) (locs : List Loc) (ls : Array Slot), va_P (dC, dI) vwCl (MW cI h q u11.1 (u11.2.1) (va_up u11.2.2 16 (upd (u11.2.2 16) ((u11.2.2 13) p0.toNatClampNeg).toNatClampNeg x21))) H → va_D A (MW cI h q u11.1 (u11.2.1) (va_up u11.2.2 16 (upd (u11.2.2 16) ((u11.2.2 13) p0.toNatClampNeg).toNatClampNeg x21))) → va_S A s.heap H locs → lv_has ls 4 [(0, .ref h), (1, .int p0), (3, .int x6)] → W p l e rmX11_worstOf s m args below meth c H locs 0 0 Q (F0 m 92 ls [.int x24])) (by
              intro x24 hw H locs ls hP hD hS hl
              refine lv_istore_n (lv' := [(2, .int x24), (0, .ref h), (1, .int p0), (3, .int x6)]) hx hb dX11_worstOf_92 rfl hl (by decide) rfl (fun ls hl => ?_)
              exact hw H locs ls hP hD hS (lv_sub hl [1, 2, 0, 3] rfl))
            refine lv_icmp_le (tgt := 91) hx hb dX11_worstOf_74 (by decide) (fun hc26 => ?_) (fun hc26 => ?_)
            · replace hw := hw.1 hc26
              refine lv_iload_n hx hb dX11_worstOf_91 rfl (lv_at hl 2 rfl) ?_
              exact hw H locs ls hP hD hS (lv_sub hl [0, 1, 3] rfl)
            · replace hw := hw.2 hc26
              refine lv_aload_n hx hb dX11_worstOf_77 rfl (lv_at hl 0 rfl) ?_
              refine va_get (D := (dC, dI)) (ci := 13) (v := .ref (q 16)) (C := RX11) (T := TX11) (N := 29) hx hb hts hiX11 hown hK hP 0 rfl rfl 16 (by decide) hf31 (fun _ h9 => h9) rfl dX11_worstOf_78 ?_
              refine lv_aload_n hx hb dX11_worstOf_81 rfl (lv_at hl 0 rfl) ?_
              refine va_get (D := (dC, dI)) (ci := 13) (v := .ref (q 13)) (C := RX11) (T := TX11) (N := 29) hx hb hts hiX11 hown hK hP 0 rfl rfl 13 (by decide) hf25 (fun _ h9 => h9) rfl dX11_worstOf_82 ?_
              refine lv_iload_n hx hb dX11_worstOf_85 rfl (lv_at hl 1 rfl) ?_
              obtain ⟨hb27, hw⟩ := hw
              refine va_iald hx hb hK hP 6 0 rfl rfl hb27 dX11_worstOf_86 ?_
              obtain ⟨hb28, hw⟩ := hw
              refine va_iald hx hb hK hP 8 0 rfl rfl hb28 dX11_worstOf_87 ?_
              refine lv_goto (tgt := 92) hx hb dX11_worstOf_88 (by decide) ?_
              exact hw H locs ls hP hD hS (lv_sub hl [0, 1, 3] rfl)
    · replace hw := hw.2 hc4
      refine lv_aload_n hx hb dX11_worstOf_9 rfl (lv_at hl 0 rfl) ?_
      refine va_get (D := (dC, dI)) (ci := 13) (v := .ref (q 16)) (C := RX11) (T := TX11) (N := 29) hx hb hts hiX11 hown hK hP 0 rfl rfl 16 (by decide) hf31 (fun _ h9 => h9) rfl dX11_worstOf_10 ?_
      refine lv_iload_n hx hb dX11_worstOf_13 rfl (lv_at hl 2 rfl) ?_
      refine lv_iconst (v := 0) hx hb dX11_worstOf_14 (by decide) ?_
      obtain ⟨hb29, hw⟩ := hw
      refine va_iast hx hb hK hP hD hS 8 0 rfl rfl hb29 dX11_worstOf_15 (fun H locs hP hD hS => ?_)
      replace hP : va_P (dC, dI) vwCl (MW cI h q u2.1 (u2.2.1) (va_up u2.2.2 16 (upd (u2.2.2 16) x1.toNatClampNeg (0 : Int32)))) H := hP
      replace hD : va_D A (MW cI h q u2.1 (u2.2.1) (va_up u2.2.2 16 (upd (u2.2.2 16) x1.toNatClampNeg (0 : Int32)))) := hD
      obtain ⟨x30, ex30⟩ : ∃ y : Int32, y = x1 + (1 : Int32) := ⟨_, rfl⟩
      replace hw := hw x30 ex30
      refine lv_iinc (v := x30) (lv' := [(2, .int x30), (0, .ref h), (1, .int p0)]) hx hb dX11_worstOf_16 hl (k := 2) rfl (by rw [ex30]; rfl) (by decide) rfl (fun ls hl => ?_)
      refine lv_goto (tgt := 2) hx hb dX11_worstOf_19 (by decide) ?_
      exact hw H locs ls hP hD hS (lv_sub hl [1, 2, 0] rfl)

def w_X11_lookOf (f : Nat → Int32) (g : Int64) (a : Nat → Nat → Int32)  (Q : Int32 → MSt → Prop) : Prop := (∀ X5 : Int32 → Int32 → Int32 → MSt → Prop, (∀ (x1 : Int32) (x2 : Int32) (x3 : Int32) (u4 : MSt), (((((u4.1 7) ≤ x3) → Q x1 u4) ∧ (¬ ((u4.1 7) ≤ x3) → (vp_in x3 10) ∧ ∀ J10 : Int32 → MSt → Prop, (∀ (x8 : Int32) (u9 : MSt), (∀ J13 : Int32 → Int32 → Prop, (∀ (x11 : Int32) (x12 : Int32), (∀ x14 : Int32, x14 = x3 + (1 : Int32) → X5 x11 x12 x14 u9) → J13 x11 x12) → (((x8 ≤ 0) → J13 x1 x2) ∧ (¬ (x8 ≤ 0) → (((x2 ≤ x8) → J13 x1 x2) ∧ (¬ (x2 ≤ x8) → J13 x3 x8))))) → J10 x8 u9) → (((¬ ((u4.2.2 12) x3.toNatClampNeg) = (-1 : Int32)) → J10 (0 : Int32) u4) ∧ (((u4.2.2 12) x3.toNatClampNeg) = (-1 : Int32) → w_X11_worstOf u4.1 (u4.2.1) u4.2.2 x3 (fun (r19 : Int32) (u18 : MSt) => J10 r19 u18)))))) → X5 x1 x2 x3 u4) → X5 (-1 : Int32) (100000 : Int32) (0 : Int32) (f, g, a))
abbrev rmX11_lookOf : Room := { frames := 5, cells := 0, slots := 0, locals := 112 }
set_option maxHeartbeats 4000000 in
set_option maxRecDepth 100000 in
theorem t_X11_lookOf (l : Launch) (dC : Nat → ClassId) (dI : Nat → Nat → Nat) (cI : ClassId) (h : Nat) (q : Nat → Nat) (sz : Nat) (f : Nat → Int32) (g : Int64) (a : Nat → Nat → Int32)  (Q0 : Int32 → MSt → Prop) (hw : w_X11_lookOf f g a  Q0) : Met l yX11_lookOf wsX11_lookOf rmX11_lookOf (g_pre g_T (dC, dI) vwCl [(cI, .int)] (MW cI h q f g a) sz [.ref h]) (g_qi (dC, dI) vwCl [(cI, .int)] (MWu cI h q) Q0 (va_A (MW cI h q f g a) sz)) 0 0 (va_A (MW cI h q f g a) sz) := by
  refine g_starti (by decide) rfl (Nat.le_of_ble_eq_true rfl) ?_
  intro p e s m args below meth c A Q ls hx hb hml hown hts hin hK hP hD hA hS hZ hret hl
  obtain ⟨H, eH⟩ : ∃ H : Heap, H = s.heap := ⟨_, rfl⟩
  obtain ⟨locs, eL⟩ : ∃ L : List Loc, L = [] := ⟨_, rfl⟩
  have hS : va_S A s.heap H locs := by rw [eH, eL]; exact hS
  rw [← eH] at hP
  suffices hg : W p l e rmX11_lookOf s m args below meth c H locs 0 0 Q (F0 m 0 ls []) by rw [eH, eL] at hg; exact hg
  clear eH eL
  replace hl : lv_has ls 5 [(0, .ref h)] := hl
  have kc203 := hts (.constant RX11 203 (100000)) (by decide +kernel)
  have hf103 := hts (.fieldLink RX11 103 "NumberPileModel" "bricks" "I") (by decide +kernel)
  have hiX11 : ∀ w ∈ u_ws RX11 TX11 29, w ∈ wsX11_lookOf := fun w h => List.mem_cons_of_mem _ (List.mem_append_right _ h)
  have hf22 := hts (.fieldLink RX11 22 "NumberPileModel" "told" "[I") (by decide +kernel)
  unfold w_X11_lookOf at hw
  refine lv_iconst (v := -1) hx hb dX11_lookOf_0 (by decide) ?_
  refine lv_istore_n (lv' := [(1, .int (-1 : Int32)), (0, .ref h)]) hx hb dX11_lookOf_1 rfl hl (by decide) rfl (fun ls hl => ?_)
  refine lv_ldc hx hb hown kc203 dX11_lookOf_2 ?_
  refine lv_istore_n (lv' := [(2, .int (100000 : Int32)), (1, .int (-1 : Int32)), (0, .ref h)]) hx hb dX11_lookOf_4 rfl hl (by decide) rfl (fun ls hl => ?_)
  refine lv_iconst (v := 0) hx hb dX11_lookOf_5 (by decide) ?_
  refine lv_istore_n (lv' := [(3, .int (0 : Int32)), (2, .int (100000 : Int32)), (1, .int (-1 : Int32)), (0, .ref h)]) hx hb dX11_lookOf_6 rfl hl (by decide) rfl (fun ls hl => ?_)
  refine hw (fun (x1 : Int32) (x2 : Int32) (x3 : Int32) (u4 : MSt) => ∀ (H : Heap) (locs : List Loc) (ls : Array Slot), va_P (dC, dI) vwCl (MW cI h q u4.1 (u4.2.1) u4.2.2) H → va_D A (MW cI h q u4.1 (u4.2.1) u4.2.2) → va_S A s.heap H locs → lv_has ls 5 [(0, .ref h), (1, .int x1), (2, .int x2), (3, .int x3)] → W p l e rmX11_lookOf s m args below meth c H locs 0 0 Q (F0 m 7 ls [])) ?_ H locs ls hP hD hS (lv_sub hl [3, 2, 1, 0] rfl)
  · intro x1 x2 x3 u4 hw H locs ls hP hD hS hl
    refine lv_iload_n hx hb dX11_lookOf_7 rfl (lv_at hl 3 rfl) ?_
    refine lv_aload_n hx hb dX11_lookOf_8 rfl (lv_at hl 0 rfl) ?_
    refine va_get (D := (dC, dI)) (ci := 13) (v := .int (u4.1 7)) (C := RX11) (T := TX11) (N := 29) hx hb hts hiX11 hown hK hP 0 rfl rfl 7 (by decide) hf103 (fun _ h9 => h9) rfl dX11_lookOf_9 ?_
    refine lv_icmp_ge (tgt := 58) hx hb dX11_lookOf_12 (by decide) (fun hc6 => ?_) (fun hc6 => ?_)
    · replace hw := hw.1 hc6
      refine lv_iload_n hx hb dX11_lookOf_58 rfl (lv_at hl 1 rfl) ?_
      exact hret dX11_lookOf_59 hK hP hD hS hw
    · replace hw := hw.2 hc6
      refine lv_aload_n hx hb dX11_lookOf_15 rfl (lv_at hl 0 rfl) ?_
      refine va_get (D := (dC, dI)) (ci := 13) (v := .ref (q 12)) (C := RX11) (T := TX11) (N := 29) hx hb hts hiX11 hown hK hP 0 rfl rfl 12 (by decide) hf22 (fun _ h9 => h9) rfl dX11_lookOf_16 ?_
      refine lv_iload_n hx hb dX11_lookOf_19 rfl (lv_at hl 3 rfl) ?_
      obtain ⟨hb7, hw⟩ := hw
      refine va_iald hx hb hK hP 5 0 rfl rfl hb7 dX11_lookOf_20 ?_
      refine lv_iconst (v := -1) hx hb dX11_lookOf_21 (by decide) ?_
      replace hw := hw (fun (x8 : Int32) (u9 : MSt) => ∀ (H : Heap) (locs : List Loc) (ls : Array Slot), va_P (dC, dI) vwCl (MW cI h q u9.1 (u9.2.1) u9.2.2) H → va_D A (MW cI h q u9.1 (u9.2.1) u9.2.2) → va_S A s.heap H locs → lv_has ls 5 [(0, .ref h), (1, .int x1), (2, .int x2), (3, .int x3)] → W p l e rmX11_lookOf s m args below meth c H locs 0 0 Q (F0 m 34 ls [.int x8])) (by
        intro x8 u9 hw H locs ls hP hD hS hl
        refine lv_istore (lv' := [(4, .int x8), (0, .ref h), (1, .int x1), (2, .int x2), (3, .int x3)]) hx hb dX11_lookOf_34 hl (by decide) rfl (fun ls hl => ?_)
        refine lv_iload hx hb dX11_lookOf_36 (lv_at hl 0 rfl) ?_
        replace hw := hw (fun (x11 : Int32) (x12 : Int32) => ∀ (H : Heap) (locs : List Loc) (ls : Array Slot), va_P (dC, dI) vwCl (MW cI h q u9.1 (u9.2.1) u9.2.2) H → va_D A (MW cI h q u9.1 (u9.2.1) u9.2.2) → va_S A s.heap H locs → lv_has ls 5 [(0, .ref h), (1, .int x11), (2, .int x12), (3, .int x3)] → W p l e rmX11_lookOf s m args below meth c H locs 0 0 Q (F0 m 52 ls [])) (by
          intro x11 x12 hw H locs ls hP hD hS hl
          obtain ⟨x14, ex14⟩ : ∃ y : Int32, y = x3 + (1 : Int32) := ⟨_, rfl⟩
          replace hw := hw x14 ex14
          refine lv_iinc (v := x14) (lv' := [(3, .int x14), (0, .ref h), (1, .int x11), (2, .int x12)]) hx hb dX11_lookOf_52 hl (k := 3) rfl (by rw [ex14]; rfl) (by decide) rfl (fun ls hl => ?_)
          refine lv_goto (tgt := 7) hx hb dX11_lookOf_55 (by decide) ?_
          exact hw H locs ls hP hD hS (lv_sub hl [1, 2, 3, 0] rfl))
        refine lv_if_le (tgt := 52) hx hb dX11_lookOf_38 (by decide) (fun hc15 => ?_) (fun hc15 => ?_)
        · replace hw := hw.1 hc15
          exact hw H locs ls hP hD hS (lv_sub hl [1, 2, 3, 4] rfl)
        · replace hw := hw.2 hc15
          refine lv_iload hx hb dX11_lookOf_41 (lv_at hl 0 rfl) ?_
          refine lv_iload_n hx hb dX11_lookOf_43 rfl (lv_at hl 3 rfl) ?_
          refine lv_icmp_ge (tgt := 52) hx hb dX11_lookOf_44 (by decide) (fun hc16 => ?_) (fun hc16 => ?_)
          · replace hw := hw.1 hc16
            exact hw H locs ls hP hD hS (lv_sub hl [1, 2, 3, 4] rfl)
          · replace hw := hw.2 hc16
            refine lv_iload_n hx hb dX11_lookOf_47 rfl (lv_at hl 4 rfl) ?_
            refine lv_istore_n (lv' := [(1, .int x3), (4, .int x8), (0, .ref h), (2, .int x2), (3, .int x3)]) hx hb dX11_lookOf_48 rfl hl (by decide) rfl (fun ls hl => ?_)
            refine lv_iload hx hb dX11_lookOf_49 (lv_at hl 1 rfl) ?_
            refine lv_istore_n (lv' := [(2, .int x8), (1, .int x3), (4, .int x8), (0, .ref h), (3, .int x3)]) hx hb dX11_lookOf_51 rfl hl (by decide) rfl (fun ls hl => ?_)
            exact hw H locs ls hP hD hS (lv_sub hl [3, 1, 0, 4] rfl))
      refine lv_icmp_ne (tgt := 33) hx hb dX11_lookOf_22 (by decide) (fun hc17 => ?_) (fun hc17 => ?_)
      · replace hw := hw.1 hc17
        refine lv_iconst (v := 0) hx hb dX11_lookOf_33 (by decide) ?_
        exact hw H locs ls hP hD hS (lv_sub hl [0, 1, 2, 3] rfl)
      · replace hw := hw.2 hc17
        refine lv_aload_n hx hb dX11_lookOf_25 rfl (lv_at hl 0 rfl) ?_
        refine lv_iload_n hx hb dX11_lookOf_26 rfl (lv_at hl 3 rfl) ?_
        refine g_callVi (rest := []) (W2 := (MWu cI h q)) [.int x3] [0, 1, 2, 3, 4, 5, 6, 7, 8, 9, 10, 11, 12, 13] [] [0] [0, 1, 2, 3, 4, 5, 6, 7, 8, 9, 10, 11, 12, 13] g_Tb (fun _ _ _ _ => trivial) ⟨hx, hb, hml, hown, hts⟩ (t_X11_worstOf l dC dI cI h q H.size u4.1 (u4.2.1) u4.2.2 x3 _ hw) (cwV 1 hts gX11_lookOf_X11_worstOf rfl rfl rfl (by decide +kernel) ⟨Nat.le_of_ble_eq_true rfl, Nat.le_of_ble_eq_true rfl⟩) hK hP hD hS hA rfl (by decide) (wr := []) rfl (by decide) (by decide) rfl (fun _ => rfl) (by decide) (q0 := 0) rfl rfl rfl hl.1 (Nat.le_of_ble_eq_true rfl) dX11_lookOf_27 ⟨Nat.le_of_ble_eq_true rfl, Nat.le_of_ble_eq_true rfl⟩ (fun r19 u18 H locs hw hP hD hS => ?_)
        refine lv_goto (tgt := 34) hx hb dX11_lookOf_30 (by decide) ?_
        exact hw H locs ls hP hD hS (lv_sub hl [0, 1, 2, 3] rfl)

def w_X11_look (f : Nat → Int32) (g : Int64) (a : Nat → Nat → Int32)  (Q : Int32 → MSt → Prop) : Prop := w_X11_lacks f g a (fun (r2 : Int32) (u1 : MSt) => (((¬ r2 = 0) → Q (-103 : Int32) u1) ∧ (r2 = 0 → (((¬ (u1.1 17) = (20 : Int32)) → ∀ x5 : Int32, x5 = ((u1.1 17) + (1 : Int32)) → w_X11_lookOf (upd u1.1 17 x5) (u1.2.1) u1.2.2 (fun (r7 : Int32) (u6 : MSt) => Q r7 u6)) ∧ ((u1.1 17) = (20 : Int32) → Q (-103 : Int32) u1)))))
abbrev rmX11_look : Room := { frames := 6, cells := 0, slots := 0, locals := 136 }
set_option maxHeartbeats 4000000 in
set_option maxRecDepth 100000 in
theorem t_X11_look (l : Launch) (dC : Nat → ClassId) (dI : Nat → Nat → Nat) (cI : ClassId) (h : Nat) (q : Nat → Nat) (sz : Nat) (f : Nat → Int32) (g : Int64) (a : Nat → Nat → Int32)  (Q0 : Int32 → MSt → Prop) (hw : w_X11_look f g a  Q0) : Met l yX11_look wsX11_look rmX11_look (g_pre g_T (dC, dI) vwCl [(cI, .int)] (MW cI h q f g a) sz [.ref h]) (g_qi (dC, dI) vwCl [(cI, .int)] (MWu cI h q) Q0 (va_A (MW cI h q f g a) sz)) 0 0 (va_A (MW cI h q f g a) sz) := by
  refine g_starti (by decide) rfl (Nat.le_of_ble_eq_true rfl) ?_
  intro p e s m args below meth c A Q ls hx hb hml hown hts hin hK hP hD hA hS hZ hret hl
  obtain ⟨H, eH⟩ : ∃ H : Heap, H = s.heap := ⟨_, rfl⟩
  obtain ⟨locs, eL⟩ : ∃ L : List Loc, L = [] := ⟨_, rfl⟩
  have hS : va_S A s.heap H locs := by rw [eH, eL]; exact hS
  rw [← eH] at hP
  suffices hg : W p l e rmX11_look s m args below meth c H locs 0 0 Q (F0 m 0 ls []) by rw [eH, eL] at hg; exact hg
  clear eH eL
  replace hl : lv_has ls 1 [(0, .ref h)] := hl
  have hf207 := hts (.fieldLink RX11 207 "NumberPileModel" "looksDone" "I") (by decide +kernel)
  have hiX11 : ∀ w ∈ u_ws RX11 TX11 29, w ∈ wsX11_look := fun w h => List.mem_cons_of_mem _ (List.mem_append_right _ h)
  unfold w_X11_look at hw
  refine lv_aload_n hx hb dX11_look_0 rfl (lv_at hl 0 rfl) ?_
  refine g_callVi (rest := []) (W2 := (MWu cI h q)) [] [0, 1, 2, 3, 4, 5, 6, 7, 8, 9, 10, 11, 12, 13] [] [0] [0, 1, 2, 3, 4, 5, 6, 7, 8, 9, 10, 11, 12, 13] g_Tb (fun _ _ _ _ => trivial) ⟨hx, hb, hml, hown, hts⟩ (t_X11_lacks l dC dI cI h q H.size f g a _ hw) (cwV 0 hts gX11_look_X11_lacks rfl rfl rfl (by decide +kernel) ⟨Nat.le_of_ble_eq_true rfl, Nat.le_of_ble_eq_true rfl⟩) hK hP hD hS hA rfl (by decide) (wr := []) rfl (by decide) (by decide) rfl (fun _ => rfl) (by decide) (q0 := 0) rfl rfl rfl hl.1 (Nat.le_of_ble_eq_true rfl) dX11_look_1 ⟨Nat.le_of_ble_eq_true rfl, Nat.le_of_ble_eq_true rfl⟩ (fun r2 u1 H locs hw hP hD hS => ?_)
  refine lv_if_ne (tgt := 16) hx hb dX11_look_4 (by decide) (fun hc3 => ?_) (fun hc3 => ?_)
  · replace hw := hw.1 hc3
    refine lv_bipush (v := -103) hx hb dX11_look_16 (by decide) ?_
    exact hret dX11_look_18 hK hP hD hS hw
  · replace hw := hw.2 hc3
    refine lv_aload_n hx hb dX11_look_7 rfl (lv_at hl 0 rfl) ?_
    refine va_get (D := (dC, dI)) (ci := 13) (v := .int (u1.1 17)) (C := RX11) (T := TX11) (N := 29) hx hb hts hiX11 hown hK hP 0 rfl rfl 17 (by decide) hf207 (fun _ h9 => h9) rfl dX11_look_8 ?_
    refine lv_bipush (v := 20) hx hb dX11_look_11 (by decide) ?_
    refine lv_icmp_ne (tgt := 19) hx hb dX11_look_13 (by decide) (fun hc4 => ?_) (fun hc4 => ?_)
    · replace hw := hw.1 hc4
      refine lv_aload_n hx hb dX11_look_19 rfl (lv_at hl 0 rfl) ?_
      refine lv_dup hx hb dX11_look_20 rfl ?_
      refine va_get (D := (dC, dI)) (ci := 13) (v := .int (u1.1 17)) (C := RX11) (T := TX11) (N := 29) hx hb hts hiX11 hown hK hP 0 rfl rfl 17 (by decide) hf207 (fun _ h9 => h9) rfl dX11_look_21 ?_
      refine lv_iconst (v := 1) hx hb dX11_look_24 (by decide) ?_
      refine lv_iadd hx hb dX11_look_25 ?_
      refine lv_topi (fun x5 ex5 => ?_)
      replace hw := hw x5 ex5
      refine va_put (D := (dC, dI)) (ci := 13) (v := .int x5) (ty := (.int)) (C := RX11) (T := TX11) (N := 29) hx hb hts hiX11 tyX11 tyX11_ok nmX11 hown hK hP hD hS 0 rfl rfl 17 (by decide) hf207 (fun _ h9 => h9) rfl (by decide +kernel) rfl rfl (Nat.le_of_ble_eq_true rfl) dX11_look_26 (fun H locs hP hD hS => ?_)
      replace hP : va_P (dC, dI) vwCl (MW cI h q (upd u1.1 17 x5) (u1.2.1) u1.2.2) H := hP
      replace hD : va_D A (MW cI h q (upd u1.1 17 x5) (u1.2.1) u1.2.2) := hD
      refine lv_aload_n hx hb dX11_look_29 rfl (lv_at hl 0 rfl) ?_
      refine g_callVi (rest := []) (W2 := (MWu cI h q)) [] [0, 1, 2, 3, 4, 5, 6, 7, 8, 9, 10, 11, 12, 13] [] [0] [0, 1, 2, 3, 4, 5, 6, 7, 8, 9, 10, 11, 12, 13] g_Tb (fun _ _ _ _ => trivial) ⟨hx, hb, hml, hown, hts⟩ (t_X11_lookOf l dC dI cI h q H.size (upd u1.1 17 x5) (u1.2.1) u1.2.2 _ hw) (cwV 0 hts gX11_look_X11_lookOf rfl rfl rfl (by decide +kernel) ⟨Nat.le_of_ble_eq_true rfl, Nat.le_of_ble_eq_true rfl⟩) hK hP hD hS hA rfl (by decide) (wr := []) rfl (by decide) (by decide) rfl (fun _ => rfl) (by decide) (q0 := 0) rfl rfl rfl hl.1 (Nat.le_of_ble_eq_true rfl) dX11_look_30 ⟨Nat.le_of_ble_eq_true rfl, Nat.le_of_ble_eq_true rfl⟩ (fun r7 u6 H locs hw hP hD hS => ?_)
      exact hret dX11_look_33 hK hP hD hS hw
    · replace hw := hw.2 hc4
      refine lv_bipush (v := -103) hx hb dX11_look_16 (by decide) ?_
      exact hret dX11_look_18 hK hP hD hS hw

def w_X11_oddsOf (f : Nat → Int32) (g : Int64) (a : Nat → Nat → Int32) (p0 : Int32) (p1 : Int32) (p2 : Int32) (Q : Int32 → MSt → Prop) : Prop := (∀ X5 : Int32 → Int32 → Int32 → MSt → Prop, (∀ (x1 : Int32) (x2 : Int32) (x3 : Int32) (u4 : MSt), (w_X11_power (10 : Int32) (u4.1 6) (fun (r6 : Int32) => (((r6 ≤ x3) → (∀ X10 : Int32 → Int32 → Prop, (∀ (x8 : Int32) (x9 : Int32), ((((x9 ≤ 0) → (((¬ x1 = 0) → (((¬ p2 = 0) → (¬ x8 = 0) ∧ Q (x1 / x8) u4) ∧ (p2 = 0 → (¬ x8 = 0) ∧ Q (x2 / x8) u4))) ∧ (x1 = 0 → Q p2 u4))) ∧ (¬ (x9 ≤ 0) → (¬ x9 = 0) ∧ ∀ x17 : Int32, x17 = (x8 - x8 / x9 * x9) → X10 x9 x17))) → X10 x8 x9) → X10 x1 x2)) ∧ (¬ (r6 ≤ x3) → w_X11_isFit u4.1 (u4.2.1) u4.2.2 x3 (fun (r19 : Int32) (u18 : MSt) => ∀ J22 : Int32 → Int32 → Prop, (∀ (x20 : Int32) (x21 : Int32), (∀ x23 : Int32, x23 = x3 + (1 : Int32) → X5 x20 x21 x23 u18) → J22 x20 x21) → (((r19 = 0) → J22 x1 x2) ∧ (¬ (r19 = 0) → ∀ x25 : Int32, x25 = x1 + (1 : Int32) → (vp_in p0 10) ∧ ∀ J28 : Int32 → Prop, (∀ (x27 : Int32), (∀ x29 : Int32, x29 = (x2 + x27) → J22 x25 x29) → J28 x27) → (((¬ ((u18.2.2 13) p0.toNatClampNeg) = p1) → J28 (0 : Int32)) ∧ (((u18.2.2 13) p0.toNatClampNeg) = p1 → J28 (1 : Int32)))))))))) → X5 x1 x2 x3 u4) → X5 (0 : Int32) (0 : Int32) (0 : Int32) (f, g, a))
abbrev rmX11_oddsOf : Room := { frames := 4, cells := 0, slots := 0, locals := 89 }
set_option maxHeartbeats 4000000 in
set_option maxRecDepth 100000 in
theorem t_X11_oddsOf (l : Launch) (dC : Nat → ClassId) (dI : Nat → Nat → Nat) (cI : ClassId) (h : Nat) (q : Nat → Nat) (sz : Nat) (f : Nat → Int32) (g : Int64) (a : Nat → Nat → Int32) (p0 : Int32) (p1 : Int32) (p2 : Int32) (Q0 : Int32 → MSt → Prop) (hw : w_X11_oddsOf f g a p0 p1 p2 Q0) : Met l yX11_oddsOf wsX11_oddsOf rmX11_oddsOf (g_pre g_T (dC, dI) vwCl [(cI, .int)] (MW cI h q f g a) sz [.ref h, .int p0, .int p1, .int p2]) (g_qi (dC, dI) vwCl [(cI, .int)] (MWu cI h q) Q0 (va_A (MW cI h q f g a) sz)) 0 0 (va_A (MW cI h q f g a) sz) := by
  refine g_starti (by decide) rfl (Nat.le_of_ble_eq_true rfl) ?_
  intro p e s m args below meth c A Q ls hx hb hml hown hts hin hK hP hD hA hS hZ hret hl
  obtain ⟨H, eH⟩ : ∃ H : Heap, H = s.heap := ⟨_, rfl⟩
  obtain ⟨locs, eL⟩ : ∃ L : List Loc, L = [] := ⟨_, rfl⟩
  have hS : va_S A s.heap H locs := by rw [eH, eL]; exact hS
  rw [← eH] at hP
  suffices hg : W p l e rmX11_oddsOf s m args below meth c H locs 0 0 Q (F0 m 0 ls []) by rw [eH, eL] at hg; exact hg
  clear eH eL
  replace hl : lv_has ls 9 [(0, .ref h), (1, .int p0), (2, .int p1), (3, .int p2)] := hl
  have hf97 := hts (.fieldLink RX11 97 "NumberPileModel" "wide" "I") (by decide +kernel)
  have hiX11 : ∀ w ∈ u_ws RX11 TX11 29, w ∈ wsX11_oddsOf := fun w h => List.mem_cons_of_mem _ (List.mem_append_right _ h)
  have hf25 := hts (.fieldLink RX11 25 "NumberPileModel" "values" "[I") (by decide +kernel)
  unfold w_X11_oddsOf at hw
  refine lv_iconst (v := 0) hx hb dX11_oddsOf_0 (by decide) ?_
  refine lv_istore (lv' := [(4, .int (0 : Int32)), (0, .ref h), (1, .int p0), (2, .int p1), (3, .int p2)]) hx hb dX11_oddsOf_1 hl (by decide) rfl (fun ls hl => ?_)
  refine lv_iconst (v := 0) hx hb dX11_oddsOf_3 (by decide) ?_
  refine lv_istore (lv' := [(5, .int (0 : Int32)), (4, .int (0 : Int32)), (0, .ref h), (1, .int p0), (2, .int p1), (3, .int p2)]) hx hb dX11_oddsOf_4 hl (by decide) rfl (fun ls hl => ?_)
  refine lv_iconst (v := 0) hx hb dX11_oddsOf_6 (by decide) ?_
  refine lv_istore (lv' := [(6, .int (0 : Int32)), (5, .int (0 : Int32)), (4, .int (0 : Int32)), (0, .ref h), (1, .int p0), (2, .int p1), (3, .int p2)]) hx hb dX11_oddsOf_7 hl (by decide) rfl (fun ls hl => ?_)
  refine hw (fun (x1 : Int32) (x2 : Int32) (x3 : Int32) (u4 : MSt) => ∀ (H : Heap) (locs : List Loc) (ls : Array Slot), va_P (dC, dI) vwCl (MW cI h q u4.1 (u4.2.1) u4.2.2) H → va_D A (MW cI h q u4.1 (u4.2.1) u4.2.2) → va_S A s.heap H locs → lv_has ls 9 [(0, .ref h), (1, .int p0), (2, .int p1), (3, .int p2), (4, .int x1), (5, .int x2), (6, .int x3)] → W p l e rmX11_oddsOf s m args below meth c H locs 0 0 Q (F0 m 9 ls [])) ?_ H locs ls hP hD hS (lv_sub hl [3, 4, 5, 6, 2, 1, 0] rfl)
  · intro x1 x2 x3 u4 hw H locs ls hP hD hS hl
    refine lv_iload hx hb dX11_oddsOf_9 (lv_at hl 6 rfl) ?_
    refine lv_bipush (v := 10) hx hb dX11_oddsOf_11 (by decide) ?_
    refine lv_aload_n hx hb dX11_oddsOf_13 rfl (lv_at hl 0 rfl) ?_
    refine va_get (D := (dC, dI)) (ci := 13) (v := .int (u4.1 6)) (C := RX11) (T := TX11) (N := 29) hx hb hts hiX11 hown hK hP 0 rfl rfl 6 (by decide) hf97 (fun _ h9 => h9) rfl dX11_oddsOf_14 ?_
    refine g_callP (rest := [.int x3]) [.int (10 : Int32), .int (u4.1 6)] ⟨hx, hb, hml, hown, hts⟩ (t_X11_power l (10 : Int32) (u4.1 6) _ hw) (va_cwS 2 hts gX11_oddsOf_X11_power rfl rfl rfl (by decide +kernel) ⟨Nat.le_of_ble_eq_true rfl, Nat.le_of_ble_eq_true rfl⟩) rfl hl.1 (Nat.le_of_ble_eq_true rfl) dX11_oddsOf_17 ⟨Nat.le_of_ble_eq_true rfl, Nat.le_of_ble_eq_true rfl⟩ (fun r6 hw => ?_)
    refine lv_icmp_ge (tgt := 61) hx hb dX11_oddsOf_20 (by decide) (fun hc7 => ?_) (fun hc7 => ?_)
    · replace hw := hw.1 hc7
      refine lv_iload hx hb dX11_oddsOf_61 (lv_at hl 4 rfl) ?_
      refine lv_istore (lv' := [(6, .int x1), (0, .ref h), (1, .int p0), (2, .int p1), (3, .int p2), (4, .int x1), (5, .int x2)]) hx hb dX11_oddsOf_63 hl (by decide) rfl (fun ls hl => ?_)
      refine lv_iload hx hb dX11_oddsOf_65 (lv_at hl 6 rfl) ?_
      refine lv_istore (lv' := [(7, .int x2), (6, .int x1), (0, .ref h), (1, .int p0), (2, .int p1), (3, .int p2), (4, .int x1), (5, .int x2)]) hx hb dX11_oddsOf_67 hl (by decide) rfl (fun ls hl => ?_)
      refine hw (fun (x8 : Int32) (x9 : Int32) => ∀ (H : Heap) (locs : List Loc) (ls : Array Slot), va_P (dC, dI) vwCl (MW cI h q u4.1 (u4.2.1) u4.2.2) H → va_D A (MW cI h q u4.1 (u4.2.1) u4.2.2) → va_S A s.heap H locs → lv_has ls 9 [(3, .int p2), (4, .int x1), (5, .int x2), (6, .int x8), (7, .int x9)] → W p l e rmX11_oddsOf s m args below meth c H locs 0 0 Q (F0 m 69 ls [])) ?_ H locs ls hP hD hS (lv_sub hl [5, 6, 7, 1, 0] rfl)
      · intro x8 x9 hw H locs ls hP hD hS hl
        refine lv_iload hx hb dX11_oddsOf_69 (lv_at hl 4 rfl) ?_
        refine lv_if_le (tgt := 92) hx hb dX11_oddsOf_71 (by decide) (fun hc11 => ?_) (fun hc11 => ?_)
        · replace hw := hw.1 hc11
          refine lv_iload hx hb dX11_oddsOf_92 (lv_at hl 1 rfl) ?_
          refine lv_if_ne (tgt := 101) hx hb dX11_oddsOf_94 (by decide) (fun hc12 => ?_) (fun hc12 => ?_)
          · replace hw := hw.1 hc12
            refine lv_iload_n hx hb dX11_oddsOf_101 rfl (lv_at hl 0 rfl) ?_
            refine lv_if_ne (tgt := 113) hx hb dX11_oddsOf_102 (by decide) (fun hc13 => ?_) (fun hc13 => ?_)
            · replace hw := hw.1 hc13
              refine lv_iload hx hb dX11_oddsOf_113 (lv_at hl 1 rfl) ?_
              refine lv_iload hx hb dX11_oddsOf_115 (lv_at hl 3 rfl) ?_
              obtain ⟨hn14, hw⟩ := hw
              refine lv_idiv hx hb dX11_oddsOf_117 hn14 ?_
              exact hret dX11_oddsOf_118 hK hP hD hS hw
            · replace hw := hw.2 hc13
              refine lv_iload hx hb dX11_oddsOf_105 (lv_at hl 2 rfl) ?_
              refine lv_iload hx hb dX11_oddsOf_107 (lv_at hl 3 rfl) ?_
              obtain ⟨hn15, hw⟩ := hw
              refine lv_idiv hx hb dX11_oddsOf_109 hn15 ?_
              refine lv_goto (tgt := 118) hx hb dX11_oddsOf_110 (by decide) ?_
              exact hret dX11_oddsOf_118 hK hP hD hS hw
          · replace hw := hw.2 hc12
            refine lv_iload_n hx hb dX11_oddsOf_97 rfl (lv_at hl 0 rfl) ?_
            refine lv_goto (tgt := 118) hx hb dX11_oddsOf_98 (by decide) ?_
            exact hret dX11_oddsOf_118 hK hP hD hS hw
        · replace hw := hw.2 hc11
          refine lv_iload hx hb dX11_oddsOf_74 (lv_at hl 3 rfl) ?_
          refine lv_iload hx hb dX11_oddsOf_76 (lv_at hl 4 rfl) ?_
          obtain ⟨hn16, hw⟩ := hw
          refine lv_irem hx hb dX11_oddsOf_78 hn16 ?_
          refine lv_topi (fun x17 ex17 => ?_)
          replace hw := hw x17 ex17
          refine lv_istore (lv' := [(8, .int x17), (3, .int p2), (4, .int x1), (5, .int x2), (6, .int x8), (7, .int x9)]) hx hb dX11_oddsOf_79 hl (by decide) rfl (fun ls hl => ?_)
          refine lv_iload hx hb dX11_oddsOf_81 (lv_at hl 5 rfl) ?_
          refine lv_istore (lv' := [(6, .int x9), (8, .int x17), (3, .int p2), (4, .int x1), (5, .int x2), (7, .int x9)]) hx hb dX11_oddsOf_83 hl (by decide) rfl (fun ls hl => ?_)
          refine lv_iload hx hb dX11_oddsOf_85 (lv_at hl 1 rfl) ?_
          refine lv_istore (lv' := [(7, .int x17), (6, .int x9), (8, .int x17), (3, .int p2), (4, .int x1), (5, .int x2)]) hx hb dX11_oddsOf_87 hl (by decide) rfl (fun ls hl => ?_)
          refine lv_goto (tgt := 69) hx hb dX11_oddsOf_89 (by decide) ?_
          exact hw H locs ls hP hD hS (lv_sub hl [3, 4, 5, 1, 0] rfl)
    · replace hw := hw.2 hc7
      refine lv_aload_n hx hb dX11_oddsOf_23 rfl (lv_at hl 0 rfl) ?_
      refine lv_iload hx hb dX11_oddsOf_24 (lv_at hl 6 rfl) ?_
      refine g_callVi (rest := []) (W2 := (MWu cI h q)) [.int x3] [0, 1, 2, 3, 4, 5, 6, 7, 8, 9, 10, 11, 12, 13] [] [0] [0, 1, 2, 3, 4, 5, 6, 7, 8, 9, 10, 11, 12, 13] g_Tb (fun _ _ _ _ => trivial) ⟨hx, hb, hml, hown, hts⟩ (t_X11_isFit l dC dI cI h q H.size u4.1 (u4.2.1) u4.2.2 x3 _ hw) (cwV 1 hts gX11_oddsOf_X11_isFit rfl rfl rfl (by decide +kernel) ⟨Nat.le_of_ble_eq_true rfl, Nat.le_of_ble_eq_true rfl⟩) hK hP hD hS hA rfl (by decide) (wr := []) rfl (by decide) (by decide) rfl (fun _ => rfl) (by decide) (q0 := 0) rfl rfl rfl hl.1 (Nat.le_of_ble_eq_true rfl) dX11_oddsOf_26 ⟨Nat.le_of_ble_eq_true rfl, Nat.le_of_ble_eq_true rfl⟩ (fun r19 u18 H locs hw hP hD hS => ?_)
      replace hw := hw (fun (x20 : Int32) (x21 : Int32) => ∀ (H : Heap) (locs : List Loc) (ls : Array Slot), va_P (dC, dI) vwCl (MW cI h q u18.1 (u18.2.1) u18.2.2) H → va_D A (MW cI h q u18.1 (u18.2.1) u18.2.2) → va_S A s.heap H locs → lv_has ls 9 [(0, .ref h), (1, .int p0), (2, .int p1), (3, .int p2), (4, .int x20), (5, .int x21), (6, .int x3)] → W p l e rmX11_oddsOf s m args below meth c H locs 0 0 Q (F0 m 55 ls [])) (by
        intro x20 x21 hw H locs ls hP hD hS hl
        obtain ⟨x23, ex23⟩ : ∃ y : Int32, y = x3 + (1 : Int32) := ⟨_, rfl⟩
        replace hw := hw x23 ex23
        refine lv_iinc (v := x23) (lv' := [(6, .int x23), (0, .ref h), (1, .int p0), (2, .int p1), (3, .int p2), (4, .int x20), (5, .int x21)]) hx hb dX11_oddsOf_55 hl (k := 6) rfl (by rw [ex23]; rfl) (by decide) rfl (fun ls hl => ?_)
        refine lv_goto (tgt := 9) hx hb dX11_oddsOf_58 (by decide) ?_
        exact hw H locs ls hP hD hS (lv_sub hl [1, 2, 3, 4, 5, 6, 0] rfl))
      refine lv_if_eq (tgt := 55) hx hb dX11_oddsOf_29 (by decide) (fun hc24 => ?_) (fun hc24 => ?_)
      · replace hw := hw.1 hc24
        exact hw H locs ls hP hD hS (lv_sub hl [0, 1, 2, 3, 4, 5, 6] rfl)
      · replace hw := hw.2 hc24
        obtain ⟨x25, ex25⟩ : ∃ y : Int32, y = x1 + (1 : Int32) := ⟨_, rfl⟩
        replace hw := hw x25 ex25
        refine lv_iinc (v := x25) (lv' := [(4, .int x25), (0, .ref h), (1, .int p0), (2, .int p1), (3, .int p2), (5, .int x2), (6, .int x3)]) hx hb dX11_oddsOf_32 hl (k := 4) rfl (by rw [ex25]; rfl) (by decide) rfl (fun ls hl => ?_)
        refine lv_iload hx hb dX11_oddsOf_35 (lv_at hl 5 rfl) ?_
        refine lv_aload_n hx hb dX11_oddsOf_37 rfl (lv_at hl 1 rfl) ?_
        refine va_get (D := (dC, dI)) (ci := 13) (v := .ref (q 13)) (C := RX11) (T := TX11) (N := 29) hx hb hts hiX11 hown hK hP 0 rfl rfl 13 (by decide) hf25 (fun _ h9 => h9) rfl dX11_oddsOf_38 ?_
        refine lv_iload_n hx hb dX11_oddsOf_41 rfl (lv_at hl 2 rfl) ?_
        obtain ⟨hb26, hw⟩ := hw
        refine va_iald hx hb hK hP 6 0 rfl rfl hb26 dX11_oddsOf_42 ?_
        refine lv_iload_n hx hb dX11_oddsOf_43 rfl (lv_at hl 3 rfl) ?_
        replace hw := hw (fun (x27 : Int32) => ∀ (H : Heap) (locs : List Loc) (ls : Array Slot), va_P (dC, dI) vwCl (MW cI h q u18.1 (u18.2.1) u18.2.2) H → va_D A (MW cI h q u18.1 (u18.2.1) u18.2.2) → va_S A s.heap H locs → lv_has ls 9 [(0, .ref h), (1, .int p0), (2, .int p1), (3, .int p2), (4, .int x25), (6, .int x3)] → W p l e rmX11_oddsOf s m args below meth c H locs 0 0 Q (F0 m 52 ls [.int x27, .int x2])) (by
          intro x27 hw H locs ls hP hD hS hl
          refine lv_iadd hx hb dX11_oddsOf_52 ?_
          refine lv_topi (fun x29 ex29 => ?_)
          replace hw := hw x29 ex29
          refine lv_istore (lv' := [(5, .int x29), (0, .ref h), (1, .int p0), (2, .int p1), (3, .int p2), (4, .int x25), (6, .int x3)]) hx hb dX11_oddsOf_53 hl (by decide) rfl (fun ls hl => ?_)
          exact hw H locs ls hP hD hS (lv_sub hl [1, 2, 3, 4, 5, 0, 6] rfl))
        refine lv_icmp_ne (tgt := 51) hx hb dX11_oddsOf_44 (by decide) (fun hc30 => ?_) (fun hc30 => ?_)
        · replace hw := hw.1 hc30
          refine lv_iconst (v := 0) hx hb dX11_oddsOf_51 (by decide) ?_
          exact hw H locs ls hP hD hS (lv_sub hl [1, 2, 3, 4, 0, 6] rfl)
        · replace hw := hw.2 hc30
          refine lv_iconst (v := 1) hx hb dX11_oddsOf_47 (by decide) ?_
          refine lv_goto (tgt := 52) hx hb dX11_oddsOf_48 (by decide) ?_
          exact hw H locs ls hP hD hS (lv_sub hl [1, 2, 3, 4, 0, 6] rfl)

def w_X11_odds (f : Nat → Int32) (g : Int64) (a : Nat → Nat → Int32) (p0 : Int32) (p1 : Int32) (p2 : Int32) (Q : Int32 → MSt → Prop) : Prop := w_X11_isFigure f g a p0 (fun (r2 : Int32) (u1 : MSt) => (((¬ r2 = 0) → w_X11_in (p1.toInt64) (0 : Int64) (9 : Int64) (fun (r4 : Int32) => (((r4 = 0) → Q (-102 : Int32) u1) ∧ (¬ (r4 = 0) → w_X11_in (p2.toInt64) (0 : Int64) (1 : Int64) (fun (r6 : Int32) => (((r6 = 0) → Q (-102 : Int32) u1) ∧ (¬ (r6 = 0) → w_X11_oddsOf u1.1 (u1.2.1) u1.2.2 p0 p1 p2 (fun (r9 : Int32) (u8 : MSt) => Q r9 u8)))))))) ∧ (r2 = 0 → Q (-101 : Int32) u1)))
abbrev rmX11_odds : Room := { frames := 5, cells := 0, slots := 0, locals := 117 }
set_option maxHeartbeats 4000000 in
set_option maxRecDepth 100000 in
theorem t_X11_odds (l : Launch) (dC : Nat → ClassId) (dI : Nat → Nat → Nat) (cI : ClassId) (h : Nat) (q : Nat → Nat) (sz : Nat) (f : Nat → Int32) (g : Int64) (a : Nat → Nat → Int32) (p0 : Int32) (p1 : Int32) (p2 : Int32) (Q0 : Int32 → MSt → Prop) (hw : w_X11_odds f g a p0 p1 p2 Q0) : Met l yX11_odds wsX11_odds rmX11_odds (g_pre g_T (dC, dI) vwCl [(cI, .int)] (MW cI h q f g a) sz [.ref h, .int p0, .int p1, .int p2]) (g_qi (dC, dI) vwCl [(cI, .int)] (MWu cI h q) Q0 (va_A (MW cI h q f g a) sz)) 0 0 (va_A (MW cI h q f g a) sz) := by
  refine g_starti (by decide) rfl (Nat.le_of_ble_eq_true rfl) ?_
  intro p e s m args below meth c A Q ls hx hb hml hown hts hin hK hP hD hA hS hZ hret hl
  obtain ⟨H, eH⟩ : ∃ H : Heap, H = s.heap := ⟨_, rfl⟩
  obtain ⟨locs, eL⟩ : ∃ L : List Loc, L = [] := ⟨_, rfl⟩
  have hS : va_S A s.heap H locs := by rw [eH, eL]; exact hS
  rw [← eH] at hP
  suffices hg : W p l e rmX11_odds s m args below meth c H locs 0 0 Q (F0 m 0 ls []) by rw [eH, eL] at hg; exact hg
  clear eH eL
  replace hl : lv_has ls 4 [(0, .ref h), (1, .int p0), (2, .int p1), (3, .int p2)] := hl
  have kc150 := hts (.constantLong RX11 150 (9)) (by decide +kernel)
  unfold w_X11_odds at hw
  refine lv_aload_n hx hb dX11_odds_0 rfl (lv_at hl 0 rfl) ?_
  refine lv_iload_n hx hb dX11_odds_1 rfl (lv_at hl 1 rfl) ?_
  refine g_callVi (rest := []) (W2 := (MWu cI h q)) [.int p0] [0, 1, 2, 3, 4, 5, 6, 7, 8, 9, 10, 11, 12, 13] [] [0] [0, 1, 2, 3, 4, 5, 6, 7, 8, 9, 10, 11, 12, 13] g_Tb (fun _ _ _ _ => trivial) ⟨hx, hb, hml, hown, hts⟩ (t_X11_isFigure l dC dI cI h q H.size f g a p0 _ hw) (cwV 1 hts gX11_odds_X11_isFigure rfl rfl rfl (by decide +kernel) ⟨Nat.le_of_ble_eq_true rfl, Nat.le_of_ble_eq_true rfl⟩) hK hP hD hS hA rfl (by decide) (wr := []) rfl (by decide) (by decide) rfl (fun _ => rfl) (by decide) (q0 := 0) rfl rfl rfl hl.1 (Nat.le_of_ble_eq_true rfl) dX11_odds_2 ⟨Nat.le_of_ble_eq_true rfl, Nat.le_of_ble_eq_true rfl⟩ (fun r2 u1 H locs hw hP hD hS => ?_)
  refine lv_if_ne (tgt := 11) hx hb dX11_odds_5 (by decide) (fun hc3 => ?_) (fun hc3 => ?_)
  · replace hw := hw.1 hc3
    refine lv_iload_n hx hb dX11_odds_11 rfl (lv_at hl 2 rfl) ?_
    refine lv_i2l hx hb dX11_odds_12 rfl ?_
    refine lv_lconst (v := 0) hx hb dX11_odds_13 (by decide) ?_
    refine lv_ldc2 hx hb hown kc150 dX11_odds_14 ?_
    refine g_callP (rest := []) [.long (p1.toInt64), .long (0 : Int64), .long (9 : Int64)] ⟨hx, hb, hml, hown, hts⟩ (t_X11_in l (p1.toInt64) (0 : Int64) (9 : Int64) _ hw) (va_cwS 3 hts gX11_odds_X11_in rfl rfl rfl (by decide +kernel) ⟨Nat.le_of_ble_eq_true rfl, Nat.le_of_ble_eq_true rfl⟩) rfl hl.1 (Nat.le_of_ble_eq_true rfl) dX11_odds_17 ⟨Nat.le_of_ble_eq_true rfl, Nat.le_of_ble_eq_true rfl⟩ (fun r4 hw => ?_)
    refine lv_if_eq (tgt := 43) hx hb dX11_odds_20 (by decide) (fun hc5 => ?_) (fun hc5 => ?_)
    · replace hw := hw.1 hc5
      refine lv_bipush (v := -102) hx hb dX11_odds_43 (by decide) ?_
      exact hret dX11_odds_45 hK hP hD hS hw
    · replace hw := hw.2 hc5
      refine lv_iload_n hx hb dX11_odds_23 rfl (lv_at hl 3 rfl) ?_
      refine lv_i2l hx hb dX11_odds_24 rfl ?_
      refine lv_lconst (v := 0) hx hb dX11_odds_25 (by decide) ?_
      refine lv_lconst (v := 1) hx hb dX11_odds_26 (by decide) ?_
      refine g_callP (rest := []) [.long (p2.toInt64), .long (0 : Int64), .long (1 : Int64)] ⟨hx, hb, hml, hown, hts⟩ (t_X11_in l (p2.toInt64) (0 : Int64) (1 : Int64) _ hw) (va_cwS 3 hts gX11_odds_X11_in rfl rfl rfl (by decide +kernel) ⟨Nat.le_of_ble_eq_true rfl, Nat.le_of_ble_eq_true rfl⟩) rfl hl.1 (Nat.le_of_ble_eq_true rfl) dX11_odds_27 ⟨Nat.le_of_ble_eq_true rfl, Nat.le_of_ble_eq_true rfl⟩ (fun r6 hw => ?_)
      refine lv_if_eq (tgt := 43) hx hb dX11_odds_30 (by decide) (fun hc7 => ?_) (fun hc7 => ?_)
      · replace hw := hw.1 hc7
        refine lv_bipush (v := -102) hx hb dX11_odds_43 (by decide) ?_
        exact hret dX11_odds_45 hK hP hD hS hw
      · replace hw := hw.2 hc7
        refine lv_aload_n hx hb dX11_odds_33 rfl (lv_at hl 0 rfl) ?_
        refine lv_iload_n hx hb dX11_odds_34 rfl (lv_at hl 1 rfl) ?_
        refine lv_iload_n hx hb dX11_odds_35 rfl (lv_at hl 2 rfl) ?_
        refine lv_iload_n hx hb dX11_odds_36 rfl (lv_at hl 3 rfl) ?_
        refine g_callVi (rest := []) (W2 := (MWu cI h q)) [.int p0, .int p1, .int p2] [0, 1, 2, 3, 4, 5, 6, 7, 8, 9, 10, 11, 12, 13] [] [0] [0, 1, 2, 3, 4, 5, 6, 7, 8, 9, 10, 11, 12, 13] g_Tb (fun _ _ _ _ => trivial) ⟨hx, hb, hml, hown, hts⟩ (t_X11_oddsOf l dC dI cI h q H.size u1.1 (u1.2.1) u1.2.2 p0 p1 p2 _ hw) (cwV 3 hts gX11_odds_X11_oddsOf rfl rfl rfl (by decide +kernel) ⟨Nat.le_of_ble_eq_true rfl, Nat.le_of_ble_eq_true rfl⟩) hK hP hD hS hA rfl (by decide) (wr := []) rfl (by decide) (by decide) rfl (fun _ => rfl) (by decide) (q0 := 0) rfl rfl rfl hl.1 (Nat.le_of_ble_eq_true rfl) dX11_odds_37 ⟨Nat.le_of_ble_eq_true rfl, Nat.le_of_ble_eq_true rfl⟩ (fun r9 u8 H locs hw hP hD hS => ?_)
        refine lv_goto (tgt := 45) hx hb dX11_odds_40 (by decide) ?_
        exact hret dX11_odds_45 hK hP hD hS hw
  · replace hw := hw.2 hc3
    refine lv_bipush (v := -101) hx hb dX11_odds_8 (by decide) ?_
    exact hret dX11_odds_10 hK hP hD hS hw

def w_X11_see (f : Nat → Int32) (g : Int64) (a : Nat → Nat → Int32) (p0 : Int32) (p1 : Int32) (p2 : Int32) (p3 : Int32) (Q : Int32 → MSt → Prop) : Prop := w_X11_isUpper f g a p0 (fun (r2 : Int32) (u1 : MSt) => (((¬ r2 = 0) → w_X11_in (p1.toInt64) (0 : Int64) (9 : Int64) (fun (r4 : Int32) => (((r4 = 0) → Q (-102 : Int32) u1) ∧ (¬ (r4 = 0) → w_X11_in (p2.toInt64) (0 : Int64) (9 : Int64) (fun (r6 : Int32) => (((r6 = 0) → Q (-102 : Int32) u1) ∧ (¬ (r6 = 0) → w_X11_in (p3.toInt64) (0 : Int64) (30 : Int64) (fun (r8 : Int32) => (((¬ r8 = 0) → (((¬ (u1.1 18) = (6 : Int32)) → (vp_in ((4 : Int32) * (u1.1 18)) 24) ∧ ∀ z13 : Nat → Int32, z13 = (upd (u1.2.2 19) ((4 : Int32) * (u1.1 18)).toNatClampNeg p0) → (vp_in (((4 : Int32) * (u1.1 18)) + (1 : Int32)) 24) ∧ ∀ z15 : Nat → Int32, z15 = (upd z13 (((4 : Int32) * (u1.1 18)) + (1 : Int32)).toNatClampNeg p1) → (vp_in (((4 : Int32) * (u1.1 18)) + (2 : Int32)) 24) ∧ ∀ z17 : Nat → Int32, z17 = (upd z15 (((4 : Int32) * (u1.1 18)) + (2 : Int32)).toNatClampNeg p2) → (vp_in (((4 : Int32) * (u1.1 18)) + (3 : Int32)) 24) ∧ ∀ x18 : Int32, x18 = ((u1.1 18) + (1 : Int32)) → Q x18 ((upd u1.1 18 x18), u1.2.1, (va_up u1.2.2 19 (upd z17 (((4 : Int32) * (u1.1 18)) + (3 : Int32)).toNatClampNeg p3)))) ∧ ((u1.1 18) = (6 : Int32) → Q (-104 : Int32) u1))) ∧ (r8 = 0 → Q (-102 : Int32) u1)))))))))) ∧ (r2 = 0 → Q (-101 : Int32) u1)))
abbrev rmX11_see : Room := { frames := 2, cells := 0, slots := 0, locals := 46 }
set_option maxHeartbeats 4000000 in
set_option maxRecDepth 100000 in
theorem t_X11_see (l : Launch) (dC : Nat → ClassId) (dI : Nat → Nat → Nat) (cI : ClassId) (h : Nat) (q : Nat → Nat) (sz : Nat) (f : Nat → Int32) (g : Int64) (a : Nat → Nat → Int32) (p0 : Int32) (p1 : Int32) (p2 : Int32) (p3 : Int32) (Q0 : Int32 → MSt → Prop) (hw : w_X11_see f g a p0 p1 p2 p3 Q0) : Met l yX11_see wsX11_see rmX11_see (g_pre g_T (dC, dI) vwCl [(cI, .int)] (MW cI h q f g a) sz [.ref h, .int p0, .int p1, .int p2, .int p3]) (g_qi (dC, dI) vwCl [(cI, .int)] (MWu cI h q) Q0 (va_A (MW cI h q f g a) sz)) 0 0 (va_A (MW cI h q f g a) sz) := by
  refine g_starti (by decide) rfl (Nat.le_of_ble_eq_true rfl) ?_
  intro p e s m args below meth c A Q ls hx hb hml hown hts hin hK hP hD hA hS hZ hret hl
  obtain ⟨H, eH⟩ : ∃ H : Heap, H = s.heap := ⟨_, rfl⟩
  obtain ⟨locs, eL⟩ : ∃ L : List Loc, L = [] := ⟨_, rfl⟩
  have hS : va_S A s.heap H locs := by rw [eH, eL]; exact hS
  rw [← eH] at hP
  suffices hg : W p l e rmX11_see s m args below meth c H locs 0 0 Q (F0 m 0 ls []) by rw [eH, eL] at hg; exact hg
  clear eH eL
  replace hl : lv_has ls 5 [(0, .ref h), (1, .int p0), (2, .int p1), (3, .int p2), (4, .int p3)] := hl
  have kc150 := hts (.constantLong RX11 150 (9)) (by decide +kernel)
  have kc216 := hts (.constantLong RX11 216 (30)) (by decide +kernel)
  have hf113 := hts (.fieldLink RX11 113 "NumberPileModel" "seenMany" "I") (by decide +kernel)
  have hiX11 : ∀ w ∈ u_ws RX11 TX11 29, w ∈ wsX11_see := fun w h => List.mem_cons_of_mem _ (List.mem_append_right _ h)
  have hf34 := hts (.fieldLink RX11 34 "NumberPileModel" "sights" "[I") (by decide +kernel)
  unfold w_X11_see at hw
  refine lv_aload_n hx hb dX11_see_0 rfl (lv_at hl 0 rfl) ?_
  refine lv_iload_n hx hb dX11_see_1 rfl (lv_at hl 1 rfl) ?_
  refine g_callVi (rest := []) (W2 := (MWu cI h q)) [.int p0] [0, 1, 2, 3, 4, 5, 6, 7, 8, 9, 10, 11, 12, 13] [] [0] [0, 1, 2, 3, 4, 5, 6, 7, 8, 9, 10, 11, 12, 13] g_Tb (fun _ _ _ _ => trivial) ⟨hx, hb, hml, hown, hts⟩ (t_X11_isUpper l dC dI cI h q H.size f g a p0 _ hw) (cwV 1 hts gX11_see_X11_isUpper rfl rfl rfl (by decide +kernel) ⟨Nat.le_of_ble_eq_true rfl, Nat.le_of_ble_eq_true rfl⟩) hK hP hD hS hA rfl (by decide) (wr := []) rfl (by decide) (by decide) rfl (fun _ => rfl) (by decide) (q0 := 0) rfl rfl rfl hl.1 (Nat.le_of_ble_eq_true rfl) dX11_see_2 ⟨Nat.le_of_ble_eq_true rfl, Nat.le_of_ble_eq_true rfl⟩ (fun r2 u1 H locs hw hP hD hS => ?_)
  refine lv_if_ne (tgt := 11) hx hb dX11_see_5 (by decide) (fun hc3 => ?_) (fun hc3 => ?_)
  · replace hw := hw.1 hc3
    refine lv_iload_n hx hb dX11_see_11 rfl (lv_at hl 2 rfl) ?_
    refine lv_i2l hx hb dX11_see_12 rfl ?_
    refine lv_lconst (v := 0) hx hb dX11_see_13 (by decide) ?_
    refine lv_ldc2 hx hb hown kc150 dX11_see_14 ?_
    refine g_callP (rest := []) [.long (p1.toInt64), .long (0 : Int64), .long (9 : Int64)] ⟨hx, hb, hml, hown, hts⟩ (t_X11_in l (p1.toInt64) (0 : Int64) (9 : Int64) _ hw) (va_cwS 3 hts gX11_see_X11_in rfl rfl rfl (by decide +kernel) ⟨Nat.le_of_ble_eq_true rfl, Nat.le_of_ble_eq_true rfl⟩) rfl hl.1 (Nat.le_of_ble_eq_true rfl) dX11_see_17 ⟨Nat.le_of_ble_eq_true rfl, Nat.le_of_ble_eq_true rfl⟩ (fun r4 hw => ?_)
    refine lv_if_eq (tgt := 48) hx hb dX11_see_20 (by decide) (fun hc5 => ?_) (fun hc5 => ?_)
    · replace hw := hw.1 hc5
      refine lv_bipush (v := -102) hx hb dX11_see_48 (by decide) ?_
      exact hret dX11_see_50 hK hP hD hS hw
    · replace hw := hw.2 hc5
      refine lv_iload_n hx hb dX11_see_23 rfl (lv_at hl 3 rfl) ?_
      refine lv_i2l hx hb dX11_see_24 rfl ?_
      refine lv_lconst (v := 0) hx hb dX11_see_25 (by decide) ?_
      refine lv_ldc2 hx hb hown kc150 dX11_see_26 ?_
      refine g_callP (rest := []) [.long (p2.toInt64), .long (0 : Int64), .long (9 : Int64)] ⟨hx, hb, hml, hown, hts⟩ (t_X11_in l (p2.toInt64) (0 : Int64) (9 : Int64) _ hw) (va_cwS 3 hts gX11_see_X11_in rfl rfl rfl (by decide +kernel) ⟨Nat.le_of_ble_eq_true rfl, Nat.le_of_ble_eq_true rfl⟩) rfl hl.1 (Nat.le_of_ble_eq_true rfl) dX11_see_29 ⟨Nat.le_of_ble_eq_true rfl, Nat.le_of_ble_eq_true rfl⟩ (fun r6 hw => ?_)
      refine lv_if_eq (tgt := 48) hx hb dX11_see_32 (by decide) (fun hc7 => ?_) (fun hc7 => ?_)
      · replace hw := hw.1 hc7
        refine lv_bipush (v := -102) hx hb dX11_see_48 (by decide) ?_
        exact hret dX11_see_50 hK hP hD hS hw
      · replace hw := hw.2 hc7
        refine lv_iload hx hb dX11_see_35 (lv_at hl 4 rfl) ?_
        refine lv_i2l hx hb dX11_see_37 rfl ?_
        refine lv_lconst (v := 0) hx hb dX11_see_38 (by decide) ?_
        refine lv_ldc2 hx hb hown kc216 dX11_see_39 ?_
        refine g_callP (rest := []) [.long (p3.toInt64), .long (0 : Int64), .long (30 : Int64)] ⟨hx, hb, hml, hown, hts⟩ (t_X11_in l (p3.toInt64) (0 : Int64) (30 : Int64) _ hw) (va_cwS 3 hts gX11_see_X11_in rfl rfl rfl (by decide +kernel) ⟨Nat.le_of_ble_eq_true rfl, Nat.le_of_ble_eq_true rfl⟩) rfl hl.1 (Nat.le_of_ble_eq_true rfl) dX11_see_42 ⟨Nat.le_of_ble_eq_true rfl, Nat.le_of_ble_eq_true rfl⟩ (fun r8 hw => ?_)
        refine lv_if_ne (tgt := 51) hx hb dX11_see_45 (by decide) (fun hc9 => ?_) (fun hc9 => ?_)
        · replace hw := hw.1 hc9
          refine lv_aload_n hx hb dX11_see_51 rfl (lv_at hl 0 rfl) ?_
          refine va_get (D := (dC, dI)) (ci := 13) (v := .int (u1.1 18)) (C := RX11) (T := TX11) (N := 29) hx hb hts hiX11 hown hK hP 0 rfl rfl 18 (by decide) hf113 (fun _ h9 => h9) rfl dX11_see_52 ?_
          refine lv_bipush (v := 6) hx hb dX11_see_55 (by decide) ?_
          refine lv_icmp_ne (tgt := 63) hx hb dX11_see_57 (by decide) (fun hc10 => ?_) (fun hc10 => ?_)
          · replace hw := hw.1 hc10
            refine lv_aload_n hx hb dX11_see_63 rfl (lv_at hl 0 rfl) ?_
            refine va_get (D := (dC, dI)) (ci := 13) (v := .ref (q 19)) (C := RX11) (T := TX11) (N := 29) hx hb hts hiX11 hown hK hP 0 rfl rfl 19 (by decide) hf34 (fun _ h9 => h9) rfl dX11_see_64 ?_
            refine lv_iconst (v := 4) hx hb dX11_see_67 (by decide) ?_
            refine lv_aload_n hx hb dX11_see_68 rfl (lv_at hl 0 rfl) ?_
            refine va_get (D := (dC, dI)) (ci := 13) (v := .int (u1.1 18)) (C := RX11) (T := TX11) (N := 29) hx hb hts hiX11 hown hK hP 0 rfl rfl 18 (by decide) hf113 (fun _ h9 => h9) rfl dX11_see_69 ?_
            refine lv_imul hx hb dX11_see_72 ?_
            refine lv_iload_n hx hb dX11_see_73 rfl (lv_at hl 1 rfl) ?_
            obtain ⟨hb11, hw⟩ := hw
            refine va_iast hx hb hK hP hD hS 9 0 rfl rfl hb11 dX11_see_74 (fun H locs hP hD hS => ?_)
            replace hP : va_P (dC, dI) vwCl (MW cI h q u1.1 (u1.2.1) (va_up u1.2.2 19 (upd (u1.2.2 19) ((4 : Int32) * (u1.1 18)).toNatClampNeg p0))) H := hP
            replace hD : va_D A (MW cI h q u1.1 (u1.2.1) (va_up u1.2.2 19 (upd (u1.2.2 19) ((4 : Int32) * (u1.1 18)).toNatClampNeg p0))) := hD
            refine lv_aload_n hx hb dX11_see_75 rfl (lv_at hl 0 rfl) ?_
            refine va_get (D := (dC, dI)) (ci := 13) (v := .ref (q 19)) (C := RX11) (T := TX11) (N := 29) hx hb hts hiX11 hown hK hP 0 rfl rfl 19 (by decide) hf34 (fun _ h9 => h9) rfl dX11_see_76 ?_
            refine lv_iconst (v := 4) hx hb dX11_see_79 (by decide) ?_
            refine lv_aload_n hx hb dX11_see_80 rfl (lv_at hl 0 rfl) ?_
            refine va_get (D := (dC, dI)) (ci := 13) (v := .int (u1.1 18)) (C := RX11) (T := TX11) (N := 29) hx hb hts hiX11 hown hK hP 0 rfl rfl 18 (by decide) hf113 (fun _ h9 => h9) rfl dX11_see_81 ?_
            refine lv_imul hx hb dX11_see_84 ?_
            refine lv_iconst (v := 1) hx hb dX11_see_85 (by decide) ?_
            refine lv_iadd hx hb dX11_see_86 ?_
            refine lv_iload_n hx hb dX11_see_87 rfl (lv_at hl 2 rfl) ?_
            obtain ⟨z13, ez13⟩ : ∃ y : Nat → Int32, y = (upd (u1.2.2 19) ((4 : Int32) * (u1.1 18)).toNatClampNeg p0) := ⟨_, rfl⟩
            replace hw := hw z13 ez13
            rw [← ez13] at hP hD
            obtain ⟨hb12, hw⟩ := hw
            refine va_iast hx hb hK hP hD hS 9 0 rfl rfl hb12 dX11_see_88 (fun H locs hP hD hS => ?_)
            replace hP : va_P (dC, dI) vwCl (MW cI h q u1.1 (u1.2.1) (va_up u1.2.2 19 (upd z13 (((4 : Int32) * (u1.1 18)) + (1 : Int32)).toNatClampNeg p1))) H := hP
            replace hD : va_D A (MW cI h q u1.1 (u1.2.1) (va_up u1.2.2 19 (upd z13 (((4 : Int32) * (u1.1 18)) + (1 : Int32)).toNatClampNeg p1))) := hD
            refine lv_aload_n hx hb dX11_see_89 rfl (lv_at hl 0 rfl) ?_
            refine va_get (D := (dC, dI)) (ci := 13) (v := .ref (q 19)) (C := RX11) (T := TX11) (N := 29) hx hb hts hiX11 hown hK hP 0 rfl rfl 19 (by decide) hf34 (fun _ h9 => h9) rfl dX11_see_90 ?_
            refine lv_iconst (v := 4) hx hb dX11_see_93 (by decide) ?_
            refine lv_aload_n hx hb dX11_see_94 rfl (lv_at hl 0 rfl) ?_
            refine va_get (D := (dC, dI)) (ci := 13) (v := .int (u1.1 18)) (C := RX11) (T := TX11) (N := 29) hx hb hts hiX11 hown hK hP 0 rfl rfl 18 (by decide) hf113 (fun _ h9 => h9) rfl dX11_see_95 ?_
            refine lv_imul hx hb dX11_see_98 ?_
            refine lv_iconst (v := 2) hx hb dX11_see_99 (by decide) ?_
            refine lv_iadd hx hb dX11_see_100 ?_
            refine lv_iload_n hx hb dX11_see_101 rfl (lv_at hl 3 rfl) ?_
            obtain ⟨z15, ez15⟩ : ∃ y : Nat → Int32, y = (upd z13 (((4 : Int32) * (u1.1 18)) + (1 : Int32)).toNatClampNeg p1) := ⟨_, rfl⟩
            replace hw := hw z15 ez15
            rw [← ez15] at hP hD
            obtain ⟨hb14, hw⟩ := hw
            refine va_iast hx hb hK hP hD hS 9 0 rfl rfl hb14 dX11_see_102 (fun H locs hP hD hS => ?_)
            replace hP : va_P (dC, dI) vwCl (MW cI h q u1.1 (u1.2.1) (va_up u1.2.2 19 (upd z15 (((4 : Int32) * (u1.1 18)) + (2 : Int32)).toNatClampNeg p2))) H := hP
            replace hD : va_D A (MW cI h q u1.1 (u1.2.1) (va_up u1.2.2 19 (upd z15 (((4 : Int32) * (u1.1 18)) + (2 : Int32)).toNatClampNeg p2))) := hD
            refine lv_aload_n hx hb dX11_see_103 rfl (lv_at hl 0 rfl) ?_
            refine va_get (D := (dC, dI)) (ci := 13) (v := .ref (q 19)) (C := RX11) (T := TX11) (N := 29) hx hb hts hiX11 hown hK hP 0 rfl rfl 19 (by decide) hf34 (fun _ h9 => h9) rfl dX11_see_104 ?_
            refine lv_iconst (v := 4) hx hb dX11_see_107 (by decide) ?_
            refine lv_aload_n hx hb dX11_see_108 rfl (lv_at hl 0 rfl) ?_
            refine va_get (D := (dC, dI)) (ci := 13) (v := .int (u1.1 18)) (C := RX11) (T := TX11) (N := 29) hx hb hts hiX11 hown hK hP 0 rfl rfl 18 (by decide) hf113 (fun _ h9 => h9) rfl dX11_see_109 ?_
            refine lv_imul hx hb dX11_see_112 ?_
            refine lv_iconst (v := 3) hx hb dX11_see_113 (by decide) ?_
            refine lv_iadd hx hb dX11_see_114 ?_
            refine lv_iload hx hb dX11_see_115 (lv_at hl 4 rfl) ?_
            obtain ⟨z17, ez17⟩ : ∃ y : Nat → Int32, y = (upd z15 (((4 : Int32) * (u1.1 18)) + (2 : Int32)).toNatClampNeg p2) := ⟨_, rfl⟩
            replace hw := hw z17 ez17
            rw [← ez17] at hP hD
            obtain ⟨hb16, hw⟩ := hw
            refine va_iast hx hb hK hP hD hS 9 0 rfl rfl hb16 dX11_see_117 (fun H locs hP hD hS => ?_)
            replace hP : va_P (dC, dI) vwCl (MW cI h q u1.1 (u1.2.1) (va_up u1.2.2 19 (upd z17 (((4 : Int32) * (u1.1 18)) + (3 : Int32)).toNatClampNeg p3))) H := hP
            replace hD : va_D A (MW cI h q u1.1 (u1.2.1) (va_up u1.2.2 19 (upd z17 (((4 : Int32) * (u1.1 18)) + (3 : Int32)).toNatClampNeg p3))) := hD
            refine lv_aload_n hx hb dX11_see_118 rfl (lv_at hl 0 rfl) ?_
            refine lv_dup hx hb dX11_see_119 rfl ?_
            refine va_get (D := (dC, dI)) (ci := 13) (v := .int (u1.1 18)) (C := RX11) (T := TX11) (N := 29) hx hb hts hiX11 hown hK hP 0 rfl rfl 18 (by decide) hf113 (fun _ h9 => h9) rfl dX11_see_120 ?_
            refine lv_iconst (v := 1) hx hb dX11_see_123 (by decide) ?_
            refine lv_iadd hx hb dX11_see_124 ?_
            refine lv_topi (fun x18 ex18 => ?_)
            replace hw := hw x18 ex18
            refine va_put (D := (dC, dI)) (ci := 13) (v := .int x18) (ty := (.int)) (C := RX11) (T := TX11) (N := 29) hx hb hts hiX11 tyX11 tyX11_ok nmX11 hown hK hP hD hS 0 rfl rfl 18 (by decide) hf113 (fun _ h9 => h9) rfl (by decide +kernel) rfl rfl (Nat.le_of_ble_eq_true rfl) dX11_see_125 (fun H locs hP hD hS => ?_)
            replace hP : va_P (dC, dI) vwCl (MW cI h q (upd u1.1 18 x18) (u1.2.1) (va_up u1.2.2 19 (upd z17 (((4 : Int32) * (u1.1 18)) + (3 : Int32)).toNatClampNeg p3))) H := hP
            replace hD : va_D A (MW cI h q (upd u1.1 18 x18) (u1.2.1) (va_up u1.2.2 19 (upd z17 (((4 : Int32) * (u1.1 18)) + (3 : Int32)).toNatClampNeg p3))) := hD
            refine lv_aload_n hx hb dX11_see_128 rfl (lv_at hl 0 rfl) ?_
            refine va_get (D := (dC, dI)) (ci := 13) (v := .int x18) (C := RX11) (T := TX11) (N := 29) hx hb hts hiX11 hown hK hP 0 rfl rfl 18 (by decide) hf113 (fun _ h9 => h9) rfl dX11_see_129 ?_
            exact hret dX11_see_132 hK hP hD hS hw
          · replace hw := hw.2 hc10
            refine lv_bipush (v := -104) hx hb dX11_see_60 (by decide) ?_
            exact hret dX11_see_62 hK hP hD hS hw
        · replace hw := hw.2 hc9
          refine lv_bipush (v := -102) hx hb dX11_see_48 (by decide) ?_
          exact hret dX11_see_50 hK hP hD hS hw
  · replace hw := hw.2 hc3
    refine lv_bipush (v := -101) hx hb dX11_see_8 (by decide) ?_
    exact hret dX11_see_10 hK hP hD hS hw

def w_X11_forget (f : Nat → Int32) (g : Int64) (a : Nat → Nat → Int32)  (Q : Int32 → MSt → Prop) : Prop := ∀ x1 : Int32, x1 = (f 18) → Q x1 ((upd f 18 (0 : Int32)), g, a)
abbrev rmX11_forget : Room := { frames := 0, cells := 0, slots := 0, locals := 0 }
set_option maxHeartbeats 4000000 in
set_option maxRecDepth 100000 in
theorem t_X11_forget (l : Launch) (dC : Nat → ClassId) (dI : Nat → Nat → Nat) (cI : ClassId) (h : Nat) (q : Nat → Nat) (sz : Nat) (f : Nat → Int32) (g : Int64) (a : Nat → Nat → Int32)  (Q0 : Int32 → MSt → Prop) (hw : w_X11_forget f g a  Q0) : Met l yX11_forget wsX11_forget rmX11_forget (g_pre g_T (dC, dI) vwCl [(cI, .int)] (MW cI h q f g a) sz [.ref h]) (g_qi (dC, dI) vwCl [(cI, .int)] (MWu cI h q) Q0 (va_A (MW cI h q f g a) sz)) 0 0 (va_A (MW cI h q f g a) sz) := by
  refine g_starti (by decide) rfl (Nat.le_of_ble_eq_true rfl) ?_
  intro p e s m args below meth c A Q ls hx hb hml hown hts hin hK hP hD hA hS hZ hret hl
  obtain ⟨H, eH⟩ : ∃ H : Heap, H = s.heap := ⟨_, rfl⟩
  obtain ⟨locs, eL⟩ : ∃ L : List Loc, L = [] := ⟨_, rfl⟩
  have hS : va_S A s.heap H locs := by rw [eH, eL]; exact hS
  rw [← eH] at hP
  suffices hg : W p l e rmX11_forget s m args below meth c H locs 0 0 Q (F0 m 0 ls []) by rw [eH, eL] at hg; exact hg
  clear eH eL
  replace hl : lv_has ls 2 [(0, .ref h)] := hl
  have hf113 := hts (.fieldLink RX11 113 "NumberPileModel" "seenMany" "I") (by decide +kernel)
  have hiX11 : ∀ w ∈ u_ws RX11 TX11 29, w ∈ wsX11_forget := fun w h => List.mem_cons_of_mem _ (List.mem_append_right _ h)
  unfold w_X11_forget at hw
  refine lv_aload_n hx hb dX11_forget_0 rfl (lv_at hl 0 rfl) ?_
  refine va_get (D := (dC, dI)) (ci := 13) (v := .int (f 18)) (C := RX11) (T := TX11) (N := 29) hx hb hts hiX11 hown hK hP 0 rfl rfl 18 (by decide) hf113 (fun _ h9 => h9) rfl dX11_forget_1 ?_
  refine lv_topi (fun x1 ex1 => ?_)
  replace hw := hw x1 ex1
  refine lv_istore_n (lv' := [(1, .int x1), (0, .ref h)]) hx hb dX11_forget_4 rfl hl (by decide) rfl (fun ls hl => ?_)
  refine lv_aload_n hx hb dX11_forget_5 rfl (lv_at hl 1 rfl) ?_
  refine lv_iconst (v := 0) hx hb dX11_forget_6 (by decide) ?_
  refine va_put (D := (dC, dI)) (ci := 13) (v := .int (0 : Int32)) (ty := (.int)) (C := RX11) (T := TX11) (N := 29) hx hb hts hiX11 tyX11 tyX11_ok nmX11 hown hK hP hD hS 0 rfl rfl 18 (by decide) hf113 (fun _ h9 => h9) rfl (by decide +kernel) rfl rfl (Nat.le_of_ble_eq_true rfl) dX11_forget_7 (fun H locs hP hD hS => ?_)
  replace hP : va_P (dC, dI) vwCl (MW cI h q (upd f 18 (0 : Int32)) g a) H := hP
  replace hD : va_D A (MW cI h q (upd f 18 (0 : Int32)) g a) := hD
  refine lv_iload_n hx hb dX11_forget_10 rfl (lv_at hl 0 rfl) ?_
  exact hret dX11_forget_11 hK hP hD hS hw

def w_X11_draw (f : Nat → Int32) (g : Int64) (a : Nat → Nat → Int32) (p0 : Int32) (Q : Int32 → MSt → Prop) : Prop := ∀ x1 : Int32, x1 = (((((1103515245 : Int64) * ((f 20).toInt64)) + (12345 : Int64)) &&& (2147483647 : Int64)).toInt32) → (¬ p0 = 0) ∧ Q ((x1 / (65536 : Int32)) - (x1 / (65536 : Int32)) / p0 * p0) ((upd f 20 x1), g, a)
abbrev rmX11_draw : Room := { frames := 0, cells := 0, slots := 0, locals := 0 }
set_option maxHeartbeats 4000000 in
set_option maxRecDepth 100000 in
theorem t_X11_draw (l : Launch) (dC : Nat → ClassId) (dI : Nat → Nat → Nat) (cI : ClassId) (h : Nat) (q : Nat → Nat) (sz : Nat) (f : Nat → Int32) (g : Int64) (a : Nat → Nat → Int32) (p0 : Int32) (Q0 : Int32 → MSt → Prop) (hw : w_X11_draw f g a p0 Q0) : Met l yX11_draw wsX11_draw rmX11_draw (g_pre g_T (dC, dI) vwCl [(cI, .int)] (MW cI h q f g a) sz [.ref h, .int p0]) (g_qi (dC, dI) vwCl [(cI, .int)] (MWu cI h q) Q0 (va_A (MW cI h q f g a) sz)) 0 0 (va_A (MW cI h q f g a) sz) := by
  refine g_starti (by decide) rfl (Nat.le_of_ble_eq_true rfl) ?_
  intro p e s m args below meth c A Q ls hx hb hml hown hts hin hK hP hD hA hS hZ hret hl
  obtain ⟨H, eH⟩ : ∃ H : Heap, H = s.heap := ⟨_, rfl⟩
  obtain ⟨locs, eL⟩ : ∃ L : List Loc, L = [] := ⟨_, rfl⟩
  have hS : va_S A s.heap H locs := by rw [eH, eL]; exact hS
  rw [← eH] at hP
  suffices hg : W p l e rmX11_draw s m args below meth c H locs 0 0 Q (F0 m 0 ls []) by rw [eH, eL] at hg; exact hg
  clear eH eL
  replace hl : lv_has ls 2 [(0, .ref h), (1, .int p0)] := hl
  have kc221 := hts (.constantLong RX11 221 (1103515245)) (by decide +kernel)
  have hf223 := hts (.fieldLink RX11 223 "NumberPileModel" "seedNow" "I") (by decide +kernel)
  have hiX11 : ∀ w ∈ u_ws RX11 TX11 29, w ∈ wsX11_draw := fun w h => List.mem_cons_of_mem _ (List.mem_append_right _ h)
  have kc226 := hts (.constantLong RX11 226 (12345)) (by decide +kernel)
  have kc228 := hts (.constantLong RX11 228 (2147483647)) (by decide +kernel)
  have kc230 := hts (.constant RX11 230 (65536)) (by decide +kernel)
  unfold w_X11_draw at hw
  refine lv_aload_n hx hb dX11_draw_0 rfl (lv_at hl 0 rfl) ?_
  refine lv_ldc2 hx hb hown kc221 dX11_draw_1 ?_
  refine lv_aload_n hx hb dX11_draw_4 rfl (lv_at hl 0 rfl) ?_
  refine va_get (D := (dC, dI)) (ci := 13) (v := .int (f 20)) (C := RX11) (T := TX11) (N := 29) hx hb hts hiX11 hown hK hP 0 rfl rfl 20 (by decide) hf223 (fun _ h9 => h9) rfl dX11_draw_5 ?_
  refine lv_i2l hx hb dX11_draw_8 rfl ?_
  refine lv_lmul hx hb dX11_draw_9 ?_
  refine lv_ldc2 hx hb hown kc226 dX11_draw_10 ?_
  refine lv_ladd hx hb dX11_draw_13 ?_
  refine lv_ldc2 hx hb hown kc228 dX11_draw_14 ?_
  refine lv_land hx hb dX11_draw_17 ?_
  refine lv_l2i hx hb dX11_draw_18 rfl ?_
  refine lv_topi (fun x1 ex1 => ?_)
  replace hw := hw x1 ex1
  refine va_put (D := (dC, dI)) (ci := 13) (v := .int x1) (ty := (.int)) (C := RX11) (T := TX11) (N := 29) hx hb hts hiX11 tyX11 tyX11_ok nmX11 hown hK hP hD hS 0 rfl rfl 20 (by decide) hf223 (fun _ h9 => h9) rfl (by decide +kernel) rfl rfl (Nat.le_of_ble_eq_true rfl) dX11_draw_19 (fun H locs hP hD hS => ?_)
  replace hP : va_P (dC, dI) vwCl (MW cI h q (upd f 20 x1) g a) H := hP
  replace hD : va_D A (MW cI h q (upd f 20 x1) g a) := hD
  refine lv_aload_n hx hb dX11_draw_22 rfl (lv_at hl 0 rfl) ?_
  refine va_get (D := (dC, dI)) (ci := 13) (v := .int x1) (C := RX11) (T := TX11) (N := 29) hx hb hts hiX11 hown hK hP 0 rfl rfl 20 (by decide) hf223 (fun _ h9 => h9) rfl dX11_draw_23 ?_
  refine lv_ldc hx hb hown kc230 dX11_draw_26 ?_
  refine lv_idiv hx hb dX11_draw_28 (by decide) ?_
  refine lv_iload_n hx hb dX11_draw_29 rfl (lv_at hl 1 rfl) ?_
  obtain ⟨hn2, hw⟩ := hw
  refine lv_irem hx hb dX11_draw_30 hn2 ?_
  exact hret dX11_draw_31 hK hP hD hS hw

def w_X11_drawn (f : Nat → Int32) (g : Int64) (a : Nat → Nat → Int32) (p0 : Int32) (p1 : Int32) (p2 : Int32) (Q : Int32 → MSt → Prop) : Prop := w_X11_in (p0.toInt64) (1 : Int64) (60 : Int64) (fun (r1 : Int32) => (((r1 = 0) → Q (-102 : Int32) (f, g, a)) ∧ (¬ (r1 = 0) → (((p1 < 0) → Q (-102 : Int32) (f, g, a)) ∧ (¬ (p1 < 0) → w_X11_in (p2.toInt64) (0 : Int64) (2 : Int64) (fun (r4 : Int32) => (((¬ r4 = 0) → w_X11_lacks f g a (fun (r7 : Int32) (u6 : MSt) => (((r7 = 0) → (∀ X13 : Int32 → Int32 → Int32 → MSt → Prop, (∀ (x9 : Int32) (x10 : Int32) (x11 : Int32) (u12 : MSt), ((((p0 ≤ x11) → (((¬ p2 = 0) → (((¬ p2 = (1 : Int32)) → Q (u12.1 20) u12) ∧ (p2 = (1 : Int32) → Q x10 u12))) ∧ (p2 = 0 → Q x9 u12))) ∧ (¬ (p0 ≤ x11) → (∀ X19 : Int32 → MSt → Prop, (∀ (x17 : Int32) (u18 : MSt), (((((u18.1 6) ≤ x17) → w_X11_layValues u18.1 (u18.2.1) u18.2.2 (fun (u21 : MSt) => (vp_in ((u21.1 7) - (1 : Int32)) 10) ∧ ∀ x23 : Int32, x23 = (x9 + ((u21.2.2 13) ((u21.1 7) - (1 : Int32)).toNatClampNeg)) → (vp_in ((u21.1 7) - (1 : Int32)) 10) ∧ ∀ J26 : Int32 → Prop, (∀ (x25 : Int32), (∀ x27 : Int32, x27 = x11 + (1 : Int32) → X13 x23 x25 x27 u21) → J26 x25) → (((((u21.2.2 13) ((u21.1 7) - (1 : Int32)).toNatClampNeg) ≤ x10) → J26 x10) ∧ (¬ (((u21.2.2 13) ((u21.1 7) - (1 : Int32)).toNatClampNeg) ≤ x10) → (vp_in ((u21.1 7) - (1 : Int32)) 10) ∧ J26 ((u21.2.2 13) ((u21.1 7) - (1 : Int32)).toNatClampNeg))))) ∧ (¬ ((u18.1 6) ≤ x17) → w_X11_draw u18.1 (u18.2.1) u18.2.2 (10 : Int32) (fun (r31 : Int32) (u30 : MSt) => (vp_in x17 4) ∧ ∀ x33 : Int32, x33 = x17 + (1 : Int32) → X19 x33 (u30.1, u30.2.1, (va_up u30.2.2 14 (upd (u30.2.2 14) x17.toNatClampNeg r31))))))) → X19 x17 u18) → X19 (0 : Int32) u12)))) → X13 x9 x10 x11 u12) → X13 (0 : Int32) (0 : Int32) (0 : Int32) ((upd u6.1 20 p1), u6.2.1, u6.2.2))) ∧ (¬ (r7 = 0) → Q (-103 : Int32) u6)))) ∧ (r4 = 0 → Q (-102 : Int32) (f, g, a)))))))))
abbrev rmX11_drawn : Room := { frames := 2, cells := 0, slots := 0, locals := 44 }
set_option maxHeartbeats 4000000 in
set_option maxRecDepth 100000 in
theorem t_X11_drawn (l : Launch) (dC : Nat → ClassId) (dI : Nat → Nat → Nat) (cI : ClassId) (h : Nat) (q : Nat → Nat) (sz : Nat) (f : Nat → Int32) (g : Int64) (a : Nat → Nat → Int32) (p0 : Int32) (p1 : Int32) (p2 : Int32) (Q0 : Int32 → MSt → Prop) (hw : w_X11_drawn f g a p0 p1 p2 Q0) : Met l yX11_drawn wsX11_drawn rmX11_drawn (g_pre g_T (dC, dI) vwCl [(cI, .int)] (MW cI h q f g a) sz [.ref h, .int p0, .int p1, .int p2]) (g_qi (dC, dI) vwCl [(cI, .int)] (MWu cI h q) Q0 (va_A (MW cI h q f g a) sz)) 0 0 (va_A (MW cI h q f g a) sz) := by
  refine g_starti (by decide) rfl (Nat.le_of_ble_eq_true rfl) ?_
  intro p e s m args below meth c A Q ls hx hb hml hown hts hin hK hP hD hA hS hZ hret hl
  obtain ⟨H, eH⟩ : ∃ H : Heap, H = s.heap := ⟨_, rfl⟩
  obtain ⟨locs, eL⟩ : ∃ L : List Loc, L = [] := ⟨_, rfl⟩
  have hS : va_S A s.heap H locs := by rw [eH, eL]; exact hS
  rw [← eH] at hP
  suffices hg : W p l e rmX11_drawn s m args below meth c H locs 0 0 Q (F0 m 0 ls []) by rw [eH, eL] at hg; exact hg
  clear eH eL
  replace hl : lv_has ls 8 [(0, .ref h), (1, .int p0), (2, .int p1), (3, .int p2)] := hl
  have kc231 := hts (.constantLong RX11 231 (60)) (by decide +kernel)
  have kc233 := hts (.constantLong RX11 233 (2)) (by decide +kernel)
  have hf223 := hts (.fieldLink RX11 223 "NumberPileModel" "seedNow" "I") (by decide +kernel)
  have hiX11 : ∀ w ∈ u_ws RX11 TX11 29, w ∈ wsX11_drawn := fun w h => List.mem_cons_of_mem _ (List.mem_append_right _ h)
  have hf97 := hts (.fieldLink RX11 97 "NumberPileModel" "wide" "I") (by decide +kernel)
  have hf25 := hts (.fieldLink RX11 25 "NumberPileModel" "values" "[I") (by decide +kernel)
  have hf103 := hts (.fieldLink RX11 103 "NumberPileModel" "bricks" "I") (by decide +kernel)
  have hf28 := hts (.fieldLink RX11 28 "NumberPileModel" "some" "[I") (by decide +kernel)
  unfold w_X11_drawn at hw
  refine lv_iload_n hx hb dX11_drawn_0 rfl (lv_at hl 1 rfl) ?_
  refine lv_i2l hx hb dX11_drawn_1 rfl ?_
  refine lv_lconst (v := 1) hx hb dX11_drawn_2 (by decide) ?_
  refine lv_ldc2 hx hb hown kc231 dX11_drawn_3 ?_
  refine g_callP (rest := []) [.long (p0.toInt64), .long (1 : Int64), .long (60 : Int64)] ⟨hx, hb, hml, hown, hts⟩ (t_X11_in l (p0.toInt64) (1 : Int64) (60 : Int64) _ hw) (va_cwS 3 hts gX11_drawn_X11_in rfl rfl rfl (by decide +kernel) ⟨Nat.le_of_ble_eq_true rfl, Nat.le_of_ble_eq_true rfl⟩) rfl hl.1 (Nat.le_of_ble_eq_true rfl) dX11_drawn_6 ⟨Nat.le_of_ble_eq_true rfl, Nat.le_of_ble_eq_true rfl⟩ (fun r1 hw => ?_)
  refine lv_if_eq (tgt := 28) hx hb dX11_drawn_9 (by decide) (fun hc2 => ?_) (fun hc2 => ?_)
  · replace hw := hw.1 hc2
    refine lv_bipush (v := -102) hx hb dX11_drawn_28 (by decide) ?_
    exact hret dX11_drawn_30 hK hP hD hS hw
  · replace hw := hw.2 hc2
    refine lv_iload_n hx hb dX11_drawn_12 rfl (lv_at hl 2 rfl) ?_
    refine lv_if_lt (tgt := 28) hx hb dX11_drawn_13 (by decide) (fun hc3 => ?_) (fun hc3 => ?_)
    · replace hw := hw.1 hc3
      refine lv_bipush (v := -102) hx hb dX11_drawn_28 (by decide) ?_
      exact hret dX11_drawn_30 hK hP hD hS hw
    · replace hw := hw.2 hc3
      refine lv_iload_n hx hb dX11_drawn_16 rfl (lv_at hl 3 rfl) ?_
      refine lv_i2l hx hb dX11_drawn_17 rfl ?_
      refine lv_lconst (v := 0) hx hb dX11_drawn_18 (by decide) ?_
      refine lv_ldc2 hx hb hown kc233 dX11_drawn_19 ?_
      refine g_callP (rest := []) [.long (p2.toInt64), .long (0 : Int64), .long (2 : Int64)] ⟨hx, hb, hml, hown, hts⟩ (t_X11_in l (p2.toInt64) (0 : Int64) (2 : Int64) _ hw) (va_cwS 3 hts gX11_drawn_X11_in rfl rfl rfl (by decide +kernel) ⟨Nat.le_of_ble_eq_true rfl, Nat.le_of_ble_eq_true rfl⟩) rfl hl.1 (Nat.le_of_ble_eq_true rfl) dX11_drawn_22 ⟨Nat.le_of_ble_eq_true rfl, Nat.le_of_ble_eq_true rfl⟩ (fun r4 hw => ?_)
      refine lv_if_ne (tgt := 31) hx hb dX11_drawn_25 (by decide) (fun hc5 => ?_) (fun hc5 => ?_)
      · replace hw := hw.1 hc5
        refine lv_aload_n hx hb dX11_drawn_31 rfl (lv_at hl 0 rfl) ?_
        refine g_callVi (rest := []) (W2 := (MWu cI h q)) [] [0, 1, 2, 3, 4, 5, 6, 7, 8, 9, 10, 11, 12, 13] [] [0] [0, 1, 2, 3, 4, 5, 6, 7, 8, 9, 10, 11, 12, 13] g_Tb (fun _ _ _ _ => trivial) ⟨hx, hb, hml, hown, hts⟩ (t_X11_lacks l dC dI cI h q H.size f g a _ hw) (cwV 0 hts gX11_drawn_X11_lacks rfl rfl rfl (by decide +kernel) ⟨Nat.le_of_ble_eq_true rfl, Nat.le_of_ble_eq_true rfl⟩) hK hP hD hS hA rfl (by decide) (wr := []) rfl (by decide) (by decide) rfl (fun _ => rfl) (by decide) (q0 := 0) rfl rfl rfl hl.1 (Nat.le_of_ble_eq_true rfl) dX11_drawn_32 ⟨Nat.le_of_ble_eq_true rfl, Nat.le_of_ble_eq_true rfl⟩ (fun r7 u6 H locs hw hP hD hS => ?_)
        refine lv_if_eq (tgt := 41) hx hb dX11_drawn_35 (by decide) (fun hc8 => ?_) (fun hc8 => ?_)
        · replace hw := hw.1 hc8
          refine lv_aload_n hx hb dX11_drawn_41 rfl (lv_at hl 0 rfl) ?_
          refine lv_iload_n hx hb dX11_drawn_42 rfl (lv_at hl 2 rfl) ?_
          refine va_put (D := (dC, dI)) (ci := 13) (v := .int p1) (ty := (.int)) (C := RX11) (T := TX11) (N := 29) hx hb hts hiX11 tyX11 tyX11_ok nmX11 hown hK hP hD hS 0 rfl rfl 20 (by decide) hf223 (fun _ h9 => h9) rfl (by decide +kernel) rfl rfl (Nat.le_of_ble_eq_true rfl) dX11_drawn_43 (fun H locs hP hD hS => ?_)
          replace hP : va_P (dC, dI) vwCl (MW cI h q (upd u6.1 20 p1) (u6.2.1) u6.2.2) H := hP
          replace hD : va_D A (MW cI h q (upd u6.1 20 p1) (u6.2.1) u6.2.2) := hD
          refine lv_iconst (v := 0) hx hb dX11_drawn_46 (by decide) ?_
          refine lv_istore (lv' := [(4, .int (0 : Int32)), (0, .ref h), (1, .int p0), (2, .int p1), (3, .int p2)]) hx hb dX11_drawn_47 hl (by decide) rfl (fun ls hl => ?_)
          refine lv_iconst (v := 0) hx hb dX11_drawn_49 (by decide) ?_
          refine lv_istore (lv' := [(5, .int (0 : Int32)), (4, .int (0 : Int32)), (0, .ref h), (1, .int p0), (2, .int p1), (3, .int p2)]) hx hb dX11_drawn_50 hl (by decide) rfl (fun ls hl => ?_)
          refine lv_iconst (v := 0) hx hb dX11_drawn_52 (by decide) ?_
          refine lv_istore (lv' := [(6, .int (0 : Int32)), (5, .int (0 : Int32)), (4, .int (0 : Int32)), (0, .ref h), (1, .int p0), (2, .int p1), (3, .int p2)]) hx hb dX11_drawn_53 hl (by decide) rfl (fun ls hl => ?_)
          refine hw (fun (x9 : Int32) (x10 : Int32) (x11 : Int32) (u12 : MSt) => ∀ (H : Heap) (locs : List Loc) (ls : Array Slot), va_P (dC, dI) vwCl (MW cI h q u12.1 (u12.2.1) u12.2.2) H → va_D A (MW cI h q u12.1 (u12.2.1) u12.2.2) → va_S A s.heap H locs → lv_has ls 8 [(0, .ref h), (1, .int p0), (3, .int p2), (4, .int x9), (5, .int x10), (6, .int x11)] → W p l e rmX11_drawn s m args below meth c H locs 0 0 Q (F0 m 55 ls [])) ?_ H locs ls hP hD hS (lv_sub hl [3, 4, 6, 2, 1, 0] rfl)
          · intro x9 x10 x11 u12 hw H locs ls hP hD hS hl
            refine lv_iload hx hb dX11_drawn_55 (lv_at hl 5 rfl) ?_
            refine lv_iload_n hx hb dX11_drawn_57 rfl (lv_at hl 1 rfl) ?_
            refine lv_icmp_ge (tgt := 152) hx hb dX11_drawn_58 (by decide) (fun hc14 => ?_) (fun hc14 => ?_)
            · replace hw := hw.1 hc14
              refine lv_iload_n hx hb dX11_drawn_152 rfl (lv_at hl 2 rfl) ?_
              refine lv_if_ne (tgt := 161) hx hb dX11_drawn_153 (by decide) (fun hc15 => ?_) (fun hc15 => ?_)
              · replace hw := hw.1 hc15
                refine lv_iload_n hx hb dX11_drawn_161 rfl (lv_at hl 2 rfl) ?_
                refine lv_iconst (v := 1) hx hb dX11_drawn_162 (by decide) ?_
                refine lv_icmp_ne (tgt := 171) hx hb dX11_drawn_163 (by decide) (fun hc16 => ?_) (fun hc16 => ?_)
                · replace hw := hw.1 hc16
                  refine lv_aload_n hx hb dX11_drawn_171 rfl (lv_at hl 0 rfl) ?_
                  refine va_get (D := (dC, dI)) (ci := 13) (v := .int (u12.1 20)) (C := RX11) (T := TX11) (N := 29) hx hb hts hiX11 hown hK hP 0 rfl rfl 20 (by decide) hf223 (fun _ h9 => h9) rfl dX11_drawn_172 ?_
                  exact hret dX11_drawn_175 hK hP hD hS hw
                · replace hw := hw.2 hc16
                  refine lv_iload hx hb dX11_drawn_166 (lv_at hl 4 rfl) ?_
                  refine lv_goto (tgt := 175) hx hb dX11_drawn_168 (by decide) ?_
                  exact hret dX11_drawn_175 hK hP hD hS hw
              · replace hw := hw.2 hc15
                refine lv_iload hx hb dX11_drawn_156 (lv_at hl 3 rfl) ?_
                refine lv_goto (tgt := 175) hx hb dX11_drawn_158 (by decide) ?_
                exact hret dX11_drawn_175 hK hP hD hS hw
            · replace hw := hw.2 hc14
              refine lv_iconst (v := 0) hx hb dX11_drawn_61 (by decide) ?_
              refine lv_istore (lv' := [(7, .int (0 : Int32)), (0, .ref h), (1, .int p0), (3, .int p2), (4, .int x9), (5, .int x10), (6, .int x11)]) hx hb dX11_drawn_62 hl (by decide) rfl (fun ls hl => ?_)
              refine hw (fun (x17 : Int32) (u18 : MSt) => ∀ (H : Heap) (locs : List Loc) (ls : Array Slot), va_P (dC, dI) vwCl (MW cI h q u18.1 (u18.2.1) u18.2.2) H → va_D A (MW cI h q u18.1 (u18.2.1) u18.2.2) → va_S A s.heap H locs → lv_has ls 8 [(0, .ref h), (1, .int p0), (3, .int p2), (4, .int x9), (5, .int x10), (6, .int x11), (7, .int x17)] → W p l e rmX11_drawn s m args below meth c H locs 0 0 Q (F0 m 64 ls [])) ?_ H locs ls hP hD hS (lv_sub hl [1, 2, 3, 4, 5, 6, 0] rfl)
              · intro x17 u18 hw H locs ls hP hD hS hl
                refine lv_iload hx hb dX11_drawn_64 (lv_at hl 6 rfl) ?_
                refine lv_aload_n hx hb dX11_drawn_66 rfl (lv_at hl 0 rfl) ?_
                refine va_get (D := (dC, dI)) (ci := 13) (v := .int (u18.1 6)) (C := RX11) (T := TX11) (N := 29) hx hb hts hiX11 hown hK hP 0 rfl rfl 6 (by decide) hf97 (fun _ h9 => h9) rfl dX11_drawn_67 ?_
                refine lv_icmp_ge (tgt := 92) hx hb dX11_drawn_70 (by decide) (fun hc20 => ?_) (fun hc20 => ?_)
                · replace hw := hw.1 hc20
                  refine lv_aload_n hx hb dX11_drawn_92 rfl (lv_at hl 0 rfl) ?_
                  refine g_callVv (rest := []) (W2 := (MWu cI h q)) [] [0, 1, 2, 3, 4, 5, 6, 7, 8, 9, 10, 11, 12, 13] [] [0] [0, 1, 2, 3, 4, 5, 6, 7, 8, 9, 10, 11, 12, 13] g_Tb (fun _ _ _ _ => trivial) ⟨hx, hb, hml, hown, hts⟩ (t_X11_layValues l dC dI cI h q H.size u18.1 (u18.2.1) u18.2.2 _ hw) (cwV 0 hts gX11_drawn_X11_layValues rfl rfl rfl (by decide +kernel) ⟨Nat.le_of_ble_eq_true rfl, Nat.le_of_ble_eq_true rfl⟩) hK hP hD hS hA rfl (by decide) (wr := []) rfl (by decide) (by decide) rfl (fun _ => rfl) (by decide) (q0 := 0) rfl rfl rfl hl.1 (Nat.le_of_ble_eq_true rfl) dX11_drawn_93 ⟨Nat.le_of_ble_eq_true rfl, Nat.le_of_ble_eq_true rfl⟩ (fun u21 H locs hw hP hD hS => ?_)
                  refine lv_iload hx hb dX11_drawn_96 (lv_at hl 3 rfl) ?_
                  refine lv_aload_n hx hb dX11_drawn_98 rfl (lv_at hl 0 rfl) ?_
                  refine va_get (D := (dC, dI)) (ci := 13) (v := .ref (q 13)) (C := RX11) (T := TX11) (N := 29) hx hb hts hiX11 hown hK hP 0 rfl rfl 13 (by decide) hf25 (fun _ h9 => h9) rfl dX11_drawn_99 ?_
                  refine lv_aload_n hx hb dX11_drawn_102 rfl (lv_at hl 0 rfl) ?_
                  refine va_get (D := (dC, dI)) (ci := 13) (v := .int (u21.1 7)) (C := RX11) (T := TX11) (N := 29) hx hb hts hiX11 hown hK hP 0 rfl rfl 7 (by decide) hf103 (fun _ h9 => h9) rfl dX11_drawn_103 ?_
                  refine lv_iconst (v := 1) hx hb dX11_drawn_106 (by decide) ?_
                  refine lv_isub hx hb dX11_drawn_107 ?_
                  obtain ⟨hb22, hw⟩ := hw
                  refine va_iald hx hb hK hP 6 0 rfl rfl hb22 dX11_drawn_108 ?_
                  refine lv_iadd hx hb dX11_drawn_109 ?_
                  refine lv_topi (fun x23 ex23 => ?_)
                  replace hw := hw x23 ex23
                  refine lv_istore (lv' := [(4, .int x23), (0, .ref h), (1, .int p0), (3, .int p2), (5, .int x10), (6, .int x11), (7, .int x17)]) hx hb dX11_drawn_110 hl (by decide) rfl (fun ls hl => ?_)
                  refine lv_aload_n hx hb dX11_drawn_112 rfl (lv_at hl 1 rfl) ?_
                  refine va_get (D := (dC, dI)) (ci := 13) (v := .ref (q 13)) (C := RX11) (T := TX11) (N := 29) hx hb hts hiX11 hown hK hP 0 rfl rfl 13 (by decide) hf25 (fun _ h9 => h9) rfl dX11_drawn_113 ?_
                  refine lv_aload_n hx hb dX11_drawn_116 rfl (lv_at hl 1 rfl) ?_
                  refine va_get (D := (dC, dI)) (ci := 13) (v := .int (u21.1 7)) (C := RX11) (T := TX11) (N := 29) hx hb hts hiX11 hown hK hP 0 rfl rfl 7 (by decide) hf103 (fun _ h9 => h9) rfl dX11_drawn_117 ?_
                  refine lv_iconst (v := 1) hx hb dX11_drawn_120 (by decide) ?_
                  refine lv_isub hx hb dX11_drawn_121 ?_
                  obtain ⟨hb24, hw⟩ := hw
                  refine va_iald hx hb hK hP 6 0 rfl rfl hb24 dX11_drawn_122 ?_
                  refine lv_iload hx hb dX11_drawn_123 (lv_at hl 4 rfl) ?_
                  replace hw := hw (fun (x25 : Int32) => ∀ (H : Heap) (locs : List Loc) (ls : Array Slot), va_P (dC, dI) vwCl (MW cI h q u21.1 (u21.2.1) u21.2.2) H → va_D A (MW cI h q u21.1 (u21.2.1) u21.2.2) → va_S A s.heap H locs → lv_has ls 8 [(0, .ref h), (1, .int p0), (3, .int p2), (4, .int x23), (6, .int x11)] → W p l e rmX11_drawn s m args below meth c H locs 0 0 Q (F0 m 144 ls [.int x25])) (by
                    intro x25 hw H locs ls hP hD hS hl
                    refine lv_istore (lv' := [(5, .int x25), (0, .ref h), (1, .int p0), (3, .int p2), (4, .int x23), (6, .int x11)]) hx hb dX11_drawn_144 hl (by decide) rfl (fun ls hl => ?_)
                    obtain ⟨x27, ex27⟩ : ∃ y : Int32, y = x11 + (1 : Int32) := ⟨_, rfl⟩
                    replace hw := hw x27 ex27
                    refine lv_iinc (v := x27) (lv' := [(6, .int x27), (5, .int x25), (0, .ref h), (1, .int p0), (3, .int p2), (4, .int x23)]) hx hb dX11_drawn_146 hl (k := 5) rfl (by rw [ex27]; rfl) (by decide) rfl (fun ls hl => ?_)
                    refine lv_goto (tgt := 55) hx hb dX11_drawn_149 (by decide) ?_
                    exact hw H locs ls hP hD hS (lv_sub hl [2, 3, 4, 5, 1, 0] rfl))
                  refine lv_icmp_le (tgt := 142) hx hb dX11_drawn_125 (by decide) (fun hc28 => ?_) (fun hc28 => ?_)
                  · replace hw := hw.1 hc28
                    refine lv_iload hx hb dX11_drawn_142 (lv_at hl 4 rfl) ?_
                    exact hw H locs ls hP hD hS (lv_sub hl [1, 2, 3, 0, 5] rfl)
                  · replace hw := hw.2 hc28
                    refine lv_aload_n hx hb dX11_drawn_128 rfl (lv_at hl 1 rfl) ?_
                    refine va_get (D := (dC, dI)) (ci := 13) (v := .ref (q 13)) (C := RX11) (T := TX11) (N := 29) hx hb hts hiX11 hown hK hP 0 rfl rfl 13 (by decide) hf25 (fun _ h9 => h9) rfl dX11_drawn_129 ?_
                    refine lv_aload_n hx hb dX11_drawn_132 rfl (lv_at hl 1 rfl) ?_
                    refine va_get (D := (dC, dI)) (ci := 13) (v := .int (u21.1 7)) (C := RX11) (T := TX11) (N := 29) hx hb hts hiX11 hown hK hP 0 rfl rfl 7 (by decide) hf103 (fun _ h9 => h9) rfl dX11_drawn_133 ?_
                    refine lv_iconst (v := 1) hx hb dX11_drawn_136 (by decide) ?_
                    refine lv_isub hx hb dX11_drawn_137 ?_
                    obtain ⟨hb29, hw⟩ := hw
                    refine va_iald hx hb hK hP 6 0 rfl rfl hb29 dX11_drawn_138 ?_
                    refine lv_goto (tgt := 144) hx hb dX11_drawn_139 (by decide) ?_
                    exact hw H locs ls hP hD hS (lv_sub hl [1, 2, 3, 0, 5] rfl)
                · replace hw := hw.2 hc20
                  refine lv_aload_n hx hb dX11_drawn_73 rfl (lv_at hl 0 rfl) ?_
                  refine va_get (D := (dC, dI)) (ci := 13) (v := .ref (q 14)) (C := RX11) (T := TX11) (N := 29) hx hb hts hiX11 hown hK hP 0 rfl rfl 14 (by decide) hf28 (fun _ h9 => h9) rfl dX11_drawn_74 ?_
                  refine lv_iload hx hb dX11_drawn_77 (lv_at hl 6 rfl) ?_
                  refine lv_aload_n hx hb dX11_drawn_79 rfl (lv_at hl 0 rfl) ?_
                  refine lv_bipush (v := 10) hx hb dX11_drawn_80 (by decide) ?_
                  refine g_callVi (rest := [.int x17, .ref (q 14)]) (W2 := (MWu cI h q)) [.int (10 : Int32)] [0, 1, 2, 3, 4, 5, 6, 7, 8, 9, 10, 11, 12, 13] [] [0] [0, 1, 2, 3, 4, 5, 6, 7, 8, 9, 10, 11, 12, 13] g_Tb (fun _ _ _ _ => trivial) ⟨hx, hb, hml, hown, hts⟩ (t_X11_draw l dC dI cI h q H.size u18.1 (u18.2.1) u18.2.2 (10 : Int32) _ hw) (cwV 1 hts gX11_drawn_X11_draw rfl rfl rfl (by decide +kernel) ⟨Nat.le_of_ble_eq_true rfl, Nat.le_of_ble_eq_true rfl⟩) hK hP hD hS hA rfl (by decide) (wr := []) rfl (by decide) (by decide) rfl (fun _ => rfl) (by decide) (q0 := 0) rfl rfl rfl hl.1 (Nat.le_of_ble_eq_true rfl) dX11_drawn_82 ⟨Nat.le_of_ble_eq_true rfl, Nat.le_of_ble_eq_true rfl⟩ (fun r31 u30 H locs hw hP hD hS => ?_)
                  obtain ⟨hb32, hw⟩ := hw
                  refine va_iast hx hb hK hP hD hS 7 0 rfl rfl hb32 dX11_drawn_85 (fun H locs hP hD hS => ?_)
                  replace hP : va_P (dC, dI) vwCl (MW cI h q u30.1 (u30.2.1) (va_up u30.2.2 14 (upd (u30.2.2 14) x17.toNatClampNeg r31))) H := hP
                  replace hD : va_D A (MW cI h q u30.1 (u30.2.1) (va_up u30.2.2 14 (upd (u30.2.2 14) x17.toNatClampNeg r31))) := hD
                  obtain ⟨x33, ex33⟩ : ∃ y : Int32, y = x17 + (1 : Int32) := ⟨_, rfl⟩
                  replace hw := hw x33 ex33
                  refine lv_iinc (v := x33) (lv' := [(7, .int x33), (0, .ref h), (1, .int p0), (3, .int p2), (4, .int x9), (5, .int x10), (6, .int x11)]) hx hb dX11_drawn_86 hl (k := 6) rfl (by rw [ex33]; rfl) (by decide) rfl (fun ls hl => ?_)
                  refine lv_goto (tgt := 64) hx hb dX11_drawn_89 (by decide) ?_
                  exact hw H locs ls hP hD hS (lv_sub hl [1, 2, 3, 4, 5, 6, 0] rfl)
        · replace hw := hw.2 hc8
          refine lv_bipush (v := -103) hx hb dX11_drawn_38 (by decide) ?_
          exact hret dX11_drawn_40 hK hP hD hS hw
      · replace hw := hw.2 hc5
        refine lv_bipush (v := -102) hx hb dX11_drawn_28 (by decide) ?_
        exact hret dX11_drawn_30 hK hP hD hS hw
