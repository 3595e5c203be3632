def w_X11_image (f : Nat → Int32) (g : Int64) (a : Nat → Nat → Int32)  (Q : Int32 → MSt → Prop) : Prop := w_X11_lacks f g a (fun (r2 : Int32) (u1 : MSt) => (((r2 = 0) → w_X11_copy 10 10 (u1.2.2 10) (u1.2.2 24) (fun (u4 : (Nat → Int32) × (Nat → Int32)) => w_X11_copy 4 4 (u1.2.2 11) (u1.2.2 25) (fun (u5 : (Nat → Int32) × (Nat → Int32)) => w_X11_copy 10 10 (u1.2.2 12) (u1.2.2 26) (fun (u6 : (Nat → Int32) × (Nat → Int32)) => w_X11_copy 24 24 (u1.2.2 19) (u1.2.2 27) (fun (u7 : (Nat → Int32) × (Nat → Int32)) => ∀ x8 : Int32, x8 = (u1.1 8) → ∀ x9 : Int32, x9 = (u1.1 18) → ∀ x10 : Int32, x10 = (u1.1 9) → Q (u1.1 8) ((upd (upd (upd u1.1 22 x8) 23 x9) 21 x10), u1.2.1, (va_up (va_up (va_up (va_up (va_up (va_up (va_up (va_up u1.2.2 10 u4.1) 24 u4.2) 11 u5.1) 25 u5.2) 12 u6.1) 26 u6.2) 19 u7.1) 27 u7.2))))))) ∧ (¬ (r2 = 0) → Q (-103 : Int32) u1)))
abbrev rmX11_image : Room := { frames := 1, cells := 0, slots := 0, locals := 22 }
set_option maxHeartbeats 4000000 in
set_option maxRecDepth 100000 in
theorem t_X11_image (l : Launch) (dC : Nat → ClassId) (dI : Nat → Nat → Nat) (cI : ClassId) (h : Nat) (q : Nat → Nat) (sz : Nat) (f : Nat → Int32) (g : Int64) (a : Nat → Nat → Int32)  (Q0 : Int32 → MSt → Prop) (hw : w_X11_image f g a  Q0) : Met l yX11_image wsX11_image rmX11_image (g_pre g_T (dC, dI) vwCl [(cI, .int)] (MW cI h q f g a) sz [.ref h]) (g_qi (dC, dI) vwCl [(cI, .int)] (MWu cI h q) Q0 (va_A (MW cI h q f g a) sz)) 0 0 (va_A (MW cI h q f g a) sz) := by
  refine g_starti (by decide) rfl (Nat.le_of_ble_eq_true rfl) ?_
  intro p e s m args below meth c A Q ls hx hb hml hown hts hin hK hP hD hA hS hZ hret hl
  obtain ⟨H, eH⟩ : ∃ H : Heap, H = s.heap := ⟨_, rfl⟩
  obtain ⟨locs, eL⟩ : ∃ L : List Loc, L = [] := ⟨_, rfl⟩
  have hS : va_S A s.heap H locs := by rw [eH, eL]; exact hS
  rw [← eH] at hP
  suffices hg : W p l e rmX11_image s m args below meth c H locs 0 0 Q (F0 m 0 ls []) by rw [eH, eL] at hg; exact hg
  clear eH eL
  replace hl : lv_has ls 1 [(0, .ref h)] := hl
  have hf16 := hts (.fieldLink RX11 16 "NumberPileModel" "kinds" "[I") (by decide +kernel)
  have hiX11 : ∀ w ∈ u_ws RX11 TX11 29, w ∈ wsX11_image := fun w h => List.mem_cons_of_mem _ (List.mem_append_right _ h)
  have hf37 := hts (.fieldLink RX11 37 "NumberPileModel" "keptKinds" "[I") (by decide +kernel)
  have hf19 := hts (.fieldLink RX11 19 "NumberPileModel" "figures" "[I") (by decide +kernel)
  have hf40 := hts (.fieldLink RX11 40 "NumberPileModel" "keptFigures" "[I") (by decide +kernel)
  have hf22 := hts (.fieldLink RX11 22 "NumberPileModel" "told" "[I") (by decide +kernel)
  have hf43 := hts (.fieldLink RX11 43 "NumberPileModel" "keptTold" "[I") (by decide +kernel)
  have hf34 := hts (.fieldLink RX11 34 "NumberPileModel" "sights" "[I") (by decide +kernel)
  have hf46 := hts (.fieldLink RX11 46 "NumberPileModel" "keptSights" "[I") (by decide +kernel)
  have hf110 := hts (.fieldLink RX11 110 "NumberPileModel" "changes" "I") (by decide +kernel)
  have hf238 := hts (.fieldLink RX11 238 "NumberPileModel" "keptChanges" "I") (by decide +kernel)
  have hf113 := hts (.fieldLink RX11 113 "NumberPileModel" "seenMany" "I") (by decide +kernel)
  have hf241 := hts (.fieldLink RX11 241 "NumberPileModel" "keptSeen" "I") (by decide +kernel)
  have hf116 := hts (.fieldLink RX11 116 "NumberPileModel" "pilesRead" "I") (by decide +kernel)
  have hf49 := hts (.fieldLink RX11 49 "NumberPileModel" "keptPile" "I") (by decide +kernel)
  unfold w_X11_image at hw
  refine lv_aload_n hx hb dX11_image_0 rfl (lv_at hl 0 rfl) ?_
  refine g_callVi (rest := []) (W2 := (MWu cI h q)) [] [0, 1, 2, 3, 4, 5, 6, 7, 8, 9, 10, 11, 12, 13] [] [0] [0, 1, 2, 3, 4, 5, 6, 7, 8, 9, 10, 11, 12, 13] g_Tb (fun _ _ _ _ => trivial) ⟨hx, hb, hml, hown, hts⟩ (t_X11_lacks l dC dI cI h q H.size f g a _ hw) (cwV 0 hts gX11_image_X11_lacks rfl rfl rfl (by decide +kernel) ⟨Nat.le_of_ble_eq_true rfl, Nat.le_of_ble_eq_true rfl⟩) hK hP hD hS hA rfl (by decide) (wr := []) rfl (by decide) (by decide) rfl (fun _ => rfl) (by decide) (q0 := 0) rfl rfl rfl hl.1 (Nat.le_of_ble_eq_true rfl) dX11_image_1 ⟨Nat.le_of_ble_eq_true rfl, Nat.le_of_ble_eq_true rfl⟩ (fun r2 u1 H locs hw hP hD hS => ?_)
  refine lv_if_eq (tgt := 10) hx hb dX11_image_4 (by decide) (fun hc3 => ?_) (fun hc3 => ?_)
  · replace hw := hw.1 hc3
    refine lv_aload_n hx hb dX11_image_10 rfl (lv_at hl 0 rfl) ?_
    refine va_get (D := (dC, dI)) (ci := 13) (v := .ref (q 10)) (C := RX11) (T := TX11) (N := 29) hx hb hts hiX11 hown hK hP 0 rfl rfl 10 (by decide) hf16 (fun _ h9 => h9) rfl dX11_image_11 ?_
    refine lv_aload_n hx hb dX11_image_14 rfl (lv_at hl 0 rfl) ?_
    refine va_get (D := (dC, dI)) (ci := 13) (v := .ref (q 24)) (C := RX11) (T := TX11) (N := 29) hx hb hts hiX11 hown hK hP 0 rfl rfl 24 (by decide) hf37 (fun _ h9 => h9) rfl dX11_image_15 ?_
    refine g_callSv (rest := []) (W2 := fun u4 => (MW cI h q u1.1 (u1.2.1) (va_up (va_up u1.2.2 10 u4.1) 24 u4.2))) [.ref (q 10), .ref (q 24)] [3, 10] [0, 1, 2, 4, 5, 6, 7, 8, 9, 11, 12, 13] [0] [0, 1, 2, 12, 3, 4, 5, 6, 7, 8, 13, 9, 10, 11] g_Tb (fun _ _ _ _ => trivial) ⟨hx, hb, hml, hown, hts⟩ (t_X11_copy l dC dI cI (q 10) (q 24) H.size 10 10 (u1.2.2 10) (u1.2.2 24) _ hw) (va_cwS 2 hts gX11_image_X11_copy rfl rfl rfl (by decide +kernel) ⟨Nat.le_of_ble_eq_true rfl, Nat.le_of_ble_eq_true rfl⟩) hK hP hD hS hA rfl (by decide) (wr := [(h, .inr (13, MWf q u1.1 (u1.2.1))), (q 0, .inl (cI, 18, .inl (u1.2.2 0))), (q 5, .inl (cI, 10, .inl (u1.2.2 5))), (q 11, .inl (cI, 4, .inl (u1.2.2 11))), (q 12, .inl (cI, 10, .inl (u1.2.2 12))), (q 13, .inl (cI, 10, .inl (u1.2.2 13))), (q 14, .inl (cI, 4, .inl (u1.2.2 14))), (q 16, .inl (cI, 1000, .inl (u1.2.2 16))), (q 19, .inl (cI, 24, .inl (u1.2.2 19))), (q 25, .inl (cI, 4, .inl (u1.2.2 25))), (q 26, .inl (cI, 10, .inl (u1.2.2 26))), (q 27, .inl (cI, 24, .inl (u1.2.2 27)))]) rfl (by decide) (by decide) rfl (fun _ => rfl) (by decide) rfl hl.1 (Nat.le_of_ble_eq_true rfl) dX11_image_18 ⟨Nat.le_of_ble_eq_true rfl, Nat.le_of_ble_eq_true rfl⟩ (fun u4 H locs hw hP hD hS => ?_)
    refine lv_aload_n hx hb dX11_image_21 rfl (lv_at hl 0 rfl) ?_
    refine va_get (D := (dC, dI)) (ci := 13) (v := .ref (q 11)) (C := RX11) (T := TX11) (N := 29) hx hb hts hiX11 hown hK hP 0 rfl rfl 11 (by decide) hf19 (fun _ h9 => h9) rfl dX11_image_22 ?_
    refine lv_aload_n hx hb dX11_image_25 rfl (lv_at hl 0 rfl) ?_
    refine va_get (D := (dC, dI)) (ci := 13) (v := .ref (q 25)) (C := RX11) (T := TX11) (N := 29) hx hb hts hiX11 hown hK hP 0 rfl rfl 25 (by decide) hf40 (fun _ h9 => h9) rfl dX11_image_26 ?_
    refine g_callSv (rest := []) (W2 := fun u5 => (MW cI h q u1.1 (u1.2.1) (va_up (va_up (va_up (va_up u1.2.2 10 u4.1) 24 u4.2) 11 u5.1) 25 u5.2))) [.ref (q 11), .ref (q 25)] [4, 11] [0, 1, 2, 3, 5, 6, 7, 8, 9, 10, 12, 13] [0] [0, 1, 2, 3, 12, 4, 5, 6, 7, 8, 9, 13, 10, 11] g_Tb (fun _ _ _ _ => trivial) ⟨hx, hb, hml, hown, hts⟩ (t_X11_copy l dC dI cI (q 11) (q 25) H.size 4 4 (u1.2.2 11) (u1.2.2 25) _ hw) (va_cwS 2 hts gX11_image_X11_copy rfl rfl rfl (by decide +kernel) ⟨Nat.le_of_ble_eq_true rfl, Nat.le_of_ble_eq_true rfl⟩) hK hP hD hS hA rfl (by decide) (wr := [(h, .inr (13, MWf q u1.1 (u1.2.1))), (q 0, .inl (cI, 18, .inl (u1.2.2 0))), (q 5, .inl (cI, 10, .inl (u1.2.2 5))), (q 10, .inl (cI, 10, .inl u4.1)), (q 12, .inl (cI, 10, .inl (u1.2.2 12))), (q 13, .inl (cI, 10, .inl (u1.2.2 13))), (q 14, .inl (cI, 4, .inl (u1.2.2 14))), (q 16, .inl (cI, 1000, .inl (u1.2.2 16))), (q 19, .inl (cI, 24, .inl (u1.2.2 19))), (q 24, .inl (cI, 10, .inl u4.2)), (q 26, .inl (cI, 10, .inl (u1.2.2 26))), (q 27, .inl (cI, 24, .inl (u1.2.2 27)))]) rfl (by decide) (by decide) rfl (fun _ => rfl) (by decide) rfl hl.1 (Nat.le_of_ble_eq_true rfl) dX11_image_29 ⟨Nat.le_of_ble_eq_true rfl, Nat.le_of_ble_eq_true rfl⟩ (fun u5 H locs hw hP hD hS => ?_)
    refine lv_aload_n hx hb dX11_image_32 rfl (lv_at hl 0 rfl) ?_
    refine va_get (D := (dC, dI)) (ci := 13) (v := .ref (q 12)) (C := RX11) (T := TX11) (N := 29) hx hb hts hiX11 hown hK hP 0 rfl rfl 12 (by decide) hf22 (fun _ h9 => h9) rfl dX11_image_33 ?_
    refine lv_aload_n hx hb dX11_image_36 rfl (lv_at hl 0 rfl) ?_
    refine va_get (D := (dC, dI)) (ci := 13) (v := .ref (q 26)) (C := RX11) (T := TX11) (N := 29) hx hb hts hiX11 hown hK hP 0 rfl rfl 26 (by decide) hf43 (fun _ h9 => h9) rfl dX11_image_37 ?_
    refine g_callSv (rest := []) (W2 := fun u6 => (MW cI h q u1.1 (u1.2.1) (va_up (va_up (va_up (va_up (va_up (va_up u1.2.2 10 u4.1) 24 u4.2) 11 u5.1) 25 u5.2) 12 u6.1) 26 u6.2))) [.ref (q 12), .ref (q 26)] [5, 12] [0, 1, 2, 3, 4, 6, 7, 8, 9, 10, 11, 13] [0] [0, 1, 2, 3, 4, 12, 5, 6, 7, 8, 9, 10, 13, 11] g_Tb (fun _ _ _ _ => trivial) ⟨hx, hb, hml, hown, hts⟩ (t_X11_copy l dC dI cI (q 12) (q 26) H.size 10 10 (u1.2.2 12) (u1.2.2 26) _ hw) (va_cwS 2 hts gX11_image_X11_copy rfl rfl rfl (by decide +kernel) ⟨Nat.le_of_ble_eq_true rfl, Nat.le_of_ble_eq_true rfl⟩) hK hP hD hS hA rfl (by decide) (wr := [(h, .inr (13, MWf q u1.1 (u1.2.1))), (q 0, .inl (cI, 18, .inl (u1.2.2 0))), (q 5, .inl (cI, 10, .inl (u1.2.2 5))), (q 10, .inl (cI, 10, .inl u4.1)), (q 11, .inl (cI, 4, .inl u5.1)), (q 13, .inl (cI, 10, .inl (u1.2.2 13))), (q 14, .inl (cI, 4, .inl (u1.2.2 14))), (q 16, .inl (cI, 1000, .inl (u1.2.2 16))), (q 19, .inl (cI, 24, .inl (u1.2.2 19))), (q 24, .inl (cI, 10, .inl u4.2)), (q 25, .inl (cI, 4, .inl u5.2)), (q 27, .inl (cI, 24, .inl (u1.2.2 27)))]) rfl (by decide) (by decide) rfl (fun _ => rfl) (by decide) rfl hl.1 (Nat.le_of_ble_eq_true rfl) dX11_image_40 ⟨Nat.le_of_ble_eq_true rfl, Nat.le_of_ble_eq_true rfl⟩ (fun u6 H locs hw hP hD hS => ?_)
    refine lv_aload_n hx hb dX11_image_43 rfl (lv_at hl 0 rfl) ?_
    refine va_get (D := (dC, dI)) (ci := 13) (v := .ref (q 19)) (C := RX11) (T := TX11) (N := 29) hx hb hts hiX11 hown hK hP 0 rfl rfl 19 (by decide) hf34 (fun _ h9 => h9) rfl dX11_image_44 ?_
    refine lv_aload_n hx hb dX11_image_47 rfl (lv_at hl 0 rfl) ?_
    refine va_get (D := (dC, dI)) (ci := 13) (v := .ref (q 27)) (C := RX11) (T := TX11) (N := 29) hx hb hts hiX11 hown hK hP 0 rfl rfl 27 (by decide) hf46 (fun _ h9 => h9) rfl dX11_image_48 ?_
    refine g_callSv (rest := []) (W2 := fun u7 => (MW cI h q u1.1 (u1.2.1) (va_up (va_up (va_up (va_up (va_up (va_up (va_up (va_up u1.2.2 10 u4.1) 24 u4.2) 11 u5.1) 25 u5.2) 12 u6.1) 26 u6.2) 19 u7.1) 27 u7.2))) [.ref (q 19), .ref (q 27)] [9, 13] [0, 1, 2, 3, 4, 5, 6, 7, 8, 10, 11, 12] [0] [0, 1, 2, 3, 4, 5, 6, 7, 8, 12, 9, 10, 11, 13] g_Tb (fun _ _ _ _ => trivial) ⟨hx, hb, hml, hown, hts⟩ (t_X11_copy l dC dI cI (q 19) (q 27) H.size 24 24 (u1.2.2 19) (u1.2.2 27) _ hw) (va_cwS 2 hts gX11_image_X11_copy rfl rfl rfl (by decide +kernel) ⟨Nat.le_of_ble_eq_true rfl, Nat.le_of_ble_eq_true rfl⟩) hK hP hD hS hA rfl (by decide) (wr := [(h, .inr (13, MWf q u1.1 (u1.2.1))), (q 0, .inl (cI, 18, .inl (u1.2.2 0))), (q 5, .inl (cI, 10, .inl (u1.2.2 5))), (q 10, .inl (cI, 10, .inl u4.1)), (q 11, .inl (cI, 4, .inl u5.1)), (q 12, .inl (cI, 10, .inl u6.1)), (q 13, .inl (cI, 10, .inl (u1.2.2 13))), (q 14, .inl (cI, 4, .inl (u1.2.2 14))), (q 16, .inl (cI, 1000, .inl (u1.2.2 16))), (q 24, .inl (cI, 10, .inl u4.2)), (q 25, .inl (cI, 4, .inl u5.2)), (q 26, .inl (cI, 10, .inl u6.2))]) rfl (by decide) (by decide) rfl (fun _ => rfl) (by decide) rfl hl.1 (Nat.le_of_ble_eq_true rfl) dX11_image_51 ⟨Nat.le_of_ble_eq_true rfl, Nat.le_of_ble_eq_true rfl⟩ (fun u7 H locs hw hP hD hS => ?_)
    refine lv_aload_n hx hb dX11_image_54 rfl (lv_at hl 0 rfl) ?_
    refine lv_aload_n hx hb dX11_image_55 rfl (lv_at hl 0 rfl) ?_
    refine va_get (D := (dC, dI)) (ci := 13) (v := .int (u1.1 8)) (C := RX11) (T := TX11) (N := 29) hx hb hts hiX11 hown hK hP 0 rfl rfl 8 (by decide) hf110 (fun _ h9 => h9) rfl dX11_image_56 ?_
    refine lv_topi (fun x8 ex8 => ?_)
    replace hw := hw x8 ex8
    refine va_put (D := (dC, dI)) (ci := 13) (v := .int x8) (ty := (.int)) (C := RX11) (T := TX11) (N := 29) hx hb hts hiX11 tyX11 tyX11_ok nmX11 hown hK hP hD hS 0 rfl rfl 22 (by decide) hf238 (fun _ h9 => h9) rfl (by decide +kernel) rfl rfl (Nat.le_of_ble_eq_true rfl) dX11_image_59 (fun H locs hP hD hS => ?_)
    replace hP : va_P (dC, dI) vwCl (MW cI h q (upd u1.1 22 x8) (u1.2.1) (va_up (va_up (va_up (va_up (va_up (va_up (va_up (va_up u1.2.2 10 u4.1) 24 u4.2) 11 u5.1) 25 u5.2) 12 u6.1) 26 u6.2) 19 u7.1) 27 u7.2)) H := hP
    replace hD : va_D A (MW cI h q (upd u1.1 22 x8) (u1.2.1) (va_up (va_up (va_up (va_up (va_up (va_up (va_up (va_up u1.2.2 10 u4.1) 24 u4.2) 11 u5.1) 25 u5.2) 12 u6.1) 26 u6.2) 19 u7.1) 27 u7.2)) := hD
    refine lv_aload_n hx hb dX11_image_62 rfl (lv_at hl 0 rfl) ?_
    refine lv_aload_n hx hb dX11_image_63 rfl (lv_at hl 0 rfl) ?_
    refine va_get (D := (dC, dI)) (ci := 13) (v := .int (u1.1 18)) (C := RX11) (T := TX11) (N := 29) hx hb hts hiX11 hown hK hP 0 rfl rfl 18 (by decide) hf113 (fun _ h9 => h9) rfl dX11_image_64 ?_
    refine lv_topi (fun x9 ex9 => ?_)
    replace hw := hw x9 ex9
    refine va_put (D := (dC, dI)) (ci := 13) (v := .int x9) (ty := (.int)) (C := RX11) (T := TX11) (N := 29) hx hb hts hiX11 tyX11 tyX11_ok nmX11 hown hK hP hD hS 0 rfl rfl 23 (by decide) hf241 (fun _ h9 => h9) rfl (by decide +kernel) rfl rfl (Nat.le_of_ble_eq_true rfl) dX11_image_67 (fun H locs hP hD hS => ?_)
    replace hP : va_P (dC, dI) vwCl (MW cI h q (upd (upd u1.1 22 x8) 23 x9) (u1.2.1) (va_up (va_up (va_up (va_up (va_up (va_up (va_up (va_up u1.2.2 10 u4.1) 24 u4.2) 11 u5.1) 25 u5.2) 12 u6.1) 26 u6.2) 19 u7.1) 27 u7.2)) H := hP
    replace hD : va_D A (MW cI h q (upd (upd u1.1 22 x8) 23 x9) (u1.2.1) (va_up (va_up (va_up (va_up (va_up (va_up (va_up (va_up u1.2.2 10 u4.1) 24 u4.2) 11 u5.1) 25 u5.2) 12 u6.1) 26 u6.2) 19 u7.1) 27 u7.2)) := hD
    refine lv_aload_n hx hb dX11_image_70 rfl (lv_at hl 0 rfl) ?_
    refine lv_aload_n hx hb dX11_image_71 rfl (lv_at hl 0 rfl) ?_
    refine va_get (D := (dC, dI)) (ci := 13) (v := .int (u1.1 9)) (C := RX11) (T := TX11) (N := 29) hx hb hts hiX11 hown hK hP 0 rfl rfl 9 (by decide) hf116 (fun _ h9 => h9) rfl dX11_image_72 ?_
    refine lv_topi (fun x10 ex10 => ?_)
    replace hw := hw x10 ex10
    refine va_put (D := (dC, dI)) (ci := 13) (v := .int x10) (ty := (.int)) (C := RX11) (T := TX11) (N := 29) hx hb hts hiX11 tyX11 tyX11_ok nmX11 hown hK hP hD hS 0 rfl rfl 21 (by decide) hf49 (fun _ h9 => h9) rfl (by decide +kernel) rfl rfl (Nat.le_of_ble_eq_true rfl) dX11_image_75 (fun H locs hP hD hS => ?_)
    replace hP : va_P (dC, dI) vwCl (MW cI h q (upd (upd (upd u1.1 22 x8) 23 x9) 21 x10) (u1.2.1) (va_up (va_up (va_up (va_up (va_up (va_up (va_up (va_up u1.2.2 10 u4.1) 24 u4.2) 11 u5.1) 25 u5.2) 12 u6.1) 26 u6.2) 19 u7.1) 27 u7.2)) H := hP
    replace hD : va_D A (MW cI h q (upd (upd (upd u1.1 22 x8) 23 x9) 21 x10) (u1.2.1) (va_up (va_up (va_up (va_up (va_up (va_up (va_up (va_up u1.2.2 10 u4.1) 24 u4.2) 11 u5.1) 25 u5.2) 12 u6.1) 26 u6.2) 19 u7.1) 27 u7.2)) := hD
    refine lv_aload_n hx hb dX11_image_78 rfl (lv_at hl 0 rfl) ?_
    refine va_get (D := (dC, dI)) (ci := 13) (v := .int (u1.1 8)) (C := RX11) (T := TX11) (N := 29) hx hb hts hiX11 hown hK hP 0 rfl rfl 8 (by decide) hf110 (fun _ h9 => h9) rfl dX11_image_79 ?_
    exact hret dX11_image_82 hK hP hD hS hw
  · replace hw := hw.2 hc3
    refine lv_bipush (v := -103) hx hb dX11_image_7 (by decide) ?_
    exact hret dX11_image_9 hK hP hD hS hw

def w_X11_restore (f : Nat → Int32) (g : Int64) (a : Nat → Nat → Int32)  (Q : Int32 → MSt → Prop) : Prop := ((((f 21) = (f 9)) → w_X11_copy 10 10 (a 24) (a 10) (fun (u2 : (Nat → Int32) × (Nat → Int32)) => w_X11_copy 4 4 (a 25) (a 11) (fun (u3 : (Nat → Int32) × (Nat → Int32)) => w_X11_copy 10 10 (a 26) (a 12) (fun (u4 : (Nat → Int32) × (Nat → Int32)) => w_X11_copy 24 24 (a 27) (a 19) (fun (u5 : (Nat → Int32) × (Nat → Int32)) => ∀ x6 : Int32, x6 = (f 22) → ∀ x7 : Int32, x7 = (f 23) → Q x6 ((upd (upd f 8 x6) 18 x7), g, (va_up (va_up (va_up (va_up (va_up (va_up (va_up (va_up a 24 u2.1) 10 u2.2) 25 u3.1) 11 u3.2) 26 u4.1) 12 u4.2) 27 u5.1) 19 u5.2))))))) ∧ (¬ ((f 21) = (f 9)) → Q (-103 : Int32) (f, g, a)))
abbrev rmX11_restore : Room := { frames := 1, cells := 0, slots := 0, locals := 22 }
set_option maxHeartbeats 4000000 in
set_option maxRecDepth 100000 in
theorem t_X11_restore (l : Launch) (dC : Nat → ClassId) (dI : Nat → Nat → Nat) (cI : ClassId) (h : Nat) (q : Nat → Nat) (sz : Nat) (f : Nat → Int32) (g : Int64) (a : Nat → Nat → Int32)  (Q0 : Int32 → MSt → Prop) (hw : w_X11_restore f g a  Q0) : Met l yX11_restore wsX11_restore rmX11_restore (g_pre g_T (dC, dI) vwCl [(cI, .int)] (MW cI h q f g a) sz [.ref h]) (g_qi (dC, dI) vwCl [(cI, .int)] (MWu cI h q) Q0 (va_A (MW cI h q f g a) sz)) 0 0 (va_A (MW cI h q f g a) sz) := by
  refine g_starti (by decide) rfl (Nat.le_of_ble_eq_true rfl) ?_
  intro p e s m args below meth c A Q ls hx hb hml hown hts hin hK hP hD hA hS hZ hret hl
  obtain ⟨H, eH⟩ : ∃ H : Heap, H = s.heap := ⟨_, rfl⟩
  obtain ⟨locs, eL⟩ : ∃ L : List Loc, L = [] := ⟨_, rfl⟩
  have hS : va_S A s.heap H locs := by rw [eH, eL]; exact hS
  rw [← eH] at hP
  suffices hg : W p l e rmX11_restore s m args below meth c H locs 0 0 Q (F0 m 0 ls []) by rw [eH, eL] at hg; exact hg
  clear eH eL
  replace hl : lv_has ls 1 [(0, .ref h)] := hl
  have hf49 := hts (.fieldLink RX11 49 "NumberPileModel" "keptPile" "I") (by decide +kernel)
  have hiX11 : ∀ w ∈ u_ws RX11 TX11 29, w ∈ wsX11_restore := fun w h => List.mem_cons_of_mem _ (List.mem_append_right _ h)
  have hf116 := hts (.fieldLink RX11 116 "NumberPileModel" "pilesRead" "I") (by decide +kernel)
  have hf37 := hts (.fieldLink RX11 37 "NumberPileModel" "keptKinds" "[I") (by decide +kernel)
  have hf16 := hts (.fieldLink RX11 16 "NumberPileModel" "kinds" "[I") (by decide +kernel)
  have hf40 := hts (.fieldLink RX11 40 "NumberPileModel" "keptFigures" "[I") (by decide +kernel)
  have hf19 := hts (.fieldLink RX11 19 "NumberPileModel" "figures" "[I") (by decide +kernel)
  have hf43 := hts (.fieldLink RX11 43 "NumberPileModel" "keptTold" "[I") (by decide +kernel)
  have hf22 := hts (.fieldLink RX11 22 "NumberPileModel" "told" "[I") (by decide +kernel)
  have hf46 := hts (.fieldLink RX11 46 "NumberPileModel" "keptSights" "[I") (by decide +kernel)
  have hf34 := hts (.fieldLink RX11 34 "NumberPileModel" "sights" "[I") (by decide +kernel)
  have hf238 := hts (.fieldLink RX11 238 "NumberPileModel" "keptChanges" "I") (by decide +kernel)
  have hf110 := hts (.fieldLink RX11 110 "NumberPileModel" "changes" "I") (by decide +kernel)
  have hf241 := hts (.fieldLink RX11 241 "NumberPileModel" "keptSeen" "I") (by decide +kernel)
  have hf113 := hts (.fieldLink RX11 113 "NumberPileModel" "seenMany" "I") (by decide +kernel)
  unfold w_X11_restore at hw
  refine lv_aload_n hx hb dX11_restore_0 rfl (lv_at hl 0 rfl) ?_
  refine va_get (D := (dC, dI)) (ci := 13) (v := .int (f 21)) (C := RX11) (T := TX11) (N := 29) hx hb hts hiX11 hown hK hP 0 rfl rfl 21 (by decide) hf49 (fun _ h9 => h9) rfl dX11_restore_1 ?_
  refine lv_aload_n hx hb dX11_restore_4 rfl (lv_at hl 0 rfl) ?_
  refine va_get (D := (dC, dI)) (ci := 13) (v := .int (f 9)) (C := RX11) (T := TX11) (N := 29) hx hb hts hiX11 hown hK hP 0 rfl rfl 9 (by decide) hf116 (fun _ h9 => h9) rfl dX11_restore_5 ?_
  refine lv_icmp_eq (tgt := 14) hx hb dX11_restore_8 (by decide) (fun hc1 => ?_) (fun hc1 => ?_)
  · replace hw := hw.1 hc1
    refine lv_aload_n hx hb dX11_restore_14 rfl (lv_at hl 0 rfl) ?_
    refine va_get (D := (dC, dI)) (ci := 13) (v := .ref (q 24)) (C := RX11) (T := TX11) (N := 29) hx hb hts hiX11 hown hK hP 0 rfl rfl 24 (by decide) hf37 (fun _ h9 => h9) rfl dX11_restore_15 ?_
    refine lv_aload_n hx hb dX11_restore_18 rfl (lv_at hl 0 rfl) ?_
    refine va_get (D := (dC, dI)) (ci := 13) (v := .ref (q 10)) (C := RX11) (T := TX11) (N := 29) hx hb hts hiX11 hown hK hP 0 rfl rfl 10 (by decide) hf16 (fun _ h9 => h9) rfl dX11_restore_19 ?_
    refine g_callSv (rest := []) (W2 := fun u2 => (MW cI h q f g (va_up (va_up a 24 u2.1) 10 u2.2))) [.ref (q 24), .ref (q 10)] [10, 3] [0, 1, 2, 4, 5, 6, 7, 8, 9, 11, 12, 13] [0] [0, 1, 2, 13, 3, 4, 5, 6, 7, 8, 12, 9, 10, 11] g_Tb (fun _ _ _ _ => trivial) ⟨hx, hb, hml, hown, hts⟩ (t_X11_copy l dC dI cI (q 24) (q 10) H.size 10 10 (a 24) (a 10) _ hw) (va_cwS 2 hts gX11_restore_X11_copy rfl rfl rfl (by decide +kernel) ⟨Nat.le_of_ble_eq_true rfl, Nat.le_of_ble_eq_true rfl⟩) hK hP hD hS hA rfl (by decide) (wr := [(h, .inr (13, MWf q f g)), (q 0, .inl (cI, 18, .inl (a 0))), (q 5, .inl (cI, 10, .inl (a 5))), (q 11, .inl (cI, 4, .inl (a 11))), (q 12, .inl (cI, 10, .inl (a 12))), (q 13, .inl (cI, 10, .inl (a 13))), (q 14, .inl (cI, 4, .inl (a 14))), (q 16, .inl (cI, 1000, .inl (a 16))), (q 19, .inl (cI, 24, .inl (a 19))), (q 25, .inl (cI, 4, .inl (a 25))), (q 26, .inl (cI, 10, .inl (a 26))), (q 27, .inl (cI, 24, .inl (a 27)))]) rfl (by decide) (by decide) rfl (fun _ => rfl) (by decide) rfl hl.1 (Nat.le_of_ble_eq_true rfl) dX11_restore_22 ⟨Nat.le_of_ble_eq_true rfl, Nat.le_of_ble_eq_true rfl⟩ (fun u2 H locs hw hP hD hS => ?_)
    refine lv_aload_n hx hb dX11_restore_25 rfl (lv_at hl 0 rfl) ?_
    refine va_get (D := (dC, dI)) (ci := 13) (v := .ref (q 25)) (C := RX11) (T := TX11) (N := 29) hx hb hts hiX11 hown hK hP 0 rfl rfl 25 (by decide) hf40 (fun _ h9 => h9) rfl dX11_restore_26 ?_
    refine lv_aload_n hx hb dX11_restore_29 rfl (lv_at hl 0 rfl) ?_
    refine va_get (D := (dC, dI)) (ci := 13) (v := .ref (q 11)) (C := RX11) (T := TX11) (N := 29) hx hb hts hiX11 hown hK hP 0 rfl rfl 11 (by decide) hf19 (fun _ h9 => h9) rfl dX11_restore_30 ?_
    refine g_callSv (rest := []) (W2 := fun u3 => (MW cI h q f g (va_up (va_up (va_up (va_up a 24 u2.1) 10 u2.2) 25 u3.1) 11 u3.2))) [.ref (q 25), .ref (q 11)] [11, 4] [0, 1, 2, 3, 5, 6, 7, 8, 9, 10, 12, 13] [0] [0, 1, 2, 3, 13, 4, 5, 6, 7, 8, 9, 12, 10, 11] g_Tb (fun _ _ _ _ => trivial) ⟨hx, hb, hml, hown, hts⟩ (t_X11_copy l dC dI cI (q 25) (q 11) H.size 4 4 (a 25) (a 11) _ hw) (va_cwS 2 hts gX11_restore_X11_copy rfl rfl rfl (by decide +kernel) ⟨Nat.le_of_ble_eq_true rfl, Nat.le_of_ble_eq_true rfl⟩) hK hP hD hS hA rfl (by decide) (wr := [(h, .inr (13, MWf q f g)), (q 0, .inl (cI, 18, .inl (a 0))), (q 5, .inl (cI, 10, .inl (a 5))), (q 10, .inl (cI, 10, .inl u2.2)), (q 12, .inl (cI, 10, .inl (a 12))), (q 13, .inl (cI, 10, .inl (a 13))), (q 14, .inl (cI, 4, .inl (a 14))), (q 16, .inl (cI, 1000, .inl (a 16))), (q 19, .inl (cI, 24, .inl (a 19))), (q 24, .inl (cI, 10, .inl u2.1)), (q 26, .inl (cI, 10, .inl (a 26))), (q 27, .inl (cI, 24, .inl (a 27)))]) rfl (by decide) (by decide) rfl (fun _ => rfl) (by decide) rfl hl.1 (Nat.le_of_ble_eq_true rfl) dX11_restore_33 ⟨Nat.le_of_ble_eq_true rfl, Nat.le_of_ble_eq_true rfl⟩ (fun u3 H locs hw hP hD hS => ?_)
    refine lv_aload_n hx hb dX11_restore_36 rfl (lv_at hl 0 rfl) ?_
    refine va_get (D := (dC, dI)) (ci := 13) (v := .ref (q 26)) (C := RX11) (T := TX11) (N := 29) hx hb hts hiX11 hown hK hP 0 rfl rfl 26 (by decide) hf43 (fun _ h9 => h9) rfl dX11_restore_37 ?_
    refine lv_aload_n hx hb dX11_restore_40 rfl (lv_at hl 0 rfl) ?_
    refine va_get (D := (dC, dI)) (ci := 13) (v := .ref (q 12)) (C := RX11) (T := TX11) (N := 29) hx hb hts hiX11 hown hK hP 0 rfl rfl 12 (by decide) hf22 (fun _ h9 => h9) rfl dX11_restore_41 ?_
    refine g_callSv (rest := []) (W2 := fun u4 => (MW cI h q f g (va_up (va_up (va_up (va_up (va_up (va_up a 24 u2.1) 10 u2.2) 25 u3.1) 11 u3.2) 26 u4.1) 12 u4.2))) [.ref (q 26), .ref (q 12)] [12, 5] [0, 1, 2, 3, 4, 6, 7, 8, 9, 10, 11, 13] [0] [0, 1, 2, 3, 4, 13, 5, 6, 7, 8, 9, 10, 12, 11] g_Tb (fun _ _ _ _ => trivial) ⟨hx, hb, hml, hown, hts⟩ (t_X11_copy l dC dI cI (q 26) (q 12) H.size 10 10 (a 26) (a 12) _ hw) (va_cwS 2 hts gX11_restore_X11_copy rfl rfl rfl (by decide +kernel) ⟨Nat.le_of_ble_eq_true rfl, Nat.le_of_ble_eq_true rfl⟩) hK hP hD hS hA rfl (by decide) (wr := [(h, .inr (13, MWf q f g)), (q 0, .inl (cI, 18, .inl (a 0))), (q 5, .inl (cI, 10, .inl (a 5))), (q 10, .inl (cI, 10, .inl u2.2)), (q 11, .inl (cI, 4, .inl u3.2)), (q 13, .inl (cI, 10, .inl (a 13))), (q 14, .inl (cI, 4, .inl (a 14))), (q 16, .inl (cI, 1000, .inl (a 16))), (q 19, .inl (cI, 24, .inl (a 19))), (q 24, .inl (cI, 10, .inl u2.1)), (q 25, .inl (cI, 4, .inl u3.1)), (q 27, .inl (cI, 24, .inl (a 27)))]) rfl (by decide) (by decide) rfl (fun _ => rfl) (by decide) rfl hl.1 (Nat.le_of_ble_eq_true rfl) dX11_restore_44 ⟨Nat.le_of_ble_eq_true rfl, Nat.le_of_ble_eq_true rfl⟩ (fun u4 H locs hw hP hD hS => ?_)
    refine lv_aload_n hx hb dX11_restore_47 rfl (lv_at hl 0 rfl) ?_
    refine va_get (D := (dC, dI)) (ci := 13) (v := .ref (q 27)) (C := RX11) (T := TX11) (N := 29) hx hb hts hiX11 hown hK hP 0 rfl rfl 27 (by decide) hf46 (fun _ h9 => h9) rfl dX11_restore_48 ?_
    refine lv_aload_n hx hb dX11_restore_51 rfl (lv_at hl 0 rfl) ?_
    refine va_get (D := (dC, dI)) (ci := 13) (v := .ref (q 19)) (C := RX11) (T := TX11) (N := 29) hx hb hts hiX11 hown hK hP 0 rfl rfl 19 (by decide) hf34 (fun _ h9 => h9) rfl dX11_restore_52 ?_
    refine g_callSv (rest := []) (W2 := fun u5 => (MW cI h q f g (va_up (va_up (va_up (va_up (va_up (va_up (va_up (va_up a 24 u2.1) 10 u2.2) 25 u3.1) 11 u3.2) 26 u4.1) 12 u4.2) 27 u5.1) 19 u5.2))) [.ref (q 27), .ref (q 19)] [13, 9] [0, 1, 2, 3, 4, 5, 6, 7, 8, 10, 11, 12] [0] [0, 1, 2, 3, 4, 5, 6, 7, 8, 13, 9, 10, 11, 12] g_Tb (fun _ _ _ _ => trivial) ⟨hx, hb, hml, hown, hts⟩ (t_X11_copy l dC dI cI (q 27) (q 19) H.size 24 24 (a 27) (a 19) _ hw) (va_cwS 2 hts gX11_restore_X11_copy rfl rfl rfl (by decide +kernel) ⟨Nat.le_of_ble_eq_true rfl, Nat.le_of_ble_eq_true rfl⟩) hK hP hD hS hA rfl (by decide) (wr := [(h, .inr (13, MWf q f g)), (q 0, .inl (cI, 18, .inl (a 0))), (q 5, .inl (cI, 10, .inl (a 5))), (q 10, .inl (cI, 10, .inl u2.2)), (q 11, .inl (cI, 4, .inl u3.2)), (q 12, .inl (cI, 10, .inl u4.2)), (q 13, .inl (cI, 10, .inl (a 13))), (q 14, .inl (cI, 4, .inl (a 14))), (q 16, .inl (cI, 1000, .inl (a 16))), (q 24, .inl (cI, 10, .inl u2.1)), (q 25, .inl (cI, 4, .inl u3.1)), (q 26, .inl (cI, 10, .inl u4.1))]) rfl (by decide) (by decide) rfl (fun _ => rfl) (by decide) rfl hl.1 (Nat.le_of_ble_eq_true rfl) dX11_restore_55 ⟨Nat.le_of_ble_eq_true rfl, Nat.le_of_ble_eq_true rfl⟩ (fun u5 H locs hw hP hD hS => ?_)
    refine lv_aload_n hx hb dX11_restore_58 rfl (lv_at hl 0 rfl) ?_
    refine lv_aload_n hx hb dX11_restore_59 rfl (lv_at hl 0 rfl) ?_
    refine va_get (D := (dC, dI)) (ci := 13) (v := .int (f 22)) (C := RX11) (T := TX11) (N := 29) hx hb hts hiX11 hown hK hP 0 rfl rfl 22 (by decide) hf238 (fun _ h9 => h9) rfl dX11_restore_60 ?_
    refine lv_topi (fun x6 ex6 => ?_)
    replace hw := hw x6 ex6
    refine va_put (D := (dC, dI)) (ci := 13) (v := .int x6) (ty := (.int)) (C := RX11) (T := TX11) (N := 29) hx hb hts hiX11 tyX11 tyX11_ok nmX11 hown hK hP hD hS 0 rfl rfl 8 (by decide) hf110 (fun _ h9 => h9) rfl (by decide +kernel) rfl rfl (Nat.le_of_ble_eq_true rfl) dX11_restore_63 (fun H locs hP hD hS => ?_)
    replace hP : va_P (dC, dI) vwCl (MW cI h q (upd f 8 x6) g (va_up (va_up (va_up (va_up (va_up (va_up (va_up (va_up a 24 u2.1) 10 u2.2) 25 u3.1) 11 u3.2) 26 u4.1) 12 u4.2) 27 u5.1) 19 u5.2)) H := hP
    replace hD : va_D A (MW cI h q (upd f 8 x6) g (va_up (va_up (va_up (va_up (va_up (va_up (va_up (va_up a 24 u2.1) 10 u2.2) 25 u3.1) 11 u3.2) 26 u4.1) 12 u4.2) 27 u5.1) 19 u5.2)) := hD
    refine lv_aload_n hx hb dX11_restore_66 rfl (lv_at hl 0 rfl) ?_
    refine lv_aload_n hx hb dX11_restore_67 rfl (lv_at hl 0 rfl) ?_
    refine va_get (D := (dC, dI)) (ci := 13) (v := .int (f 23)) (C := RX11) (T := TX11) (N := 29) hx hb hts hiX11 hown hK hP 0 rfl rfl 23 (by decide) hf241 (fun _ h9 => h9) rfl dX11_restore_68 ?_
    refine lv_topi (fun x7 ex7 => ?_)
    replace hw := hw x7 ex7
    refine va_put (D := (dC, dI)) (ci := 13) (v := .int x7) (ty := (.int)) (C := RX11) (T := TX11) (N := 29) hx hb hts hiX11 tyX11 tyX11_ok nmX11 hown hK hP hD hS 0 rfl rfl 18 (by decide) hf113 (fun _ h9 => h9) rfl (by decide +kernel) rfl rfl (Nat.le_of_ble_eq_true rfl) dX11_restore_71 (fun H locs hP hD hS => ?_)
    replace hP : va_P (dC, dI) vwCl (MW cI h q (upd (upd f 8 x6) 18 x7) g (va_up (va_up (va_up (va_up (va_up (va_up (va_up (va_up a 24 u2.1) 10 u2.2) 25 u3.1) 11 u3.2) 26 u4.1) 12 u4.2) 27 u5.1) 19 u5.2)) H := hP
    replace hD : va_D A (MW cI h q (upd (upd f 8 x6) 18 x7) g (va_up (va_up (va_up (va_up (va_up (va_up (va_up (va_up a 24 u2.1) 10 u2.2) 25 u3.1) 11 u3.2) 26 u4.1) 12 u4.2) 27 u5.1) 19 u5.2)) := hD
    refine lv_aload_n hx hb dX11_restore_74 rfl (lv_at hl 0 rfl) ?_
    refine va_get (D := (dC, dI)) (ci := 13) (v := .int x6) (C := RX11) (T := TX11) (N := 29) hx hb hts hiX11 hown hK hP 0 rfl rfl 8 (by decide) hf110 (fun _ h9 => h9) rfl dX11_restore_75 ?_
    exact hret dX11_restore_78 hK hP hD hS hw
  · replace hw := hw.2 hc1
    refine lv_bipush (v := -103) hx hb dX11_restore_11 (by decide) ?_
    exact hret dX11_restore_13 hK hP hD hS hw

def w_X11_valuesAll (f : Nat → Int32) (g : Int64) (a : Nat → Nat → Int32)  (Q : Int32 → MSt → Prop) : Prop := w_X11_layNow f g a (fun (u1 : MSt) => (∀ X4 : Int32 → Int32 → Prop, (∀ (x2 : Int32) (x3 : Int32), (((((u1.1 7) ≤ x3) → Q x2 u1) ∧ (¬ ((u1.1 7) ≤ x3) → (vp_in x3 10) ∧ ∀ x7 : Int32, x7 = (x2 + ((u1.2.2 13) x3.toNatClampNeg)) → ∀ x8 : Int32, x8 = x3 + (1 : Int32) → X4 x7 x8))) → X4 x2 x3) → X4 (0 : Int32) (0 : Int32)))
abbrev rmX11_valuesAll : Room := { frames := 3, cells := 0, slots := 0, locals := 64 }
set_option maxHeartbeats 4000000 in
set_option maxRecDepth 100000 in
theorem t_X11_valuesAll (l : Launch) (dC : Nat → ClassId) (dI : Nat → Nat → Nat) (cI : ClassId) (h : Nat) (q : Nat → Nat) (sz : Nat) (f : Nat → Int32) (g : Int64) (a : Nat → Nat → Int32)  (Q0 : Int32 → MSt → Prop) (hw : w_X11_valuesAll f g a  Q0) : Met l yX11_valuesAll wsX11_valuesAll rmX11_valuesAll (g_pre g_T (dC, dI) vwCl [(cI, .int)] (MW cI h q f g a) sz [.ref h]) (g_qi (dC, dI) vwCl [(cI, .int)] (MWu cI h q) Q0 (va_A (MW cI h q f g a) sz)) 0 0 (va_A (MW cI h q f g a) sz) := by
  refine g_starti (by decide) rfl (Nat.le_of_ble_eq_true rfl) ?_
  intro p e s m args below meth c A Q ls hx hb hml hown hts hin hK hP hD hA hS hZ hret hl
  obtain ⟨H, eH⟩ : ∃ H : Heap, H = s.heap := ⟨_, rfl⟩
  obtain ⟨locs, eL⟩ : ∃ L : List Loc, L = [] := ⟨_, rfl⟩
  have hS : va_S A s.heap H locs := by rw [eH, eL]; exact hS
  rw [← eH] at hP
  suffices hg : W p l e rmX11_valuesAll s m args below meth c H locs 0 0 Q (F0 m 0 ls []) by rw [eH, eL] at hg; exact hg
  clear eH eL
  replace hl : lv_has ls 3 [(0, .ref h)] := hl
  have hf103 := hts (.fieldLink RX11 103 "NumberPileModel" "bricks" "I") (by decide +kernel)
  have hiX11 : ∀ w ∈ u_ws RX11 TX11 29, w ∈ wsX11_valuesAll := fun w h => List.mem_cons_of_mem _ (List.mem_append_right _ h)
  have hf25 := hts (.fieldLink RX11 25 "NumberPileModel" "values" "[I") (by decide +kernel)
  unfold w_X11_valuesAll at hw
  refine lv_aload_n hx hb dX11_valuesAll_0 rfl (lv_at hl 0 rfl) ?_
  refine g_callVv (rest := []) (W2 := (MWu cI h q)) [] [0, 1, 2, 3, 4, 5, 6, 7, 8, 9, 10, 11, 12, 13] [] [0] [0, 1, 2, 3, 4, 5, 6, 7, 8, 9, 10, 11, 12, 13] g_Tb (fun _ _ _ _ => trivial) ⟨hx, hb, hml, hown, hts⟩ (t_X11_layNow l dC dI cI h q H.size f g a _ hw) (cwV 0 hts gX11_valuesAll_X11_layNow rfl rfl rfl (by decide +kernel) ⟨Nat.le_of_ble_eq_true rfl, Nat.le_of_ble_eq_true rfl⟩) hK hP hD hS hA rfl (by decide) (wr := []) rfl (by decide) (by decide) rfl (fun _ => rfl) (by decide) (q0 := 0) rfl rfl rfl hl.1 (Nat.le_of_ble_eq_true rfl) dX11_valuesAll_1 ⟨Nat.le_of_ble_eq_true rfl, Nat.le_of_ble_eq_true rfl⟩ (fun u1 H locs hw hP hD hS => ?_)
  refine lv_iconst (v := 0) hx hb dX11_valuesAll_4 (by decide) ?_
  refine lv_istore_n (lv' := [(1, .int (0 : Int32)), (0, .ref h)]) hx hb dX11_valuesAll_5 rfl hl (by decide) rfl (fun ls hl => ?_)
  refine lv_iconst (v := 0) hx hb dX11_valuesAll_6 (by decide) ?_
  refine lv_istore_n (lv' := [(2, .int (0 : Int32)), (1, .int (0 : Int32)), (0, .ref h)]) hx hb dX11_valuesAll_7 rfl hl (by decide) rfl (fun ls hl => ?_)
  refine hw (fun (x2 : Int32) (x3 : Int32) => ∀ (H : Heap) (locs : List Loc) (ls : Array Slot), va_P (dC, dI) vwCl (MW cI h q u1.1 (u1.2.1) u1.2.2) H → va_D A (MW cI h q u1.1 (u1.2.1) u1.2.2) → va_S A s.heap H locs → lv_has ls 3 [(0, .ref h), (1, .int x2), (2, .int x3)] → W p l e rmX11_valuesAll s m args below meth c H locs 0 0 Q (F0 m 8 ls [])) ?_ H locs ls hP hD hS (lv_sub hl [2, 1, 0] rfl)
  · intro x2 x3 hw H locs ls hP hD hS hl
    refine lv_iload_n hx hb dX11_valuesAll_8 rfl (lv_at hl 2 rfl) ?_
    refine lv_aload_n hx hb dX11_valuesAll_9 rfl (lv_at hl 0 rfl) ?_
    refine va_get (D := (dC, dI)) (ci := 13) (v := .int (u1.1 7)) (C := RX11) (T := TX11) (N := 29) hx hb hts hiX11 hown hK hP 0 rfl rfl 7 (by decide) hf103 (fun _ h9 => h9) rfl dX11_valuesAll_10 ?_
    refine lv_icmp_ge (tgt := 31) hx hb dX11_valuesAll_13 (by decide) (fun hc5 => ?_) (fun hc5 => ?_)
    · replace hw := hw.1 hc5
      refine lv_iload_n hx hb dX11_valuesAll_31 rfl (lv_at hl 1 rfl) ?_
      exact hret dX11_valuesAll_32 hK hP hD hS hw
    · replace hw := hw.2 hc5
      refine lv_iload_n hx hb dX11_valuesAll_16 rfl (lv_at hl 1 rfl) ?_
      refine lv_aload_n hx hb dX11_valuesAll_17 rfl (lv_at hl 0 rfl) ?_
      refine va_get (D := (dC, dI)) (ci := 13) (v := .ref (q 13)) (C := RX11) (T := TX11) (N := 29) hx hb hts hiX11 hown hK hP 0 rfl rfl 13 (by decide) hf25 (fun _ h9 => h9) rfl dX11_valuesAll_18 ?_
      refine lv_iload_n hx hb dX11_valuesAll_21 rfl (lv_at hl 2 rfl) ?_
      obtain ⟨hb6, hw⟩ := hw
      refine va_iald hx hb hK hP 6 0 rfl rfl hb6 dX11_valuesAll_22 ?_
      refine lv_iadd hx hb dX11_valuesAll_23 ?_
      refine lv_topi (fun x7 ex7 => ?_)
      replace hw := hw x7 ex7
      refine lv_istore_n (lv' := [(1, .int x7), (0, .ref h), (2, .int x3)]) hx hb dX11_valuesAll_24 rfl hl (by decide) rfl (fun ls hl => ?_)
      obtain ⟨x8, ex8⟩ : ∃ y : Int32, y = x3 + (1 : Int32) := ⟨_, rfl⟩
      replace hw := hw x8 ex8
      refine lv_iinc (v := x8) (lv' := [(2, .int x8), (1, .int x7), (0, .ref h)]) hx hb dX11_valuesAll_25 hl (k := 2) rfl (by rw [ex8]; rfl) (by decide) rfl (fun ls hl => ?_)
      refine lv_goto (tgt := 8) hx hb dX11_valuesAll_28 (by decide) ?_
      exact hw H locs ls hP hD hS (lv_sub hl [2, 1, 0] rfl)

def w_X11_toldMany (f : Nat → Int32) (g : Int64) (a : Nat → Nat → Int32) (p0 : Int32) (Q : Int32 → MSt → Prop) : Prop := w_X11_layNow f g a (fun (u1 : MSt) => (∀ X4 : Int32 → Int32 → Prop, (∀ (x2 : Int32) (x3 : Int32), (((((u1.1 7) ≤ x3) → Q x2 u1) ∧ (¬ ((u1.1 7) ≤ x3) → (vp_in x3 10) ∧ ∀ J8 : Int32 → Prop, (∀ (x7 : Int32), (∀ x9 : Int32, x9 = (x2 + x7) → ∀ x10 : Int32, x10 = x3 + (1 : Int32) → X4 x9 x10) → J8 x7) → ∀ J11 : Prop, ((J8 (0 : Int32)) → J11) → (((((u1.2.2 12) x3.toNatClampNeg) = (-1 : Int32)) → J11) ∧ (¬ (((u1.2.2 12) x3.toNatClampNeg) = (-1 : Int32)) → ∀ J13 : Prop, ((J8 (1 : Int32)) → J13) → (((p0 = 0) → J13) ∧ (¬ (p0 = 0) → (vp_in x3 10) ∧ (vp_in x3 10) ∧ (((¬ ((u1.2.2 12) x3.toNatClampNeg) = ((u1.2.2 13) x3.toNatClampNeg)) → J11) ∧ (((u1.2.2 12) x3.toNatClampNeg) = ((u1.2.2 13) x3.toNatClampNeg) → J13))))))))) → X4 x2 x3) → X4 (0 : Int32) (0 : Int32)))
abbrev rmX11_toldMany : Room := { frames := 3, cells := 0, slots := 0, locals := 64 }
set_option maxHeartbeats 4000000 in
set_option maxRecDepth 100000 in
theorem t_X11_toldMany (l : Launch) (dC : Nat → ClassId) (dI : Nat → Nat → Nat) (cI : ClassId) (h : Nat) (q : Nat → Nat) (sz : Nat) (f : Nat → Int32) (g : Int64) (a : Nat → Nat → Int32) (p0 : Int32) (Q0 : Int32 → MSt → Prop) (hw : w_X11_toldMany f g a p0 Q0) : Met l yX11_toldMany wsX11_toldMany rmX11_toldMany (g_pre g_T (dC, dI) vwCl [(cI, .int)] (MW cI h q f g a) sz [.ref h, .int p0]) (g_qi (dC, dI) vwCl [(cI, .int)] (MWu cI h q) Q0 (va_A (MW cI h q f g a) sz)) 0 0 (va_A (MW cI h q f g a) sz) := by
  refine g_starti (by decide) rfl (Nat.le_of_ble_eq_true rfl) ?_
  intro p e s m args below meth c A Q ls hx hb hml hown hts hin hK hP hD hA hS hZ hret hl
  obtain ⟨H, eH⟩ : ∃ H : Heap, H = s.heap := ⟨_, rfl⟩
  obtain ⟨locs, eL⟩ : ∃ L : List Loc, L = [] := ⟨_, rfl⟩
  have hS : va_S A s.heap H locs := by rw [eH, eL]; exact hS
  rw [← eH] at hP
  suffices hg : W p l e rmX11_toldMany s m args below meth c H locs 0 0 Q (F0 m 0 ls []) by rw [eH, eL] at hg; exact hg
  clear eH eL
  replace hl : lv_has ls 4 [(0, .ref h), (1, .int p0)] := hl
  have hf103 := hts (.fieldLink RX11 103 "NumberPileModel" "bricks" "I") (by decide +kernel)
  have hiX11 : ∀ w ∈ u_ws RX11 TX11 29, w ∈ wsX11_toldMany := fun w h => List.mem_cons_of_mem _ (List.mem_append_right _ h)
  have hf22 := hts (.fieldLink RX11 22 "NumberPileModel" "told" "[I") (by decide +kernel)
  have hf25 := hts (.fieldLink RX11 25 "NumberPileModel" "values" "[I") (by decide +kernel)
  unfold w_X11_toldMany at hw
  refine lv_aload_n hx hb dX11_toldMany_0 rfl (lv_at hl 0 rfl) ?_
  refine g_callVv (rest := []) (W2 := (MWu cI h q)) [] [0, 1, 2, 3, 4, 5, 6, 7, 8, 9, 10, 11, 12, 13] [] [0] [0, 1, 2, 3, 4, 5, 6, 7, 8, 9, 10, 11, 12, 13] g_Tb (fun _ _ _ _ => trivial) ⟨hx, hb, hml, hown, hts⟩ (t_X11_layNow l dC dI cI h q H.size f g a _ hw) (cwV 0 hts gX11_toldMany_X11_layNow rfl rfl rfl (by decide +kernel) ⟨Nat.le_of_ble_eq_true rfl, Nat.le_of_ble_eq_true rfl⟩) hK hP hD hS hA rfl (by decide) (wr := []) rfl (by decide) (by decide) rfl (fun _ => rfl) (by decide) (q0 := 0) rfl rfl rfl hl.1 (Nat.le_of_ble_eq_true rfl) dX11_toldMany_1 ⟨Nat.le_of_ble_eq_true rfl, Nat.le_of_ble_eq_true rfl⟩ (fun u1 H locs hw hP hD hS => ?_)
  refine lv_iconst (v := 0) hx hb dX11_toldMany_4 (by decide) ?_
  refine lv_istore_n (lv' := [(2, .int (0 : Int32)), (0, .ref h), (1, .int p0)]) hx hb dX11_toldMany_5 rfl hl (by decide) rfl (fun ls hl => ?_)
  refine lv_iconst (v := 0) hx hb dX11_toldMany_6 (by decide) ?_
  refine lv_istore_n (lv' := [(3, .int (0 : Int32)), (2, .int (0 : Int32)), (0, .ref h), (1, .int p0)]) hx hb dX11_toldMany_7 rfl hl (by decide) rfl (fun ls hl => ?_)
  refine hw (fun (x2 : Int32) (x3 : Int32) => ∀ (H : Heap) (locs : List Loc) (ls : Array Slot), va_P (dC, dI) vwCl (MW cI h q u1.1 (u1.2.1) u1.2.2) H → va_D A (MW cI h q u1.1 (u1.2.1) u1.2.2) → va_S A s.heap H locs → lv_has ls 4 [(0, .ref h), (1, .int p0), (2, .int x2), (3, .int x3)] → W p l e rmX11_toldMany s m args below meth c H locs 0 0 Q (F0 m 8 ls [])) ?_ H locs ls hP hD hS (lv_sub hl [2, 3, 1, 0] rfl)
  · intro x2 x3 hw H locs ls hP hD hS hl
    refine lv_iload_n hx hb dX11_toldMany_8 rfl (lv_at hl 3 rfl) ?_
    refine lv_aload_n hx hb dX11_toldMany_9 rfl (lv_at hl 0 rfl) ?_
    refine va_get (D := (dC, dI)) (ci := 13) (v := .int (u1.1 7)) (C := RX11) (T := TX11) (N := 29) hx hb hts hiX11 hown hK hP 0 rfl rfl 7 (by decide) hf103 (fun _ h9 => h9) rfl dX11_toldMany_10 ?_
    refine lv_icmp_ge (tgt := 59) hx hb dX11_toldMany_13 (by decide) (fun hc5 => ?_) (fun hc5 => ?_)
    · replace hw := hw.1 hc5
      refine lv_iload_n hx hb dX11_toldMany_59 rfl (lv_at hl 2 rfl) ?_
      exact hret dX11_toldMany_60 hK hP hD hS hw
    · replace hw := hw.2 hc5
      refine lv_iload_n hx hb dX11_toldMany_16 rfl (lv_at hl 2 rfl) ?_
      refine lv_aload_n hx hb dX11_toldMany_17 rfl (lv_at hl 0 rfl) ?_
      refine va_get (D := (dC, dI)) (ci := 13) (v := .ref (q 12)) (C := RX11) (T := TX11) (N := 29) hx hb hts hiX11 hown hK hP 0 rfl rfl 12 (by decide) hf22 (fun _ h9 => h9) rfl dX11_toldMany_18 ?_
      refine lv_iload_n hx hb dX11_toldMany_21 rfl (lv_at hl 3 rfl) ?_
      obtain ⟨hb6, hw⟩ := hw
      refine va_iald hx hb hK hP 5 0 rfl rfl hb6 dX11_toldMany_22 ?_
      refine lv_iconst (v := -1) hx hb dX11_toldMany_23 (by decide) ?_
      replace hw := hw (fun (x7 : Int32) => ∀ (H : Heap) (locs : List Loc) (ls : Array Slot), va_P (dC, dI) vwCl (MW cI h q u1.1 (u1.2.1) u1.2.2) H → va_D A (MW cI h q u1.1 (u1.2.1) u1.2.2) → va_S A s.heap H locs → lv_has ls 4 [(0, .ref h), (1, .int p0), (3, .int x3)] → W p l e rmX11_toldMany s m args below meth c H locs 0 0 Q (F0 m 51 ls [.int x7, .int x2])) (by
        intro x7 hw H locs ls hP hD hS hl
        refine lv_iadd hx hb dX11_toldMany_51 ?_
        refine lv_topi (fun x9 ex9 => ?_)
        replace hw := hw x9 ex9
        refine lv_istore_n (lv' := [(2, .int x9), (0, .ref h), (1, .int p0), (3, .int x3)]) hx hb dX11_toldMany_52 rfl hl (by decide) rfl (fun ls hl => ?_)
        obtain ⟨x10, ex10⟩ : ∃ y : Int32, y = x3 + (1 : Int32) := ⟨_, rfl⟩
        replace hw := hw x10 ex10
        refine lv_iinc (v := x10) (lv' := [(3, .int x10), (2, .int x9), (0, .ref h), (1, .int p0)]) hx hb dX11_toldMany_53 hl (k := 3) rfl (by rw [ex10]; rfl) (by decide) rfl (fun ls hl => ?_)
        refine lv_goto (tgt := 8) hx hb dX11_toldMany_56 (by decide) ?_
        exact hw H locs ls hP hD hS (lv_sub hl [2, 3, 1, 0] rfl))
      replace hw := hw (∀ (H : Heap) (locs : List Loc) (ls : Array Slot), va_P (dC, dI) vwCl (MW cI h q u1.1 (u1.2.1) u1.2.2) H → va_D A (MW cI h q u1.1 (u1.2.1) u1.2.2) → va_S A s.heap H locs → lv_has ls 4 [(0, .ref h), (1, .int p0), (3, .int x3)] → W p l e rmX11_toldMany s m args below meth c H locs 0 0 Q (F0 m 50 ls [.int x2])) (by
        intro hw H locs ls hP hD hS hl
        refine lv_iconst (v := 0) hx hb dX11_toldMany_50 (by decide) ?_
        exact hw H locs ls hP hD hS (lv_sub hl [0, 1, 2] rfl))
      refine lv_icmp_eq (tgt := 50) hx hb dX11_toldMany_24 (by decide) (fun hc12 => ?_) (fun hc12 => ?_)
      · replace hw := hw.1 hc12
        exact hw H locs ls hP hD hS (lv_sub hl [0, 1, 3] rfl)
      · replace hw := hw.2 hc12
        refine lv_iload_n hx hb dX11_toldMany_27 rfl (lv_at hl 1 rfl) ?_
        replace hw := hw (∀ (H : Heap) (locs : List Loc) (ls : Array Slot), va_P (dC, dI) vwCl (MW cI h q u1.1 (u1.2.1) u1.2.2) H → va_D A (MW cI h q u1.1 (u1.2.1) u1.2.2) → va_S A s.heap H locs → lv_has ls 4 [(0, .ref h), (1, .int p0), (3, .int x3)] → W p l e rmX11_toldMany s m args below meth c H locs 0 0 Q (F0 m 46 ls [.int x2])) (by
          intro hw H locs ls hP hD hS hl
          refine lv_iconst (v := 1) hx hb dX11_toldMany_46 (by decide) ?_
          refine lv_goto (tgt := 51) hx hb dX11_toldMany_47 (by decide) ?_
          exact hw H locs ls hP hD hS (lv_sub hl [0, 1, 2] rfl))
        refine lv_if_eq (tgt := 46) hx hb dX11_toldMany_28 (by decide) (fun hc14 => ?_) (fun hc14 => ?_)
        · replace hw := hw.1 hc14
          exact hw H locs ls hP hD hS (lv_sub hl [0, 1, 3] rfl)
        · replace hw := hw.2 hc14
          refine lv_aload_n hx hb dX11_toldMany_31 rfl (lv_at hl 0 rfl) ?_
          refine va_get (D := (dC, dI)) (ci := 13) (v := .ref (q 12)) (C := RX11) (T := TX11) (N := 29) hx hb hts hiX11 hown hK hP 0 rfl rfl 12 (by decide) hf22 (fun _ h9 => h9) rfl dX11_toldMany_32 ?_
          refine lv_iload_n hx hb dX11_toldMany_35 rfl (lv_at hl 3 rfl) ?_
          obtain ⟨hb15, hw⟩ := hw
          refine va_iald hx hb hK hP 5 0 rfl rfl hb15 dX11_toldMany_36 ?_
          refine lv_aload_n hx hb dX11_toldMany_37 rfl (lv_at hl 0 rfl) ?_
          refine va_get (D := (dC, dI)) (ci := 13) (v := .ref (q 13)) (C := RX11) (T := TX11) (N := 29) hx hb hts hiX11 hown hK hP 0 rfl rfl 13 (by decide) hf25 (fun _ h9 => h9) rfl dX11_toldMany_38 ?_
          refine lv_iload_n hx hb dX11_toldMany_41 rfl (lv_at hl 3 rfl) ?_
          obtain ⟨hb16, hw⟩ := hw
          refine va_iald hx hb hK hP 6 0 rfl rfl hb16 dX11_toldMany_42 ?_
          refine lv_icmp_ne (tgt := 50) hx hb dX11_toldMany_43 (by decide) (fun hc17 => ?_) (fun hc17 => ?_)
          · replace hw := hw.1 hc17
            exact hw H locs ls hP hD hS (lv_sub hl [0, 1, 3] rfl)
          · replace hw := hw.2 hc17
            exact hw H locs ls hP hD hS (lv_sub hl [0, 1, 3] rfl)

def w_X11_countOf (f : Nat → Int32) (g : Int64) (a : Nat → Nat → Int32) (p0 : Int32) (Q : Int32 → MSt → Prop) : Prop := ((p0 = 0 → Q (f 6) (f, g, a)) ∧ (¬ p0 = 0 → ((p0 = 1 → Q (f 7) (f, g, a)) ∧ (¬ p0 = 1 → ((p0 = 2 → w_X11_lacks f g a (fun (r5 : Int32) (u4 : MSt) => (((r5 = 0) → w_X11_topNow u4.1 (u4.2.1) u4.2.2 (fun (r8 : Int32) (u7 : MSt) => Q r8 u7)) ∧ (¬ (r5 = 0) → Q (-1 : Int32) u4)))) ∧ (¬ p0 = 2 → ((p0 = 3 → w_X11_valuesAll f g a (fun (r11 : Int32) (u10 : MSt) => Q r11 u10)) ∧ (¬ p0 = 3 → ((p0 = 4 → w_X11_toldMany f g a (0 : Int32) (fun (r14 : Int32) (u13 : MSt) => Q r14 u13)) ∧ (¬ p0 = 4 → ((p0 = 5 → w_X11_toldMany f g a (1 : Int32) (fun (r17 : Int32) (u16 : MSt) => Q r17 u16)) ∧ (¬ p0 = 5 → ((p0 = 6 → Q (f 8) (f, g, a)) ∧ (¬ p0 = 6 → ((p0 = 7 → Q (f 18) (f, g, a)) ∧ (¬ p0 = 7 → ((p0 = 8 → Q (f 1) (f, g, a)) ∧ (¬ p0 = 8 → ((p0 = 9 → Q (f 9) (f, g, a)) ∧ (¬ p0 = 9 → ((p0 = 10 → Q (f 15) (f, g, a)) ∧ (¬ p0 = 10 → ((p0 = 11 → Q (f 17) (f, g, a)) ∧ (¬ p0 = 11 → Q (-102 : Int32) (f, g, a)))))))))))))))))))))))))
abbrev rmX11_countOf : Room := { frames := 4, cells := 0, slots := 0, locals := 87 }
set_option maxHeartbeats 4000000 in
set_option maxRecDepth 100000 in
theorem t_X11_countOf (l : Launch) (dC : Nat → ClassId) (dI : Nat → Nat → Nat) (cI : ClassId) (h : Nat) (q : Nat → Nat) (sz : Nat) (f : Nat → Int32) (g : Int64) (a : Nat → Nat → Int32) (p0 : Int32) (Q0 : Int32 → MSt → Prop) (hw : w_X11_countOf f g a p0 Q0) : Met l yX11_countOf wsX11_countOf rmX11_countOf (g_pre g_T (dC, dI) vwCl [(cI, .int)] (MW cI h q f g a) sz [.ref h, .int p0]) (g_qi (dC, dI) vwCl [(cI, .int)] (MWu cI h q) Q0 (va_A (MW cI h q f g a) sz)) 0 0 (va_A (MW cI h q f g a) sz) := by
  refine g_starti (by decide) rfl (Nat.le_of_ble_eq_true rfl) ?_
  intro p e s m args below meth c A Q ls hx hb hml hown hts hin hK hP hD hA hS hZ hret hl
  obtain ⟨H, eH⟩ : ∃ H : Heap, H = s.heap := ⟨_, rfl⟩
  obtain ⟨locs, eL⟩ : ∃ L : List Loc, L = [] := ⟨_, rfl⟩
  have hS : va_S A s.heap H locs := by rw [eH, eL]; exact hS
  rw [← eH] at hP
  suffices hg : W p l e rmX11_countOf s m args below meth c H locs 0 0 Q (F0 m 0 ls []) by rw [eH, eL] at hg; exact hg
  clear eH eL
  replace hl : lv_has ls 2 [(0, .ref h), (1, .int p0)] := hl
  have hf97 := hts (.fieldLink RX11 97 "NumberPileModel" "wide" "I") (by decide +kernel)
  have hiX11 : ∀ w ∈ u_ws RX11 TX11 29, w ∈ wsX11_countOf := fun w h => List.mem_cons_of_mem _ (List.mem_append_right _ h)
  have hf103 := hts (.fieldLink RX11 103 "NumberPileModel" "bricks" "I") (by decide +kernel)
  have hf110 := hts (.fieldLink RX11 110 "NumberPileModel" "changes" "I") (by decide +kernel)
  have hf113 := hts (.fieldLink RX11 113 "NumberPileModel" "seenMany" "I") (by decide +kernel)
  have hf59 := hts (.fieldLink RX11 59 "NumberPileModel" "pageMany" "I") (by decide +kernel)
  have hf116 := hts (.fieldLink RX11 116 "NumberPileModel" "pilesRead" "I") (by decide +kernel)
  have hf191 := hts (.fieldLink RX11 191 "NumberPileModel" "needsDone" "I") (by decide +kernel)
  have hf207 := hts (.fieldLink RX11 207 "NumberPileModel" "looksDone" "I") (by decide +kernel)
  unfold w_X11_countOf at hw
  refine lv_iload_n hx hb dX11_countOf_0 rfl (lv_at hl 1 rfl) ?_
  by_cases hc1 : p0 = 0
  · replace hw := hw.1 hc1
    refine lv_tableIn (tgt := 64) hx hb dX11_countOf_1 (by rw [hc1]; decide) (by rw [hc1]; decide) (by rw [hc1]; rfl) (by decide) ?_
    refine lv_aload_n hx hb dX11_countOf_64 rfl (lv_at hl 0 rfl) ?_
    refine va_get (D := (dC, dI)) (ci := 13) (v := .int (f 6)) (C := RX11) (T := TX11) (N := 29) hx hb hts hiX11 hown hK hP 0 rfl rfl 6 (by decide) hf97 (fun _ h9 => h9) rfl dX11_countOf_65 ?_
    exact hret dX11_countOf_68 hK hP hD hS hw
  · replace hw := hw.2 hc1
    by_cases hc2 : p0 = 1
    · replace hw := hw.1 hc2
      refine lv_tableIn (tgt := 69) hx hb dX11_countOf_1 (by rw [hc2]; decide) (by rw [hc2]; decide) (by rw [hc2]; rfl) (by decide) ?_
      refine lv_aload_n hx hb dX11_countOf_69 rfl (lv_at hl 0 rfl) ?_
      refine va_get (D := (dC, dI)) (ci := 13) (v := .int (f 7)) (C := RX11) (T := TX11) (N := 29) hx hb hts hiX11 hown hK hP 0 rfl rfl 7 (by decide) hf103 (fun _ h9 => h9) rfl dX11_countOf_70 ?_
      exact hret dX11_countOf_73 hK hP hD hS hw
    · replace hw := hw.2 hc2
      by_cases hc3 : p0 = 2
      · replace hw := hw.1 hc3
        refine lv_tableIn (tgt := 74) hx hb dX11_countOf_1 (by rw [hc3]; decide) (by rw [hc3]; decide) (by rw [hc3]; rfl) (by decide) ?_
        refine lv_aload_n hx hb dX11_countOf_74 rfl (lv_at hl 0 rfl) ?_
        refine g_callVi (rest := []) (W2 := (MWu cI h q)) [] [0, 1, 2, 3, 4, 5, 6, 7, 8, 9, 10, 11, 12, 13] [] [0] [0, 1, 2, 3, 4, 5, 6, 7, 8, 9, 10, 11, 12, 13] g_Tb (fun _ _ _ _ => trivial) ⟨hx, hb, hml, hown, hts⟩ (t_X11_lacks l dC dI cI h q H.size f g a _ hw) (cwV 0 hts gX11_countOf_X11_lacks rfl rfl rfl (by decide +kernel) ⟨Nat.le_of_ble_eq_true rfl, Nat.le_of_ble_eq_true rfl⟩) hK hP hD hS hA rfl (by decide) (wr := []) rfl (by decide) (by decide) rfl (fun _ => rfl) (by decide) (q0 := 0) rfl rfl rfl hl.1 (Nat.le_of_ble_eq_true rfl) dX11_countOf_75 ⟨Nat.le_of_ble_eq_true rfl, Nat.le_of_ble_eq_true rfl⟩ (fun r5 u4 H locs hw hP hD hS => ?_)
        refine lv_if_eq (tgt := 85) hx hb dX11_countOf_78 (by decide) (fun hc6 => ?_) (fun hc6 => ?_)
        · replace hw := hw.1 hc6
          refine lv_aload_n hx hb dX11_countOf_85 rfl (lv_at hl 0 rfl) ?_
          refine g_callVi (rest := []) (W2 := (MWu cI h q)) [] [0, 1, 2, 3, 4, 5, 6, 7, 8, 9, 10, 11, 12, 13] [] [0] [0, 1, 2, 3, 4, 5, 6, 7, 8, 9, 10, 11, 12, 13] g_Tb (fun _ _ _ _ => trivial) ⟨hx, hb, hml, hown, hts⟩ (t_X11_topNow l dC dI cI h q H.size u4.1 (u4.2.1) u4.2.2 _ hw) (cwV 0 hts gX11_countOf_X11_topNow rfl rfl rfl (by decide +kernel) ⟨Nat.le_of_ble_eq_true rfl, Nat.le_of_ble_eq_true rfl⟩) hK hP hD hS hA rfl (by decide) (wr := []) rfl (by decide) (by decide) rfl (fun _ => rfl) (by decide) (q0 := 0) rfl rfl rfl hl.1 (Nat.le_of_ble_eq_true rfl) dX11_countOf_86 ⟨Nat.le_of_ble_eq_true rfl, Nat.le_of_ble_eq_true rfl⟩ (fun r8 u7 H locs hw hP hD hS => ?_)
          exact hret dX11_countOf_89 hK hP hD hS hw
        · replace hw := hw.2 hc6
          refine lv_iconst (v := -1) hx hb dX11_countOf_81 (by decide) ?_
          refine lv_goto (tgt := 89) hx hb dX11_countOf_82 (by decide) ?_
          exact hret dX11_countOf_89 hK hP hD hS hw
      · replace hw := hw.2 hc3
        by_cases hc9 : p0 = 3
        · replace hw := hw.1 hc9
          refine lv_tableIn (tgt := 90) hx hb dX11_countOf_1 (by rw [hc9]; decide) (by rw [hc9]; decide) (by rw [hc9]; rfl) (by decide) ?_
          refine lv_aload_n hx hb dX11_countOf_90 rfl (lv_at hl 0 rfl) ?_
          refine g_callVi (rest := []) (W2 := (MWu cI h q)) [] [0, 1, 2, 3, 4, 5, 6, 7, 8, 9, 10, 11, 12, 13] [] [0] [0, 1, 2, 3, 4, 5, 6, 7, 8, 9, 10, 11, 12, 13] g_Tb (fun _ _ _ _ => trivial) ⟨hx, hb, hml, hown, hts⟩ (t_X11_valuesAll l dC dI cI h q H.size f g a _ hw) (cwV 0 hts gX11_countOf_X11_valuesAll rfl rfl rfl (by decide +kernel) ⟨Nat.le_of_ble_eq_true rfl, Nat.le_of_ble_eq_true rfl⟩) hK hP hD hS hA rfl (by decide) (wr := []) rfl (by decide) (by decide) rfl (fun _ => rfl) (by decide) (q0 := 0) rfl rfl rfl hl.1 (Nat.le_of_ble_eq_true rfl) dX11_countOf_91 ⟨Nat.le_of_ble_eq_true rfl, Nat.le_of_ble_eq_true rfl⟩ (fun r11 u10 H locs hw hP hD hS => ?_)
          exact hret dX11_countOf_94 hK hP hD hS hw
        · replace hw := hw.2 hc9
          by_cases hc12 : p0 = 4
          · replace hw := hw.1 hc12
            refine lv_tableIn (tgt := 95) hx hb dX11_countOf_1 (by rw [hc12]; decide) (by rw [hc12]; decide) (by rw [hc12]; rfl) (by decide) ?_
            refine lv_aload_n hx hb dX11_countOf_95 rfl (lv_at hl 0 rfl) ?_
            refine lv_iconst (v := 0) hx hb dX11_countOf_96 (by decide) ?_
            refine g_callVi (rest := []) (W2 := (MWu cI h q)) [.int (0 : Int32)] [0, 1, 2, 3, 4, 5, 6, 7, 8, 9, 10, 11, 12, 13] [] [0] [0, 1, 2, 3, 4, 5, 6, 7, 8, 9, 10, 11, 12, 13] g_Tb (fun _ _ _ _ => trivial) ⟨hx, hb, hml, hown, hts⟩ (t_X11_toldMany l dC dI cI h q H.size f g a (0 : Int32) _ hw) (cwV 1 hts gX11_countOf_X11_toldMany rfl rfl rfl (by decide +kernel) ⟨Nat.le_of_ble_eq_true rfl, Nat.le_of_ble_eq_true rfl⟩) hK hP hD hS hA rfl (by decide) (wr := []) rfl (by decide) (by decide) rfl (fun _ => rfl) (by decide) (q0 := 0) rfl rfl rfl hl.1 (Nat.le_of_ble_eq_true rfl) dX11_countOf_97 ⟨Nat.le_of_ble_eq_true rfl, Nat.le_of_ble_eq_true rfl⟩ (fun r14 u13 H locs hw hP hD hS => ?_)
            exact hret dX11_countOf_100 hK hP hD hS hw
          · replace hw := hw.2 hc12
            by_cases hc15 : p0 = 5
            · replace hw := hw.1 hc15
              refine lv_tableIn (tgt := 101) hx hb dX11_countOf_1 (by rw [hc15]; decide) (by rw [hc15]; decide) (by rw [hc15]; rfl) (by decide) ?_
              refine lv_aload_n hx hb dX11_countOf_101 rfl (lv_at hl 0 rfl) ?_
              refine lv_iconst (v := 1) hx hb dX11_countOf_102 (by decide) ?_
              refine g_callVi (rest := []) (W2 := (MWu cI h q)) [.int (1 : Int32)] [0, 1, 2, 3, 4, 5, 6, 7, 8, 9, 10, 11, 12, 13] [] [0] [0, 1, 2, 3, 4, 5, 6, 7, 8, 9, 10, 11, 12, 13] g_Tb (fun _ _ _ _ => trivial) ⟨hx, hb, hml, hown, hts⟩ (t_X11_toldMany l dC dI cI h q H.size f g a (1 : Int32) _ hw) (cwV 1 hts gX11_countOf_X11_toldMany rfl rfl rfl (by decide +kernel) ⟨Nat.le_of_ble_eq_true rfl, Nat.le_of_ble_eq_true rfl⟩) hK hP hD hS hA rfl (by decide) (wr := []) rfl (by decide) (by decide) rfl (fun _ => rfl) (by decide) (q0 := 0) rfl rfl rfl hl.1 (Nat.le_of_ble_eq_true rfl) dX11_countOf_103 ⟨Nat.le_of_ble_eq_true rfl, Nat.le_of_ble_eq_true rfl⟩ (fun r17 u16 H locs hw hP hD hS => ?_)
              exact hret dX11_countOf_106 hK hP hD hS hw
            · replace hw := hw.2 hc15
              by_cases hc18 : p0 = 6
              · replace hw := hw.1 hc18
                refine lv_tableIn (tgt := 107) hx hb dX11_countOf_1 (by rw [hc18]; decide) (by rw [hc18]; decide) (by rw [hc18]; rfl) (by decide) ?_
                refine lv_aload_n hx hb dX11_countOf_107 rfl (lv_at hl 0 rfl) ?_
                refine va_get (D := (dC, dI)) (ci := 13) (v := .int (f 8)) (C := RX11) (T := TX11) (N := 29) hx hb hts hiX11 hown hK hP 0 rfl rfl 8 (by decide) hf110 (fun _ h9 => h9) rfl dX11_countOf_108 ?_
                exact hret dX11_countOf_111 hK hP hD hS hw
              · replace hw := hw.2 hc18
                by_cases hc19 : p0 = 7
                · replace hw := hw.1 hc19
                  refine lv_tableIn (tgt := 112) hx hb dX11_countOf_1 (by rw [hc19]; decide) (by rw [hc19]; decide) (by rw [hc19]; rfl) (by decide) ?_
                  refine lv_aload_n hx hb dX11_countOf_112 rfl (lv_at hl 0 rfl) ?_
                  refine va_get (D := (dC, dI)) (ci := 13) (v := .int (f 18)) (C := RX11) (T := TX11) (N := 29) hx hb hts hiX11 hown hK hP 0 rfl rfl 18 (by decide) hf113 (fun _ h9 => h9) rfl dX11_countOf_113 ?_
                  exact hret dX11_countOf_116 hK hP hD hS hw
                · replace hw := hw.2 hc19
                  by_cases hc20 : p0 = 8
                  · replace hw := hw.1 hc20
                    refine lv_tableIn (tgt := 117) hx hb dX11_countOf_1 (by rw [hc20]; decide) (by rw [hc20]; decide) (by rw [hc20]; rfl) (by decide) ?_
                    refine lv_aload_n hx hb dX11_countOf_117 rfl (lv_at hl 0 rfl) ?_
                    refine va_get (D := (dC, dI)) (ci := 13) (v := .int (f 1)) (C := RX11) (T := TX11) (N := 29) hx hb hts hiX11 hown hK hP 0 rfl rfl 1 (by decide) hf59 (fun _ h9 => h9) rfl dX11_countOf_118 ?_
                    exact hret dX11_countOf_121 hK hP hD hS hw
                  · replace hw := hw.2 hc20
                    by_cases hc21 : p0 = 9
                    · replace hw := hw.1 hc21
                      refine lv_tableIn (tgt := 122) hx hb dX11_countOf_1 (by rw [hc21]; decide) (by rw [hc21]; decide) (by rw [hc21]; rfl) (by decide) ?_
                      refine lv_aload_n hx hb dX11_countOf_122 rfl (lv_at hl 0 rfl) ?_
                      refine va_get (D := (dC, dI)) (ci := 13) (v := .int (f 9)) (C := RX11) (T := TX11) (N := 29) hx hb hts hiX11 hown hK hP 0 rfl rfl 9 (by decide) hf116 (fun _ h9 => h9) rfl dX11_countOf_123 ?_
                      exact hret dX11_countOf_126 hK hP hD hS hw
                    · replace hw := hw.2 hc21
                      by_cases hc22 : p0 = 10
                      · replace hw := hw.1 hc22
                        refine lv_tableIn (tgt := 127) hx hb dX11_countOf_1 (by rw [hc22]; decide) (by rw [hc22]; decide) (by rw [hc22]; rfl) (by decide) ?_
                        refine lv_aload_n hx hb dX11_countOf_127 rfl (lv_at hl 0 rfl) ?_
                        refine va_get (D := (dC, dI)) (ci := 13) (v := .int (f 15)) (C := RX11) (T := TX11) (N := 29) hx hb hts hiX11 hown hK hP 0 rfl rfl 15 (by decide) hf191 (fun _ h9 => h9) rfl dX11_countOf_128 ?_
                        exact hret dX11_countOf_131 hK hP hD hS hw
                      · replace hw := hw.2 hc22
                        by_cases hc23 : p0 = 11
                        · replace hw := hw.1 hc23
                          refine lv_tableIn (tgt := 132) hx hb dX11_countOf_1 (by rw [hc23]; decide) (by rw [hc23]; decide) (by rw [hc23]; rfl) (by decide) ?_
                          refine lv_aload_n hx hb dX11_countOf_132 rfl (lv_at hl 0 rfl) ?_
                          refine va_get (D := (dC, dI)) (ci := 13) (v := .int (f 17)) (C := RX11) (T := TX11) (N := 29) hx hb hts hiX11 hown hK hP 0 rfl rfl 17 (by decide) hf207 (fun _ h9 => h9) rfl dX11_countOf_133 ?_
                          exact hret dX11_countOf_136 hK hP hD hS hw
                        · replace hw := hw.2 hc23
                          refine lv_tableOut (tgt := 137) hx hb dX11_countOf_1 (by have z0 := lv_neT hc1 (a := 0) rfl; have z1 := lv_neT hc2 (a := 1) rfl; have z2 := lv_neT hc3 (a := 2) rfl; have z3 := lv_neT hc9 (a := 3) rfl; have z4 := lv_neT hc12 (a := 4) rfl; have z5 := lv_neT hc15 (a := 5) rfl; have z6 := lv_neT hc18 (a := 6) rfl; have z7 := lv_neT hc19 (a := 7) rfl; have z8 := lv_neT hc20 (a := 8) rfl; have z9 := lv_neT hc21 (a := 9) rfl; have z10 := lv_neT hc22 (a := 10) rfl; have z11 := lv_neT hc23 (a := 11) rfl; omega) (by decide) ?_
                          refine lv_bipush (v := -102) hx hb dX11_countOf_137 (by decide) ?_
                          exact hret dX11_countOf_139 hK hP hD hS hw

def w_X11_count (f : Nat → Int32) (g : Int64) (a : Nat → Nat → Int32) (p0 : Int32) (Q : Int32 → MSt → Prop) : Prop := w_X11_countOf f g a p0 (fun (r2 : Int32) (u1 : MSt) => Q r2 u1)
abbrev rmX11_count : Room := { frames := 5, cells := 0, slots := 0, locals := 108 }
set_option maxHeartbeats 4000000 in
set_option maxRecDepth 100000 in
theorem t_X11_count (l : Launch) (dC : Nat → ClassId) (dI : Nat → Nat → Nat) (cI : ClassId) (h : Nat) (q : Nat → Nat) (sz : Nat) (f : Nat → Int32) (g : Int64) (a : Nat → Nat → Int32) (p0 : Int32) (Q0 : Int32 → MSt → Prop) (hw : w_X11_count f g a p0 Q0) : Met l yX11_count wsX11_count rmX11_count (g_pre g_T (dC, dI) vwCl [(cI, .int)] (MW cI h q f g a) sz [.ref h, .int p0]) (g_qi (dC, dI) vwCl [(cI, .int)] (MWu cI h q) Q0 (va_A (MW cI h q f g a) sz)) 0 0 (va_A (MW cI h q f g a) sz) := by
  refine g_starti (by decide) rfl (Nat.le_of_ble_eq_true rfl) ?_
  intro p e s m args below meth c A Q ls hx hb hml hown hts hin hK hP hD hA hS hZ hret hl
  obtain ⟨H, eH⟩ : ∃ H : Heap, H = s.heap := ⟨_, rfl⟩
  obtain ⟨locs, eL⟩ : ∃ L : List Loc, L = [] := ⟨_, rfl⟩
  have hS : va_S A s.heap H locs := by rw [eH, eL]; exact hS
  rw [← eH] at hP
  suffices hg : W p l e rmX11_count s m args below meth c H locs 0 0 Q (F0 m 0 ls []) by rw [eH, eL] at hg; exact hg
  clear eH eL
  replace hl : lv_has ls 2 [(0, .ref h), (1, .int p0)] := hl
  unfold w_X11_count at hw
  refine lv_aload_n hx hb dX11_count_0 rfl (lv_at hl 0 rfl) ?_
  refine lv_iload_n hx hb dX11_count_1 rfl (lv_at hl 1 rfl) ?_
  refine g_callVi (rest := []) (W2 := (MWu cI h q)) [.int p0] [0, 1, 2, 3, 4, 5, 6, 7, 8, 9, 10, 11, 12, 13] [] [0] [0, 1, 2, 3, 4, 5, 6, 7, 8, 9, 10, 11, 12, 13] g_Tb (fun _ _ _ _ => trivial) ⟨hx, hb, hml, hown, hts⟩ (t_X11_countOf l dC dI cI h q H.size f g a p0 _ hw) (cwV 1 hts gX11_count_X11_countOf rfl rfl rfl (by decide +kernel) ⟨Nat.le_of_ble_eq_true rfl, Nat.le_of_ble_eq_true rfl⟩) hK hP hD hS hA rfl (by decide) (wr := []) rfl (by decide) (by decide) rfl (fun _ => rfl) (by decide) (q0 := 0) rfl rfl rfl hl.1 (Nat.le_of_ble_eq_true rfl) dX11_count_2 ⟨Nat.le_of_ble_eq_true rfl, Nat.le_of_ble_eq_true rfl⟩ (fun r2 u1 H locs hw hP hD hS => ?_)
  exact hret dX11_count_5 hK hP hD hS hw

def w_X11_say (f : Nat → Int32) (g : Int64) (a : Nat → Nat → Int32) (p0 : Int64) (Q : MSt → Prop) : Prop := ∀ x1 : Int64, x1 = (((31 : Int64) * g) + p0) → Q (f, x1, a)
abbrev rmX11_say : Room := { frames := 0, cells := 0, slots := 0, locals := 0 }
set_option maxHeartbeats 4000000 in
set_option maxRecDepth 100000 in
theorem t_X11_say (l : Launch) (dC : Nat → ClassId) (dI : Nat → Nat → Nat) (cI : ClassId) (h : Nat) (q : Nat → Nat) (sz : Nat) (f : Nat → Int32) (g : Int64) (a : Nat → Nat → Int32) (p0 : Int64) (Q0 : MSt → Prop) (hw : w_X11_say f g a p0 Q0) : Met l yX11_say wsX11_say rmX11_say (g_pre g_T (dC, dI) vwCl [(cI, .int)] (MW cI h q f g a) sz [.ref h, .long p0]) (g_qv (dC, dI) vwCl [(cI, .int)] (MWu cI h q) Q0 (va_A (MW cI h q f g a) sz)) 0 0 (va_A (MW cI h q f g a) sz) := by
  refine g_startv (by decide) rfl (Nat.le_of_ble_eq_true rfl) ?_
  intro p e s m args below meth c A Q ls hx hb hml hown hts hin hK hP hD hA hS hZ hret hl
  obtain ⟨H, eH⟩ : ∃ H : Heap, H = s.heap := ⟨_, rfl⟩
  obtain ⟨locs, eL⟩ : ∃ L : List Loc, L = [] := ⟨_, rfl⟩
  have hS : va_S A s.heap H locs := by rw [eH, eL]; exact hS
  rw [← eH] at hP
  suffices hg : W p l e rmX11_say s m args below meth c H locs 0 0 Q (F0 m 0 ls []) by rw [eH, eL] at hg; exact hg
  clear eH eL
  replace hl : lv_has ls 3 [(0, .ref h), (1, .long p0)] := hl
  have kc254 := hts (.constantLong RX11 254 (31)) (by decide +kernel)
  have hf256 := hts (.fieldLink RX11 256 "NumberPileModel" "hash" "J") (by decide +kernel)
  have hiX11 : ∀ w ∈ u_ws RX11 TX11 29, w ∈ wsX11_say := fun w h => List.mem_cons_of_mem _ (List.mem_append_right _ h)
  unfold w_X11_say at hw
  refine lv_aload_n hx hb dX11_say_0 rfl (lv_at hl 0 rfl) ?_
  refine lv_ldc2 hx hb hown kc254 dX11_say_1 ?_
  refine lv_aload_n hx hb dX11_say_4 rfl (lv_at hl 0 rfl) ?_
  refine va_get (D := (dC, dI)) (ci := 13) (v := .long g) (C := RX11) (T := TX11) (N := 29) hx hb hts hiX11 hown hK hP 0 rfl rfl 28 (by decide) hf256 (fun _ h9 => h9) rfl dX11_say_5 ?_
  refine lv_lmul hx hb dX11_say_8 ?_
  refine lv_lload_n hx hb dX11_say_9 rfl (lv_at hl 1 rfl) ?_
  refine lv_ladd hx hb dX11_say_10 ?_
  refine lv_topl (fun x1 ex1 => ?_)
  replace hw := hw x1 ex1
  refine va_put (D := (dC, dI)) (ci := 13) (v := .long x1) (ty := (.long)) (C := RX11) (T := TX11) (N := 29) hx hb hts hiX11 tyX11 tyX11_ok nmX11 hown hK hP hD hS 0 rfl rfl 28 (by decide) hf256 (fun _ h9 => h9) rfl (by decide +kernel) rfl rfl (Nat.le_of_ble_eq_true rfl) dX11_say_11 (fun H locs hP hD hS => ?_)
  replace hP : va_P (dC, dI) vwCl (MW cI h q f x1 a) H := hP
  replace hD : va_D A (MW cI h q f x1 a) := hD
  exact hret dX11_say_14 hK hP hD hS hw

def w_X11_digest (f : Nat → Int32) (g : Int64) (a : Nat → Nat → Int32)  (Q : Int64 → MSt → Prop) : Prop := (∀ X3 : Int32 → MSt → Prop, (∀ (x1 : Int32) (u2 : MSt), (((((u2.1 7) ≤ x1) → (∀ X7 : Int32 → MSt → Prop, (∀ (x5 : Int32) (u6 : MSt), (((((u6.1 6) ≤ x5) → w_X11_lacks u6.1 (u6.2.1) u6.2.2 (fun (r10 : Int32) (u9 : MSt) => ∀ J12 : MSt → Prop, (∀ (u11 : MSt), ((∀ X15 : Int32 → MSt → Prop, (∀ (x13 : Int32) (u14 : MSt), (((((u14.1 1) ≤ x13) → (∀ X19 : Int32 → MSt → Prop, (∀ (x17 : Int32) (u18 : MSt), (((((12 : Int32) ≤ x17) → Q (u18.2.1) u18) ∧ (¬ ((12 : Int32) ≤ x17) → w_X11_countOf u18.1 (u18.2.1) u18.2.2 x17 (fun (r22 : Int32) (u21 : MSt) => w_X11_say u21.1 (u21.2.1) u21.2.2 (r22.toInt64) (fun (u23 : MSt) => ∀ x24 : Int32, x24 = x17 + (1 : Int32) → X19 x24 u23))))) → X19 x17 u18) → X19 (0 : Int32) u14)) ∧ (¬ ((u14.1 1) ≤ x13) → (vp_in x13 18) ∧ w_X11_say u14.1 (u14.2.1) u14.2.2 (((u14.2.2 0) x13.toNatClampNeg).toInt64) (fun (u26 : MSt) => ∀ x27 : Int32, x27 = x13 + (1 : Int32) → X15 x27 u26)))) → X15 x13 u14) → X15 (0 : Int32) u11)) → J12 u11) → (((¬ r10 = 0) → J12 u9) ∧ (r10 = 0 → w_X11_orderOf u9.1 (u9.2.1) u9.2.2 (0 : Int32) (fun (r30 : Int32) (u29 : MSt) => w_X11_say u29.1 (u29.2.1) u29.2.2 (r30.toInt64) (fun (u31 : MSt) => w_X11_orderOf u31.1 (u31.2.1) u31.2.2 (1 : Int32) (fun (r33 : Int32) (u32 : MSt) => w_X11_say u32.1 (u32.2.1) u32.2.2 (r33.toInt64) (fun (u34 : MSt) => w_X11_leftMany u34.1 (u34.2.1) u34.2.2 (fun (r36 : Int32) (u35 : MSt) => w_X11_say u35.1 (u35.2.1) u35.2.2 (r36.toInt64) (fun (u37 : MSt) => w_X11_fitsOf u37.1 (u37.2.1) u37.2.2 (0 : Int32) (fun (r39 : Int32) (u38 : MSt) => w_X11_say u38.1 (u38.2.1) u38.2.2 (r39.toInt64) (fun (u40 : MSt) => J12 u40)))))))))))) ∧ (¬ ((u6.1 6) ≤ x5) → w_X11_swingOf u6.1 (u6.2.1) u6.2.2 x5 (fun (r42 : Int32) (u41 : MSt) => w_X11_say u41.1 (u41.2.1) u41.2.2 (r42.toInt64) (fun (u43 : MSt) => w_X11_oddsOf u43.1 (u43.2.1) u43.2.2 x5 (3 : Int32) (0 : Int32) (fun (r45 : Int32) (u44 : MSt) => w_X11_say u44.1 (u44.2.1) u44.2.2 (r45.toInt64) (fun (u46 : MSt) => w_X11_oddsOf u46.1 (u46.2.1) u46.2.2 x5 (3 : Int32) (1 : Int32) (fun (r48 : Int32) (u47 : MSt) => w_X11_say u47.1 (u47.2.1) u47.2.2 (r48.toInt64) (fun (u49 : MSt) => ∀ x50 : Int32, x50 = x5 + (1 : Int32) → X7 x50 u49))))))))) → X7 x5 u6) → X7 (0 : Int32) u2)) ∧ (¬ ((u2.1 7) ≤ x1) → (∀ X53 : Int32 → MSt → Prop, (∀ (x51 : Int32) (u52 : MSt), (((((7 : Int32) ≤ x51) → ∀ x55 : Int32, x55 = x1 + (1 : Int32) → X3 x55 u52) ∧ (¬ ((7 : Int32) ≤ x51) → w_X11_tellBrick u52.1 (u52.2.1) u52.2.2 x1 x51 (fun (r57 : Int32) (u56 : MSt) => w_X11_say u56.1 (u56.2.1) u56.2.2 (r57.toInt64) (fun (u58 : MSt) => ∀ x59 : Int32, x59 = x51 + (1 : Int32) → X53 x59 u58))))) → X53 x51 u52) → X53 (0 : Int32) u2)))) → X3 x1 u2) → X3 (0 : Int32) (f, (1327 : Int64), a))
abbrev rmX11_digest : Room := { frames := 5, cells := 0, slots := 0, locals := 117 }
set_option maxHeartbeats 4000000 in
set_option maxRecDepth 100000 in
theorem t_X11_digest (l : Launch) (dC : Nat → ClassId) (dI : Nat → Nat → Nat) (cI : ClassId) (h : Nat) (q : Nat → Nat) (sz : Nat) (f : Nat → Int32) (g : Int64) (a : Nat → Nat → Int32)  (Q0 : Int64 → MSt → Prop) (hw : w_X11_digest f g a  Q0) : Met l yX11_digest wsX11_digest rmX11_digest (g_pre g_T (dC, dI) vwCl [(cI, .int)] (MW cI h q f g a) sz [.ref h]) (g_ql (dC, dI) vwCl [(cI, .int)] (MWu cI h q) Q0 (va_A (MW cI h q f g a) sz)) 0 0 (va_A (MW cI h q f g a) sz) := by
  refine g_startl (by decide) rfl (Nat.le_of_ble_eq_true rfl) ?_
  intro p e s m args below meth c A Q ls hx hb hml hown hts hin hK hP hD hA hS hZ hret hl
  obtain ⟨H, eH⟩ : ∃ H : Heap, H = s.heap := ⟨_, rfl⟩
  obtain ⟨locs, eL⟩ : ∃ L : List Loc, L = [] := ⟨_, rfl⟩
  have hS : va_S A s.heap H locs := by rw [eH, eL]; exact hS
  rw [← eH] at hP
  suffices hg : W p l e rmX11_digest s m args below meth c H locs 0 0 Q (F0 m 0 ls []) by rw [eH, eL] at hg; exact hg
  clear eH eL
  replace hl : lv_has ls 3 [(0, .ref h)] := hl
  have kc260 := hts (.constantLong RX11 260 (1327)) (by decide +kernel)
  have hf256 := hts (.fieldLink RX11 256 "NumberPileModel" "hash" "J") (by decide +kernel)
  have hiX11 : ∀ w ∈ u_ws RX11 TX11 29, w ∈ wsX11_digest := fun w h => List.mem_cons_of_mem _ (List.mem_append_right _ h)
  have hf103 := hts (.fieldLink RX11 103 "NumberPileModel" "bricks" "I") (by decide +kernel)
  have hf97 := hts (.fieldLink RX11 97 "NumberPileModel" "wide" "I") (by decide +kernel)
  have hf59 := hts (.fieldLink RX11 59 "NumberPileModel" "pageMany" "I") (by decide +kernel)
  have hf7 := hts (.fieldLink RX11 7 "NumberPileModel" "page" "[I") (by decide +kernel)
  unfold w_X11_digest at hw
  refine lv_aload_n hx hb dX11_digest_0 rfl (lv_at hl 0 rfl) ?_
  refine lv_ldc2 hx hb hown kc260 dX11_digest_1 ?_
  refine va_put (D := (dC, dI)) (ci := 13) (v := .long (1327 : Int64)) (ty := (.long)) (C := RX11) (T := TX11) (N := 29) hx hb hts hiX11 tyX11 tyX11_ok nmX11 hown hK hP hD hS 0 rfl rfl 28 (by decide) hf256 (fun _ h9 => h9) rfl (by decide +kernel) rfl rfl (Nat.le_of_ble_eq_true rfl) dX11_digest_4 (fun H locs hP hD hS => ?_)
  replace hP : va_P (dC, dI) vwCl (MW cI h q f (1327 : Int64) a) H := hP
  replace hD : va_D A (MW cI h q f (1327 : Int64) a) := hD
  refine lv_iconst (v := 0) hx hb dX11_digest_7 (by decide) ?_
  refine lv_istore_n (lv' := [(1, .int (0 : Int32)), (0, .ref h)]) hx hb dX11_digest_8 rfl hl (by decide) rfl (fun ls hl => ?_)
  refine hw (fun (x1 : Int32) (u2 : MSt) => ∀ (H : Heap) (locs : List Loc) (ls : Array Slot), va_P (dC, dI) vwCl (MW cI h q u2.1 (u2.2.1) u2.2.2) H → va_D A (MW cI h q u2.1 (u2.2.1) u2.2.2) → va_S A s.heap H locs → lv_has ls 3 [(0, .ref h), (1, .int x1)] → W p l e rmX11_digest s m args below meth c H locs 0 0 Q (F0 m 9 ls [])) ?_ H locs ls hP hD hS (lv_sub hl [1, 0] rfl)
  · intro x1 u2 hw H locs ls hP hD hS hl
    refine lv_iload_n hx hb dX11_digest_9 rfl (lv_at hl 1 rfl) ?_
    refine lv_aload_n hx hb dX11_digest_10 rfl (lv_at hl 0 rfl) ?_
    refine va_get (D := (dC, dI)) (ci := 13) (v := .int (u2.1 7)) (C := RX11) (T := TX11) (N := 29) hx hb hts hiX11 hown hK hP 0 rfl rfl 7 (by decide) hf103 (fun _ h9 => h9) rfl dX11_digest_11 ?_
    refine lv_icmp_ge (tgt := 48) hx hb dX11_digest_14 (by decide) (fun hc4 => ?_) (fun hc4 => ?_)
    · replace hw := hw.1 hc4
      refine lv_iconst (v := 0) hx hb dX11_digest_48 (by decide) ?_
      refine lv_istore_n (lv' := [(1, .int (0 : Int32)), (0, .ref h)]) hx hb dX11_digest_49 rfl hl (by decide) rfl (fun ls hl => ?_)
      refine hw (fun (x5 : Int32) (u6 : MSt) => ∀ (H : Heap) (locs : List Loc) (ls : Array Slot), va_P (dC, dI) vwCl (MW cI h q u6.1 (u6.2.1) u6.2.2) H → va_D A (MW cI h q u6.1 (u6.2.1) u6.2.2) → va_S A s.heap H locs → lv_has ls 3 [(0, .ref h), (1, .int x5)] → W p l e rmX11_digest s m args below meth c H locs 0 0 Q (F0 m 50 ls [])) ?_ H locs ls hP hD hS (lv_sub hl [1, 0] rfl)
      · intro x5 u6 hw H locs ls hP hD hS hl
        refine lv_iload_n hx hb dX11_digest_50 rfl (lv_at hl 1 rfl) ?_
        refine lv_aload_n hx hb dX11_digest_51 rfl (lv_at hl 0 rfl) ?_
        refine va_get (D := (dC, dI)) (ci := 13) (v := .int (u6.1 6)) (C := RX11) (T := TX11) (N := 29) hx hb hts hiX11 hown hK hP 0 rfl rfl 6 (by decide) hf97 (fun _ h9 => h9) rfl dX11_digest_52 ?_
        refine lv_icmp_ge (tgt := 98) hx hb dX11_digest_55 (by decide) (fun hc8 => ?_) (fun hc8 => ?_)
        · replace hw := hw.1 hc8
          refine lv_aload_n hx hb dX11_digest_98 rfl (lv_at hl 0 rfl) ?_
          refine g_callVi (rest := []) (W2 := (MWu cI h q)) [] [0, 1, 2, 3, 4, 5, 6, 7, 8, 9, 10, 11, 12, 13] [] [0] [0, 1, 2, 3, 4, 5, 6, 7, 8, 9, 10, 11, 12, 13] g_Tb (fun _ _ _ _ => trivial) ⟨hx, hb, hml, hown, hts⟩ (t_X11_lacks l dC dI cI h q H.size u6.1 (u6.2.1) u6.2.2 _ hw) (cwV 0 hts gX11_digest_X11_lacks rfl rfl rfl (by decide +kernel) ⟨Nat.le_of_ble_eq_true rfl, Nat.le_of_ble_eq_true rfl⟩) hK hP hD hS hA rfl (by decide) (wr := []) rfl (by decide) (by decide) rfl (fun _ => rfl) (by decide) (q0 := 0) rfl rfl rfl hl.1 (Nat.le_of_ble_eq_true rfl) dX11_digest_99 ⟨Nat.le_of_ble_eq_true rfl, Nat.le_of_ble_eq_true rfl⟩ (fun r10 u9 H locs hw hP hD hS => ?_)
          replace hw := hw (fun (u11 : MSt) => ∀ (H : Heap) (locs : List Loc) (ls : Array Slot), va_P (dC, dI) vwCl (MW cI h q u11.1 (u11.2.1) u11.2.2) H → va_D A (MW cI h q u11.1 (u11.2.1) u11.2.2) → va_S A s.heap H locs → lv_has ls 3 [(0, .ref h)] → W p l e rmX11_digest s m args below meth c H locs 0 0 Q (F0 m 144 ls [])) (by
            intro u11 hw H locs ls hP hD hS hl
            refine lv_iconst (v := 0) hx hb dX11_digest_144 (by decide) ?_
            refine lv_istore_n (lv' := [(1, .int (0 : Int32)), (0, .ref h)]) hx hb dX11_digest_145 rfl hl (by decide) rfl (fun ls hl => ?_)
            refine hw (fun (x13 : Int32) (u14 : MSt) => ∀ (H : Heap) (locs : List Loc) (ls : Array Slot), va_P (dC, dI) vwCl (MW cI h q u14.1 (u14.2.1) u14.2.2) H → va_D A (MW cI h q u14.1 (u14.2.1) u14.2.2) → va_S A s.heap H locs → lv_has ls 3 [(0, .ref h), (1, .int x13)] → W p l e rmX11_digest s m args below meth c H locs 0 0 Q (F0 m 146 ls [])) ?_ H locs ls hP hD hS (lv_sub hl [1, 0] rfl)
            · intro x13 u14 hw H locs ls hP hD hS hl
              refine lv_iload_n hx hb dX11_digest_146 rfl (lv_at hl 1 rfl) ?_
              refine lv_aload_n hx hb dX11_digest_147 rfl (lv_at hl 0 rfl) ?_
              refine va_get (D := (dC, dI)) (ci := 13) (v := .int (u14.1 1)) (C := RX11) (T := TX11) (N := 29) hx hb hts hiX11 hown hK hP 0 rfl rfl 1 (by decide) hf59 (fun _ h9 => h9) rfl dX11_digest_148 ?_
              refine lv_icmp_ge (tgt := 171) hx hb dX11_digest_151 (by decide) (fun hc16 => ?_) (fun hc16 => ?_)
              · replace hw := hw.1 hc16
                refine lv_iconst (v := 0) hx hb dX11_digest_171 (by decide) ?_
                refine lv_istore_n (lv' := [(1, .int (0 : Int32)), (0, .ref h)]) hx hb dX11_digest_172 rfl hl (by decide) rfl (fun ls hl => ?_)
                refine hw (fun (x17 : Int32) (u18 : MSt) => ∀ (H : Heap) (locs : List Loc) (ls : Array Slot), va_P (dC, dI) vwCl (MW cI h q u18.1 (u18.2.1) u18.2.2) H → va_D A (MW cI h q u18.1 (u18.2.1) u18.2.2) → va_S A s.heap H locs → lv_has ls 3 [(0, .ref h), (1, .int x17)] → W p l e rmX11_digest s m args below meth c H locs 0 0 Q (F0 m 173 ls [])) ?_ H locs ls hP hD hS (lv_sub hl [1, 0] rfl)
                · intro x17 u18 hw H locs ls hP hD hS hl
                  refine lv_iload_n hx hb dX11_digest_173 rfl (lv_at hl 1 rfl) ?_
                  refine lv_bipush (v := 12) hx hb dX11_digest_174 (by decide) ?_
                  refine lv_icmp_ge (tgt := 195) hx hb dX11_digest_176 (by decide) (fun hc20 => ?_) (fun hc20 => ?_)
                  · replace hw := hw.1 hc20
                    refine lv_aload_n hx hb dX11_digest_195 rfl (lv_at hl 0 rfl) ?_
                    refine va_get (D := (dC, dI)) (ci := 13) (v := .long (u18.2.1)) (C := RX11) (T := TX11) (N := 29) hx hb hts hiX11 hown hK hP 0 rfl rfl 28 (by decide) hf256 (fun _ h9 => h9) rfl dX11_digest_196 ?_
                    exact hret dX11_digest_199 hK hP hD hS hw
                  · replace hw := hw.2 hc20
                    refine lv_aload_n hx hb dX11_digest_179 rfl (lv_at hl 0 rfl) ?_
                    refine lv_aload_n hx hb dX11_digest_180 rfl (lv_at hl 0 rfl) ?_
                    refine lv_iload_n hx hb dX11_digest_181 rfl (lv_at hl 1 rfl) ?_
                    refine g_callVi (rest := [.ref h]) (W2 := (MWu cI h q)) [.int x17] [0, 1, 2, 3, 4, 5, 6, 7, 8, 9, 10, 11, 12, 13] [] [0] [0, 1, 2, 3, 4, 5, 6, 7, 8, 9, 10, 11, 12, 13] g_Tb (fun _ _ _ _ => trivial) ⟨hx, hb, hml, hown, hts⟩ (t_X11_countOf l dC dI cI h q H.size u18.1 (u18.2.1) u18.2.2 x17 _ hw) (cwV 1 hts gX11_digest_X11_countOf rfl rfl rfl (by decide +kernel) ⟨Nat.le_of_ble_eq_true rfl, Nat.le_of_ble_eq_true rfl⟩) hK hP hD hS hA rfl (by decide) (wr := []) rfl (by decide) (by decide) rfl (fun _ => rfl) (by decide) (q0 := 0) rfl rfl rfl hl.1 (Nat.le_of_ble_eq_true rfl) dX11_digest_182 ⟨Nat.le_of_ble_eq_true rfl, Nat.le_of_ble_eq_true rfl⟩ (fun r22 u21 H locs hw hP hD hS => ?_)
                    refine lv_i2l hx hb dX11_digest_185 rfl ?_
                    refine g_callVv (rest := []) (W2 := (MWu cI h q)) [.long (r22.toInt64)] [0, 1, 2, 3, 4, 5, 6, 7, 8, 9, 10, 11, 12, 13] [] [0] [0, 1, 2, 3, 4, 5, 6, 7, 8, 9, 10, 11, 12, 13] g_Tb (fun _ _ _ _ => trivial) ⟨hx, hb, hml, hown, hts⟩ (t_X11_say l dC dI cI h q H.size u21.1 (u21.2.1) u21.2.2 (r22.toInt64) _ hw) (cwV 1 hts gX11_digest_X11_say rfl rfl rfl (by decide +kernel) ⟨Nat.le_of_ble_eq_true rfl, Nat.le_of_ble_eq_true rfl⟩) hK hP hD hS hA rfl (by decide) (wr := []) rfl (by decide) (by decide) rfl (fun _ => rfl) (by decide) (q0 := 0) rfl rfl rfl hl.1 (Nat.le_of_ble_eq_true rfl) dX11_digest_186 ⟨Nat.le_of_ble_eq_true rfl, Nat.le_of_ble_eq_true rfl⟩ (fun u23 H locs hw hP hD hS => ?_)
                    obtain ⟨x24, ex24⟩ : ∃ y : Int32, y = x17 + (1 : Int32) := ⟨_, rfl⟩
                    replace hw := hw x24 ex24
                    refine lv_iinc (v := x24) (lv' := [(1, .int x24), (0, .ref h)]) hx hb dX11_digest_189 hl (k := 1) rfl (by rw [ex24]; rfl) (by decide) rfl (fun ls hl => ?_)
                    refine lv_goto (tgt := 173) hx hb dX11_digest_192 (by decide) ?_
                    exact hw H locs ls hP hD hS (lv_sub hl [1, 0] rfl)
              · replace hw := hw.2 hc16
                refine lv_aload_n hx hb dX11_digest_154 rfl (lv_at hl 0 rfl) ?_
                refine lv_aload_n hx hb dX11_digest_155 rfl (lv_at hl 0 rfl) ?_
                refine va_get (D := (dC, dI)) (ci := 13) (v := .ref (q 0)) (C := RX11) (T := TX11) (N := 29) hx hb hts hiX11 hown hK hP 0 rfl rfl 0 (by decide) hf7 (fun _ h9 => h9) rfl dX11_digest_156 ?_
                refine lv_iload_n hx hb dX11_digest_159 rfl (lv_at hl 1 rfl) ?_
                obtain ⟨hb25, hw⟩ := hw
                refine va_iald hx hb hK hP 1 0 rfl rfl hb25 dX11_digest_160 ?_
                refine lv_i2l hx hb dX11_digest_161 rfl ?_
                refine g_callVv (rest := []) (W2 := (MWu cI h q)) [.long (((u14.2.2 0) x13.toNatClampNeg).toInt64)] [0, 1, 2, 3, 4, 5, 6, 7, 8, 9, 10, 11, 12, 13] [] [0] [0, 1, 2, 3, 4, 5, 6, 7, 8, 9, 10, 11, 12, 13] g_Tb (fun _ _ _ _ => trivial) ⟨hx, hb, hml, hown, hts⟩ (t_X11_say l dC dI cI h q H.size u14.1 (u14.2.1) u14.2.2 (((u14.2.2 0) x13.toNatClampNeg).toInt64) _ hw) (cwV 1 hts gX11_digest_X11_say rfl rfl rfl (by decide +kernel) ⟨Nat.le_of_ble_eq_true rfl, Nat.le_of_ble_eq_true rfl⟩) hK hP hD hS hA rfl (by decide) (wr := []) rfl (by decide) (by decide) rfl (fun _ => rfl) (by decide) (q0 := 0) rfl rfl rfl hl.1 (Nat.le_of_ble_eq_true rfl) dX11_digest_162 ⟨Nat.le_of_ble_eq_true rfl, Nat.le_of_ble_eq_true rfl⟩ (fun u26 H locs hw hP hD hS => ?_)
                obtain ⟨x27, ex27⟩ : ∃ y : Int32, y = x13 + (1 : Int32) := ⟨_, rfl⟩
                replace hw := hw x27 ex27
                refine lv_iinc (v := x27) (lv' := [(1, .int x27), (0, .ref h)]) hx hb dX11_digest_165 hl (k := 1) rfl (by rw [ex27]; rfl) (by decide) rfl (fun ls hl => ?_)
                refine lv_goto (tgt := 146) hx hb dX11_digest_168 (by decide) ?_
                exact hw H locs ls hP hD hS (lv_sub hl [1, 0] rfl))
          refine lv_if_ne (tgt := 144) hx hb dX11_digest_102 (by decide) (fun hc28 => ?_) (fun hc28 => ?_)
          · replace hw := hw.1 hc28
            exact hw H locs ls hP hD hS (lv_sub hl [0] rfl)
          · replace hw := hw.2 hc28
            refine lv_aload_n hx hb dX11_digest_105 rfl (lv_at hl 0 rfl) ?_
            refine lv_aload_n hx hb dX11_digest_106 rfl (lv_at hl 0 rfl) ?_
            refine lv_iconst (v := 0) hx hb dX11_digest_107 (by decide) ?_
            refine g_callVi (rest := [.ref h]) (W2 := (MWu cI h q)) [.int (0 : Int32)] [0, 1, 2, 3, 4, 5, 6, 7, 8, 9, 10, 11, 12, 13] [] [0] [0, 1, 2, 3, 4, 5, 6, 7, 8, 9, 10, 11, 12, 13] g_Tb (fun _ _ _ _ => trivial) ⟨hx, hb, hml, hown, hts⟩ (t_X11_orderOf l dC dI cI h q H.size u9.1 (u9.2.1) u9.2.2 (0 : Int32) _ hw) (cwV 1 hts gX11_digest_X11_orderOf rfl rfl rfl (by decide +kernel) ⟨Nat.le_of_ble_eq_true rfl, Nat.le_of_ble_eq_true rfl⟩) hK hP hD hS hA rfl (by decide) (wr := []) rfl (by decide) (by decide) rfl (fun _ => rfl) (by decide) (q0 := 0) rfl rfl rfl hl.1 (Nat.le_of_ble_eq_true rfl) dX11_digest_108 ⟨Nat.le_of_ble_eq_true rfl, Nat.le_of_ble_eq_true rfl⟩ (fun r30 u29 H locs hw hP hD hS => ?_)
            refine lv_i2l hx hb dX11_digest_111 rfl ?_
            refine g_callVv (rest := []) (W2 := (MWu cI h q)) [.long (r30.toInt64)] [0, 1, 2, 3, 4, 5, 6, 7, 8, 9, 10, 11, 12, 13] [] [0] [0, 1, 2, 3, 4, 5, 6, 7, 8, 9, 10, 11, 12, 13] g_Tb (fun _ _ _ _ => trivial) ⟨hx, hb, hml, hown, hts⟩ (t_X11_say l dC dI cI h q H.size u29.1 (u29.2.1) u29.2.2 (r30.toInt64) _ hw) (cwV 1 hts gX11_digest_X11_say rfl rfl rfl (by decide +kernel) ⟨Nat.le_of_ble_eq_true rfl, Nat.le_of_ble_eq_true rfl⟩) hK hP hD hS hA rfl (by decide) (wr := []) rfl (by decide) (by decide) rfl (fun _ => rfl) (by decide) (q0 := 0) rfl rfl rfl hl.1 (Nat.le_of_ble_eq_true rfl) dX11_digest_112 ⟨Nat.le_of_ble_eq_true rfl, Nat.le_of_ble_eq_true rfl⟩ (fun u31 H locs hw hP hD hS => ?_)
            refine lv_aload_n hx hb dX11_digest_115 rfl (lv_at hl 0 rfl) ?_
            refine lv_aload_n hx hb dX11_digest_116 rfl (lv_at hl 0 rfl) ?_
            refine lv_iconst (v := 1) hx hb dX11_digest_117 (by decide) ?_
            refine g_callVi (rest := [.ref h]) (W2 := (MWu cI h q)) [.int (1 : Int32)] [0, 1, 2, 3, 4, 5, 6, 7, 8, 9, 10, 11, 12, 13] [] [0] [0, 1, 2, 3, 4, 5, 6, 7, 8, 9, 10, 11, 12, 13] g_Tb (fun _ _ _ _ => trivial) ⟨hx, hb, hml, hown, hts⟩ (t_X11_orderOf l dC dI cI h q H.size u31.1 (u31.2.1) u31.2.2 (1 : Int32) _ hw) (cwV 1 hts gX11_digest_X11_orderOf rfl rfl rfl (by decide +kernel) ⟨Nat.le_of_ble_eq_true rfl, Nat.le_of_ble_eq_true rfl⟩) hK hP hD hS hA rfl (by decide) (wr := []) rfl (by decide) (by decide) rfl (fun _ => rfl) (by decide) (q0 := 0) rfl rfl rfl hl.1 (Nat.le_of_ble_eq_true rfl) dX11_digest_118 ⟨Nat.le_of_ble_eq_true rfl, Nat.le_of_ble_eq_true rfl⟩ (fun r33 u32 H locs hw hP hD hS => ?_)
            refine lv_i2l hx hb dX11_digest_121 rfl ?_
            refine g_callVv (rest := []) (W2 := (MWu cI h q)) [.long (r33.toInt64)] [0, 1, 2, 3, 4, 5, 6, 7, 8, 9, 10, 11, 12, 13] [] [0] [0, 1, 2, 3, 4, 5, 6, 7, 8, 9, 10, 11, 12, 13] g_Tb (fun _ _ _ _ => trivial) ⟨hx, hb, hml, hown, hts⟩ (t_X11_say l dC dI cI h q H.size u32.1 (u32.2.1) u32.2.2 (r33.toInt64) _ hw) (cwV 1 hts gX11_digest_X11_say rfl rfl rfl (by decide +kernel) ⟨Nat.le_of_ble_eq_true rfl, Nat.le_of_ble_eq_true rfl⟩) hK hP hD hS hA rfl (by decide) (wr := []) rfl (by decide) (by decide) rfl (fun _ => rfl) (by decide) (q0 := 0) rfl rfl rfl hl.1 (Nat.le_of_ble_eq_true rfl) dX11_digest_122 ⟨Nat.le_of_ble_eq_true rfl, Nat.le_of_ble_eq_true rfl⟩ (fun u34 H locs hw hP hD hS => ?_)
            refine lv_aload_n hx hb dX11_digest_125 rfl (lv_at hl 0 rfl) ?_
            refine lv_aload_n hx hb dX11_digest_126 rfl (lv_at hl 0 rfl) ?_
            refine g_callVi (rest := [.ref h]) (W2 := (MWu cI h q)) [] [0, 1, 2, 3, 4, 5, 6, 7, 8, 9, 10, 11, 12, 13] [] [0] [0, 1, 2, 3, 4, 5, 6, 7, 8, 9, 10, 11, 12, 13] g_Tb (fun _ _ _ _ => trivial) ⟨hx, hb, hml, hown, hts⟩ (t_X11_leftMany l dC dI cI h q H.size u34.1 (u34.2.1) u34.2.2 _ hw) (cwV 0 hts gX11_digest_X11_leftMany rfl rfl rfl (by decide +kernel) ⟨Nat.le_of_ble_eq_true rfl, Nat.le_of_ble_eq_true rfl⟩) hK hP hD hS hA rfl (by decide) (wr := []) rfl (by decide) (by decide) rfl (fun _ => rfl) (by decide) (q0 := 0) rfl rfl rfl hl.1 (Nat.le_of_ble_eq_true rfl) dX11_digest_127 ⟨Nat.le_of_ble_eq_true rfl, Nat.le_of_ble_eq_true rfl⟩ (fun r36 u35 H locs hw hP hD hS => ?_)
            refine lv_i2l hx hb dX11_digest_130 rfl ?_
            refine g_callVv (rest := []) (W2 := (MWu cI h q)) [.long (r36.toInt64)] [0, 1, 2, 3, 4, 5, 6, 7, 8, 9, 10, 11, 12, 13] [] [0] [0, 1, 2, 3, 4, 5, 6, 7, 8, 9, 10, 11, 12, 13] g_Tb (fun _ _ _ _ => trivial) ⟨hx, hb, hml, hown, hts⟩ (t_X11_say l dC dI cI h q H.size u35.1 (u35.2.1) u35.2.2 (r36.toInt64) _ hw) (cwV 1 hts gX11_digest_X11_say rfl rfl rfl (by decide +kernel) ⟨Nat.le_of_ble_eq_true rfl, Nat.le_of_ble_eq_true rfl⟩) hK hP hD hS hA rfl (by decide) (wr := []) rfl (by decide) (by decide) rfl (fun _ => rfl) (by decide) (q0 := 0) rfl rfl rfl hl.1 (Nat.le_of_ble_eq_true rfl) dX11_digest_131 ⟨Nat.le_of_ble_eq_true rfl, Nat.le_of_ble_eq_true rfl⟩ (fun u37 H locs hw hP hD hS => ?_)
            refine lv_aload_n hx hb dX11_digest_134 rfl (lv_at hl 0 rfl) ?_
            refine lv_aload_n hx hb dX11_digest_135 rfl (lv_at hl 0 rfl) ?_
            refine lv_iconst (v := 0) hx hb dX11_digest_136 (by decide) ?_
            refine g_callVi (rest := [.ref h]) (W2 := (MWu cI h q)) [.int (0 : Int32)] [0, 1, 2, 3, 4, 5, 6, 7, 8, 9, 10, 11, 12, 13] [] [0] [0, 1, 2, 3, 4, 5, 6, 7, 8, 9, 10, 11, 12, 13] g_Tb (fun _ _ _ _ => trivial) ⟨hx, hb, hml, hown, hts⟩ (t_X11_fitsOf l dC dI cI h q H.size u37.1 (u37.2.1) u37.2.2 (0 : Int32) _ hw) (cwV 1 hts gX11_digest_X11_fitsOf rfl rfl rfl (by decide +kernel) ⟨Nat.le_of_ble_eq_true rfl, Nat.le_of_ble_eq_true rfl⟩) hK hP hD hS hA rfl (by decide) (wr := []) rfl (by decide) (by decide) rfl (fun _ => rfl) (by decide) (q0 := 0) rfl rfl rfl hl.1 (Nat.le_of_ble_eq_true rfl) dX11_digest_137 ⟨Nat.le_of_ble_eq_true rfl, Nat.le_of_ble_eq_true rfl⟩ (fun r39 u38 H locs hw hP hD hS => ?_)
            refine lv_i2l hx hb dX11_digest_140 rfl ?_
            refine g_callVv (rest := []) (W2 := (MWu cI h q)) [.long (r39.toInt64)] [0, 1, 2, 3, 4, 5, 6, 7, 8, 9, 10, 11, 12, 13] [] [0] [0, 1, 2, 3, 4, 5, 6, 7, 8, 9, 10, 11, 12, 13] g_Tb (fun _ _ _ _ => trivial) ⟨hx, hb, hml, hown, hts⟩ (t_X11_say l dC dI cI h q H.size u38.1 (u38.2.1) u38.2.2 (r39.toInt64) _ hw) (cwV 1 hts gX11_digest_X11_say rfl rfl rfl (by decide +kernel) ⟨Nat.le_of_ble_eq_true rfl, Nat.le_of_ble_eq_true rfl⟩) hK hP hD hS hA rfl (by decide) (wr := []) rfl (by decide) (by decide) rfl (fun _ => rfl) (by decide) (q0 := 0) rfl rfl rfl hl.1 (Nat.le_of_ble_eq_true rfl) dX11_digest_141 ⟨Nat.le_of_ble_eq_true rfl, Nat.le_of_ble_eq_true rfl⟩ (fun u40 H locs hw hP hD hS => ?_)
            exact hw H locs ls hP hD hS (lv_sub hl [0] rfl)
        · replace hw := hw.2 hc8
          refine lv_aload_n hx hb dX11_digest_58 rfl (lv_at hl 0 rfl) ?_
          refine lv_aload_n hx hb dX11_digest_59 rfl (lv_at hl 0 rfl) ?_
          refine lv_iload_n hx hb dX11_digest_60 rfl (lv_at hl 1 rfl) ?_
          refine g_callVi (rest := [.ref h]) (W2 := (MWu cI h q)) [.int x5] [0, 1, 2, 3, 4, 5, 6, 7, 8, 9, 10, 11, 12, 13] [] [0] [0, 1, 2, 3, 4, 5, 6, 7, 8, 9, 10, 11, 12, 13] g_Tb (fun _ _ _ _ => trivial) ⟨hx, hb, hml, hown, hts⟩ (t_X11_swingOf l dC dI cI h q H.size u6.1 (u6.2.1) u6.2.2 x5 _ hw) (cwV 1 hts gX11_digest_X11_swingOf rfl rfl rfl (by decide +kernel) ⟨Nat.le_of_ble_eq_true rfl, Nat.le_of_ble_eq_true rfl⟩) hK hP hD hS hA rfl (by decide) (wr := []) rfl (by decide) (by decide) rfl (fun _ => rfl) (by decide) (q0 := 0) rfl rfl rfl hl.1 (Nat.le_of_ble_eq_true rfl) dX11_digest_61 ⟨Nat.le_of_ble_eq_true rfl, Nat.le_of_ble_eq_true rfl⟩ (fun r42 u41 H locs hw hP hD hS => ?_)
          refine lv_i2l hx hb dX11_digest_64 rfl ?_
          refine g_callVv (rest := []) (W2 := (MWu cI h q)) [.long (r42.toInt64)] [0, 1, 2, 3, 4, 5, 6, 7, 8, 9, 10, 11, 12, 13] [] [0] [0, 1, 2, 3, 4, 5, 6, 7, 8, 9, 10, 11, 12, 13] g_Tb (fun _ _ _ _ => trivial) ⟨hx, hb, hml, hown, hts⟩ (t_X11_say l dC dI cI h q H.size u41.1 (u41.2.1) u41.2.2 (r42.toInt64) _ hw) (cwV 1 hts gX11_digest_X11_say rfl rfl rfl (by decide +kernel) ⟨Nat.le_of_ble_eq_true rfl, Nat.le_of_ble_eq_true rfl⟩) hK hP hD hS hA rfl (by decide) (wr := []) rfl (by decide) (by decide) rfl (fun _ => rfl) (by decide) (q0 := 0) rfl rfl rfl hl.1 (Nat.le_of_ble_eq_true rfl) dX11_digest_65 ⟨Nat.le_of_ble_eq_true rfl, Nat.le_of_ble_eq_true rfl⟩ (fun u43 H locs hw hP hD hS => ?_)
          refine lv_aload_n hx hb dX11_digest_68 rfl (lv_at hl 0 rfl) ?_
          refine lv_aload_n hx hb dX11_digest_69 rfl (lv_at hl 0 rfl) ?_
          refine lv_iload_n hx hb dX11_digest_70 rfl (lv_at hl 1 rfl) ?_
          refine lv_iconst (v := 3) hx hb dX11_digest_71 (by decide) ?_
          refine lv_iconst (v := 0) hx hb dX11_digest_72 (by decide) ?_
          refine g_callVi (rest := [.ref h]) (W2 := (MWu cI h q)) [.int x5, .int (3 : Int32), .int (0 : Int32)] [0, 1, 2, 3, 4, 5, 6, 7, 8, 9, 10, 11, 12, 13] [] [0] [0, 1, 2, 3, 4, 5, 6, 7, 8, 9, 10, 11, 12, 13] g_Tb (fun _ _ _ _ => trivial) ⟨hx, hb, hml, hown, hts⟩ (t_X11_oddsOf l dC dI cI h q H.size u43.1 (u43.2.1) u43.2.2 x5 (3 : Int32) (0 : Int32) _ hw) (cwV 3 hts gX11_digest_X11_oddsOf rfl rfl rfl (by decide +kernel) ⟨Nat.le_of_ble_eq_true rfl, Nat.le_of_ble_eq_true rfl⟩) hK hP hD hS hA rfl (by decide) (wr := []) rfl (by decide) (by decide) rfl (fun _ => rfl) (by decide) (q0 := 0) rfl rfl rfl hl.1 (Nat.le_of_ble_eq_true rfl) dX11_digest_73 ⟨Nat.le_of_ble_eq_true rfl, Nat.le_of_ble_eq_true rfl⟩ (fun r45 u44 H locs hw hP hD hS => ?_)
          refine lv_i2l hx hb dX11_digest_76 rfl ?_
          refine g_callVv (rest := []) (W2 := (MWu cI h q)) [.long (r45.toInt64)] [0, 1, 2, 3, 4, 5, 6, 7, 8, 9, 10, 11, 12, 13] [] [0] [0, 1, 2, 3, 4, 5, 6, 7, 8, 9, 10, 11, 12, 13] g_Tb (fun _ _ _ _ => trivial) ⟨hx, hb, hml, hown, hts⟩ (t_X11_say l dC dI cI h q H.size u44.1 (u44.2.1) u44.2.2 (r45.toInt64) _ hw) (cwV 1 hts gX11_digest_X11_say rfl rfl rfl (by decide +kernel) ⟨Nat.le_of_ble_eq_true rfl, Nat.le_of_ble_eq_true rfl⟩) hK hP hD hS hA rfl (by decide) (wr := []) rfl (by decide) (by decide) rfl (fun _ => rfl) (by decide) (q0 := 0) rfl rfl rfl hl.1 (Nat.le_of_ble_eq_true rfl) dX11_digest_77 ⟨Nat.le_of_ble_eq_true rfl, Nat.le_of_ble_eq_true rfl⟩ (fun u46 H locs hw hP hD hS => ?_)
          refine lv_aload_n hx hb dX11_digest_80 rfl (lv_at hl 0 rfl) ?_
          refine lv_aload_n hx hb dX11_digest_81 rfl (lv_at hl 0 rfl) ?_
          refine lv_iload_n hx hb dX11_digest_82 rfl (lv_at hl 1 rfl) ?_
          refine lv_iconst (v := 3) hx hb dX11_digest_83 (by decide) ?_
          refine lv_iconst (v := 1) hx hb dX11_digest_84 (by decide) ?_
          refine g_callVi (rest := [.ref h]) (W2 := (MWu cI h q)) [.int x5, .int (3 : Int32), .int (1 : Int32)] [0, 1, 2, 3, 4, 5, 6, 7, 8, 9, 10, 11, 12, 13] [] [0] [0, 1, 2, 3, 4, 5, 6, 7, 8, 9, 10, 11, 12, 13] g_Tb (fun _ _ _ _ => trivial) ⟨hx, hb, hml, hown, hts⟩ (t_X11_oddsOf l dC dI cI h q H.size u46.1 (u46.2.1) u46.2.2 x5 (3 : Int32) (1 : Int32) _ hw) (cwV 3 hts gX11_digest_X11_oddsOf rfl rfl rfl (by decide +kernel) ⟨Nat.le_of_ble_eq_true rfl, Nat.le_of_ble_eq_true rfl⟩) hK hP hD hS hA rfl (by decide) (wr := []) rfl (by decide) (by decide) rfl (fun _ => rfl) (by decide) (q0 := 0) rfl rfl rfl hl.1 (Nat.le_of_ble_eq_true rfl) dX11_digest_85 ⟨Nat.le_of_ble_eq_true rfl, Nat.le_of_ble_eq_true rfl⟩ (fun r48 u47 H locs hw hP hD hS => ?_)
          refine lv_i2l hx hb dX11_digest_88 rfl ?_
          refine g_callVv (rest := []) (W2 := (MWu cI h q)) [.long (r48.toInt64)] [0, 1, 2, 3, 4, 5, 6, 7, 8, 9, 10, 11, 12, 13] [] [0] [0, 1, 2, 3, 4, 5, 6, 7, 8, 9, 10, 11, 12, 13] g_Tb (fun _ _ _ _ => trivial) ⟨hx, hb, hml, hown, hts⟩ (t_X11_say l dC dI cI h q H.size u47.1 (u47.2.1) u47.2.2 (r48.toInt64) _ hw) (cwV 1 hts gX11_digest_X11_say rfl rfl rfl (by decide +kernel) ⟨Nat.le_of_ble_eq_true rfl, Nat.le_of_ble_eq_true rfl⟩) hK hP hD hS hA rfl (by decide) (wr := []) rfl (by decide) (by decide) rfl (fun _ => rfl) (by decide) (q0 := 0) rfl rfl rfl hl.1 (Nat.le_of_ble_eq_true rfl) dX11_digest_89 ⟨Nat.le_of_ble_eq_true rfl, Nat.le_of_ble_eq_true rfl⟩ (fun u49 H locs hw hP hD hS => ?_)
          obtain ⟨x50, ex50⟩ : ∃ y : Int32, y = x5 + (1 : Int32) := ⟨_, rfl⟩
          replace hw := hw x50 ex50
          refine lv_iinc (v := x50) (lv' := [(1, .int x50), (0, .ref h)]) hx hb dX11_digest_92 hl (k := 1) rfl (by rw [ex50]; rfl) (by decide) rfl (fun ls hl => ?_)
          refine lv_goto (tgt := 50) hx hb dX11_digest_95 (by decide) ?_
          exact hw H locs ls hP hD hS (lv_sub hl [1, 0] rfl)
    · replace hw := hw.2 hc4
      refine lv_iconst (v := 0) hx hb dX11_digest_17 (by decide) ?_
      refine lv_istore_n (lv' := [(2, .int (0 : Int32)), (0, .ref h), (1, .int x1)]) hx hb dX11_digest_18 rfl hl (by decide) rfl (fun ls hl => ?_)
      refine hw (fun (x51 : Int32) (u52 : MSt) => ∀ (H : Heap) (locs : List Loc) (ls : Array Slot), va_P (dC, dI) vwCl (MW cI h q u52.1 (u52.2.1) u52.2.2) H → va_D A (MW cI h q u52.1 (u52.2.1) u52.2.2) → va_S A s.heap H locs → lv_has ls 3 [(0, .ref h), (1, .int x1), (2, .int x51)] → W p l e rmX11_digest s m args below meth c H locs 0 0 Q (F0 m 19 ls [])) ?_ H locs ls hP hD hS (lv_sub hl [1, 2, 0] rfl)
      · intro x51 u52 hw H locs ls hP hD hS hl
        refine lv_iload_n hx hb dX11_digest_19 rfl (lv_at hl 2 rfl) ?_
        refine lv_bipush (v := 7) hx hb dX11_digest_20 (by decide) ?_
        refine lv_icmp_ge (tgt := 42) hx hb dX11_digest_22 (by decide) (fun hc54 => ?_) (fun hc54 => ?_)
        · replace hw := hw.1 hc54
          obtain ⟨x55, ex55⟩ : ∃ y : Int32, y = x1 + (1 : Int32) := ⟨_, rfl⟩
          replace hw := hw x55 ex55
          refine lv_iinc (v := x55) (lv' := [(1, .int x55), (0, .ref h), (2, .int x51)]) hx hb dX11_digest_42 hl (k := 1) rfl (by rw [ex55]; rfl) (by decide) rfl (fun ls hl => ?_)
          refine lv_goto (tgt := 9) hx hb dX11_digest_45 (by decide) ?_
          exact hw H locs ls hP hD hS (lv_sub hl [1, 0] rfl)
        · replace hw := hw.2 hc54
          refine lv_aload_n hx hb dX11_digest_25 rfl (lv_at hl 0 rfl) ?_
          refine lv_aload_n hx hb dX11_digest_26 rfl (lv_at hl 0 rfl) ?_
          refine lv_iload_n hx hb dX11_digest_27 rfl (lv_at hl 1 rfl) ?_
          refine lv_iload_n hx hb dX11_digest_28 rfl (lv_at hl 2 rfl) ?_
          refine g_callVi (rest := [.ref h]) (W2 := (MWu cI h q)) [.int x1, .int x51] [0, 1, 2, 3, 4, 5, 6, 7, 8, 9, 10, 11, 12, 13] [] [0] [0, 1, 2, 3, 4, 5, 6, 7, 8, 9, 10, 11, 12, 13] g_Tb (fun _ _ _ _ => trivial) ⟨hx, hb, hml, hown, hts⟩ (t_X11_tellBrick l dC dI cI h q H.size u52.1 (u52.2.1) u52.2.2 x1 x51 _ hw) (cwV 2 hts gX11_digest_X11_tellBrick rfl rfl rfl (by decide +kernel) ⟨Nat.le_of_ble_eq_true rfl, Nat.le_of_ble_eq_true rfl⟩) hK hP hD hS hA rfl (by decide) (wr := []) rfl (by decide) (by decide) rfl (fun _ => rfl) (by decide) (q0 := 0) rfl rfl rfl hl.1 (Nat.le_of_ble_eq_true rfl) dX11_digest_29 ⟨Nat.le_of_ble_eq_true rfl, Nat.le_of_ble_eq_true rfl⟩ (fun r57 u56 H locs hw hP hD hS => ?_)
          refine lv_i2l hx hb dX11_digest_32 rfl ?_
          refine g_callVv (rest := []) (W2 := (MWu cI h q)) [.long (r57.toInt64)] [0, 1, 2, 3, 4, 5, 6, 7, 8, 9, 10, 11, 12, 13] [] [0] [0, 1, 2, 3, 4, 5, 6, 7, 8, 9, 10, 11, 12, 13] g_Tb (fun _ _ _ _ => trivial) ⟨hx, hb, hml, hown, hts⟩ (t_X11_say l dC dI cI h q H.size u56.1 (u56.2.1) u56.2.2 (r57.toInt64) _ hw) (cwV 1 hts gX11_digest_X11_say rfl rfl rfl (by decide +kernel) ⟨Nat.le_of_ble_eq_true rfl, Nat.le_of_ble_eq_true rfl⟩) hK hP hD hS hA rfl (by decide) (wr := []) rfl (by decide) (by decide) rfl (fun _ => rfl) (by decide) (q0 := 0) rfl rfl rfl hl.1 (Nat.le_of_ble_eq_true rfl) dX11_digest_33 ⟨Nat.le_of_ble_eq_true rfl, Nat.le_of_ble_eq_true rfl⟩ (fun u58 H locs hw hP hD hS => ?_)
          obtain ⟨x59, ex59⟩ : ∃ y : Int32, y = x51 + (1 : Int32) := ⟨_, rfl⟩
          replace hw := hw x59 ex59
          refine lv_iinc (v := x59) (lv' := [(2, .int x59), (0, .ref h), (1, .int x1)]) hx hb dX11_digest_36 hl (k := 2) rfl (by rw [ex59]; rfl) (by decide) rfl (fun ls hl => ?_)
          refine lv_goto (tgt := 19) hx hb dX11_digest_39 (by decide) ?_
          exact hw H locs ls hP hD hS (lv_sub hl [1, 2, 0] rfl)
