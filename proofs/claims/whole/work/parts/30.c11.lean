def w_X4_text  (bv : Nat) (bm : Nat) (ml : Int32) (cn : Int32) (bt : Nat → Int32)   (Q : (Nat × Nat × (Nat → Int32) × Nat) → Prop) : Prop := w_J4_toString_0e30d bv bm ml cn bt   (fun (kd1 : (Nat × Nat × (Nat → Int32) × Nat)) => Q ((kd1.1), kd1.2.1, (kd1.2.2.1), (kd1.2.2.2)))
abbrev rmX4_text : Room := { frames := 6, cells := 2, slots := 44, locals := 171 }
set_option maxHeartbeats 4000000 in
set_option maxRecDepth 100000 in
theorem t_X4_text (l : Launch) (dC : Nat → ClassId) (dI : Nat → Nat → Nat) (adK : Nat → Nat) (adV : Nat → Nat) (cY : ClassId) (h : Nat) (g : Nat) (sz : Nat) (bv : Nat) (bm : Nat) (ml : Int32) (cn : Int32) (bt : Nat → Int32)    (Q0 : (Nat × Nat × (Nat → Int32) × Nat) → Prop) (hw : w_X4_text  bv bm ml cn bt   Q0) : Met l yX4_text wsX4_text rmX4_text (g_pre (cz adK adV) (dC, dI) vwCl [(cY, .byte)] (W_PG adK adV cY h g bv bm ml cn bt) sz [.ref h]) (g_qr (dC, dI) vwCl [(cY, .byte)] (fun u : (Nat × Nat × (Nat → Int32) × Nat) => (W_PG adK adV cY h g bv bm ml cn bt ++ [(u.1, .inr (0, [.ref u.2.1, .int 0, .int 0, .int 0]))]) ++ [(u.2.1, .inl (cY, u.2.2.2, .inl u.2.2.1))]) (fun u : (Nat × Nat × (Nat → Int32) × Nat) => u.1) Q0 (va_A (W_PG adK adV cY h g bv bm ml cn bt) sz)) 2 44 (va_A (W_PG adK adV cY h g bv bm ml cn bt) sz) := by
  refine g_startr (Or.inl ⟨_, rfl⟩) (by decide) rfl (Nat.le_of_ble_eq_true rfl) ?_
  intro p e s m args below meth c A Q ls hx hb hml hown hts hin hK hP hD hA hS hZ hret hl
  obtain ⟨H, eH⟩ : ∃ H : Heap, H = s.heap := ⟨_, rfl⟩
  obtain ⟨locs, eL⟩ : ∃ L : List Loc, L = [] := ⟨_, rfl⟩
  have hS : va_S A s.heap H locs := by rw [eH, eL]; exact hS
  rw [← eH] at hP
  suffices hg : W p l e rmX4_text s m args below meth c H locs 0 0 Q (F0 m 0 ls []) by rw [eH, eL] at hg; exact hg
  clear eH eL
  replace hl : lv_has ls 1 [(0, .ref h)] := hl
  have hf12 := hts (.fieldLink RX4 12 "NumberPile$Page" "letters" "Ljava/lang/StringBuilder;") (by decide +kernel)
  have hiX4 : ∀ w ∈ u_ws RX4 TX4 1, w ∈ wsX4_text := fun w h => List.mem_cons_of_mem _ (List.mem_append_left _ (List.mem_append_left _ (List.mem_append_right _ h)))
  unfold w_X4_text at hw
  refine lv_aload_n hx hb dX4_text_0 rfl (lv_at hl 0 rfl) ?_
  refine va_get (D := (dC, dI)) (ci := 6) (v := .ref g) (C := RX4) (T := TX4) (N := 1) hx hb hts hiX4 hown hK hP 0 rfl rfl 0 (by decide) hf12 (fun _ h9 => h9) rfl dX4_text_1 ?_
  refine g_cr (g_J.plain (W2 := fun kd1 : (Nat × Nat × (Nat → Int32) × Nat) => (((W_PG adK adV cY h g bv bm ml cn bt) ++ [((kd1.1), .inr (0, [.ref (kd1.2.1), .int 0, .int 0, .int 0]))]) ++ [((kd1.2.1), .inl (cY, (kd1.2.2.2), .inl (kd1.2.2.1)))])) [(h, .inr (6, [.ref g]))] [1, 2] [0] [0, 1, 2, 3, 4] rfl (by decide) rfl (by decide) (by decide) (fun _ => rfl) (by decide)) [0] hK hP hD hS hA rfl (fun hPc hDc hKc hFc => va_runV (As := []) (rest := []) ⟨hx, hb, hml, hown, hts⟩ (t_J4_toString_0e30d l dC dI adK adV cY g H.size bv bm ml cn bt   _ hw) (cwV 0 hts gX4_text_J4_toString_0e30d rfl rfl rfl (by decide +kernel) ⟨Nat.le_of_ble_eq_true rfl, Nat.le_of_ble_eq_true rfl⟩) (g_pV czb (q0 := 0) rfl rfl hPc hDc hKc (czc hZ hS hFc)) rfl rfl hl.1 rfl (lv_room (Nat.le_of_ble_eq_true rfl)) dX4_text_4 ⟨Nat.le_of_ble_eq_true rfl, Nat.le_of_ble_eq_true rfl⟩) (fun kd1 H locs hw hP hD hS => ?_)
  refine W.widen (k := 2) (n := 44) (Nat.le_of_ble_eq_true rfl) (Nat.le_of_ble_eq_true rfl) ?_
  replace hP : va_P (dC, dI) vwCl (((W_PG adK adV cY h g bv bm ml cn bt) ++ [((kd1.1), .inr (0, [.ref (kd1.2.1), .int 0, .int 0, .int 0]))]) ++ [((kd1.2.1), .inl (cY, (kd1.2.2.2), .inl (kd1.2.2.1)))]) H := hP
  replace hD : va_D A (((W_PG adK adV cY h g bv bm ml cn bt) ++ [((kd1.1), .inr (0, [.ref (kd1.2.1), .int 0, .int 0, .int 0]))]) ++ [((kd1.2.1), .inl (cY, (kd1.2.2.2), .inl (kd1.2.2.1)))]) := hD
  exact hret (u := ((kd1.1), kd1.2.1, (kd1.2.2.1), (kd1.2.2.2))) dX4_text_7 hK hP hD hS hw

def w_X4_form  (bv : Nat) (bm : Nat) (ml : Int32) (cn : Int32) (bt : Nat → Int32)   (Q : Nat → Prop) : Prop := w_X4_letterAt bv bm ml cn bt  (0 : Int32) (fun (r2 : Int32) (u1 : Unit) => ((r2 = 50 → Q 2) ∧ (¬ r2 = 50 → ((r2 = 51 → Q 3) ∧ (¬ r2 = 51 → ((r2 = 52 → Q 4) ∧ (¬ r2 = 52 → Q 0)))))))
abbrev rmX4_form : Room := { frames := 5, cells := 0, slots := 0, locals := 109 }
set_option maxHeartbeats 4000000 in
set_option maxRecDepth 100000 in
theorem t_X4_form (l : Launch) (dC : Nat → ClassId) (dI : Nat → Nat → Nat) (adK : Nat → Nat) (adV : Nat → Nat) (cY : ClassId) (h : Nat) (g : Nat) (sz : Nat) (bv : Nat) (bm : Nat) (ml : Int32) (cn : Int32) (bt : Nat → Int32)    (Q0 : Nat → Prop) (hw : w_X4_form  bv bm ml cn bt   Q0) : Met l yX4_form wsX4_form rmX4_form (g_pre (cz adK adV) (dC, dI) vwCl [(cY, .byte)] (W_PG adK adV cY h g bv bm ml cn bt) sz [.ref h]) (g_qr (dC, dI) vwCl [(cY, .byte)] (fun u : Nat => (W_PG adK adV cY h g bv bm ml cn bt)) (fun u : Nat => adK u) Q0 (va_A (W_PG adK adV cY h g bv bm ml cn bt) sz)) 0 0 (va_A (W_PG adK adV cY h g bv bm ml cn bt) sz) := by
  refine g_startr (Or.inl ⟨_, rfl⟩) (by decide) rfl (Nat.le_of_ble_eq_true rfl) ?_
  intro p e s m args below meth c A Q ls hx hb hml hown hts hin hK hP hD hA hS hZ hret hl
  obtain ⟨H, eH⟩ : ∃ H : Heap, H = s.heap := ⟨_, rfl⟩
  obtain ⟨locs, eL⟩ : ∃ L : List Loc, L = [] := ⟨_, rfl⟩
  have hS : va_S A s.heap H locs := by rw [eH, eL]; exact hS
  rw [← eH] at hP
  suffices hg : W p l e rmX4_form s m args below meth c H locs 0 0 Q (F0 m 0 ls []) by rw [eH, eL] at hg; exact hg
  clear eH eL
  replace hl : lv_has ls 1 [(0, .ref h)] := hl
  unfold w_X4_form at hw
  refine lv_aload_n hx hb dX4_form_0 rfl (lv_at hl 0 rfl) ?_
  refine lv_iconst (v := 0) hx hb dX4_form_1 (by decide) ?_
  refine g_ci (g_J.plain (W2 := fun u1 : Unit => (W_PG adK adV cY h g bv bm ml cn bt)) [] [0, 1, 2] [] [0, 1, 2] rfl (by decide) rfl (by decide) (by decide) (fun _ => rfl) (by decide)) [0] hK hP hD hS hA rfl (fun hPc hDc hKc hFc => va_runV (As := [.int (0 : Int32)]) (rest := []) ⟨hx, hb, hml, hown, hts⟩ (t_X4_letterAt l dC dI adK adV cY h g H.size bv bm ml cn bt  (0 : Int32) _ hw) (cwV 1 hts gX4_form_X4_letterAt rfl rfl rfl (by decide +kernel) ⟨Nat.le_of_ble_eq_true rfl, Nat.le_of_ble_eq_true rfl⟩) (g_pV czb (q0 := 0) rfl rfl hPc hDc hKc (czc hZ hS hFc)) rfl rfl hl.1 rfl (lv_room (Nat.le_of_ble_eq_true rfl)) dX4_form_2 ⟨Nat.le_of_ble_eq_true rfl, Nat.le_of_ble_eq_true rfl⟩) (fun r2 u1 H locs hw hP hD hS => ?_)
  replace hP : va_P (dC, dI) vwCl (W_PG adK adV cY h g bv bm ml cn bt) H := hP
  replace hD : va_D A (W_PG adK adV cY h g bv bm ml cn bt) := hD
  by_cases hc3 : r2 = 50
  · replace hw := hw.1 hc3
    refine lv_tableIn (tgt := 32) hx hb dX4_form_5 (by rw [hc3]; decide) (by rw [hc3]; decide) (by rw [hc3]; rfl) (by decide) ?_
    refine va_ldcS hx hb hown (hZ.2.2.2.2.1 _ (List.mem_of_getElem? (i := 0) rfl)) dX4_form_32 ?_
    exact hret (u := 2) dX4_form_34 hK hP hD hS hw
  · replace hw := hw.2 hc3
    by_cases hc4 : r2 = 51
    · replace hw := hw.1 hc4
      refine lv_tableIn (tgt := 35) hx hb dX4_form_5 (by rw [hc4]; decide) (by rw [hc4]; decide) (by rw [hc4]; rfl) (by decide) ?_
      refine va_ldcS hx hb hown (hZ.2.2.2.2.1 _ (List.mem_of_getElem? (i := 1) rfl)) dX4_form_35 ?_
      exact hret (u := 3) dX4_form_37 hK hP hD hS hw
    · replace hw := hw.2 hc4
      by_cases hc5 : r2 = 52
      · replace hw := hw.1 hc5
        refine lv_tableIn (tgt := 38) hx hb dX4_form_5 (by rw [hc5]; decide) (by rw [hc5]; decide) (by rw [hc5]; rfl) (by decide) ?_
        refine va_ldcS hx hb hown (hZ.2.2.2.2.1 _ (List.mem_of_getElem? (i := 2) rfl)) dX4_form_38 ?_
        exact hret (u := 4) dX4_form_40 hK hP hD hS hw
      · replace hw := hw.2 hc5
        refine lv_tableOut (tgt := 41) hx hb dX4_form_5 (by have z0 := lv_neT hc3 (a := 50) rfl; have z1 := lv_neT hc4 (a := 51) rfl; have z2 := lv_neT hc5 (a := 52) rfl; omega) (by decide) ?_
        refine va_ldcS hx hb hown (hZ.2.2.2.2.1 _ (List.mem_of_getElem? (i := 3) rfl)) dX4_form_41 ?_
        exact hret (u := 0) dX4_form_43 hK hP hD hS hw

def w_X4_suits    (p0 : Int32) (p1 : Int32) (Q : Int32 → Unit → Prop) : Prop := (((¬ p1 = (75 : Int32)) → (((¬ p1 = (68 : Int32)) → (((¬ p0 = p1) → Q (0 : Int32) ()) ∧ (p0 = p1 → Q (1 : Int32) ()))) ∧ (p1 = (68 : Int32) → w_X10_isDigit (p0 - (48 : Int32)) (fun (r4 : Int32) => isB r4 ∧ Q r4 ())))) ∧ (p1 = (75 : Int32) → w_J0_indexOf_0f7a4 (czm 1) (czt 1)  p0 (fun (r6 : Int32) (u5 : Unit) => (((r6 < 0) → Q (0 : Int32) ()) ∧ (¬ (r6 < 0) → Q (1 : Int32) ())))))
abbrev rmX4_suits : Room := { frames := 4, cells := 0, slots := 0, locals := 106 }
set_option maxHeartbeats 4000000 in
set_option maxRecDepth 100000 in
theorem t_X4_suits (l : Launch) (dC : Nat → ClassId) (dI : Nat → Nat → Nat) (adK : Nat → Nat) (adV : Nat → Nat) (sz : Nat)    (p0 : Int32) (p1 : Int32) (Q0 : Int32 → Unit → Prop) (hw : w_X4_suits    p0 p1 Q0) : Met l yX4_suits wsX4_suits rmX4_suits (g_pre (cz adK adV) (dC, dI) vwCl [] (W_Z adK adV ) sz [.int p0, .int p1]) (g_qi (dC, dI) vwCl [] (fun u : Unit => (W_Z adK adV )) Q0 (va_A (W_Z adK adV ) sz)) 0 0 (va_A (W_Z adK adV ) sz) := by
  refine g_startz (by decide) rfl (Nat.le_of_ble_eq_true rfl) ?_
  intro p e s m args below meth c A Q ls hx hb hml hown hts hin hK hP hD hA hS hZ hret hl
  obtain ⟨H, eH⟩ : ∃ H : Heap, H = s.heap := ⟨_, rfl⟩
  obtain ⟨locs, eL⟩ : ∃ L : List Loc, L = [] := ⟨_, rfl⟩
  have hS : va_S A s.heap H locs := by rw [eH, eL]; exact hS
  rw [← eH] at hP
  suffices hg : W p l e rmX4_suits s m args below meth c H locs 0 0 Q (F0 m 0 ls []) by rw [eH, eL] at hg; exact hg
  clear eH eL
  replace hl : lv_has ls 2 [(0, .int p0), (1, .int p1)] := hl
  have nm77 := hZ.1 _ (List.mem_of_getElem? (i := 22) (rfl : cz_nest[22]? = some (.methodLinkNest RX4 77 yX10_isDigit "NumberPile")))
  have iniRX10 := hts (.initialized RX10) (by decide +kernel)
  have st77 := hts (.static yX10_isDigit) (by decide +kernel)
  unfold w_X4_suits at hw
  refine lv_iload_n hx hb dX4_suits_0 rfl (lv_at hl 1 rfl) ?_
  refine lv_bipush (v := 75) hx hb dX4_suits_1 (by decide) ?_
  refine lv_icmp_ne (tgt := 21) hx hb dX4_suits_3 (by decide) (fun hc1 => ?_) (fun hc1 => ?_)
  · replace hw := hw.1 hc1
    refine lv_iload_n hx hb dX4_suits_21 rfl (lv_at hl 1 rfl) ?_
    refine lv_bipush (v := 68) hx hb dX4_suits_22 (by decide) ?_
    refine lv_icmp_ne (tgt := 35) hx hb dX4_suits_24 (by decide) (fun hc2 => ?_) (fun hc2 => ?_)
    · replace hw := hw.1 hc2
      refine lv_iload_n hx hb dX4_suits_35 rfl (lv_at hl 0 rfl) ?_
      refine lv_iload_n hx hb dX4_suits_36 rfl (lv_at hl 1 rfl) ?_
      refine lv_icmp_ne (tgt := 44) hx hb dX4_suits_37 (by decide) (fun hc3 => ?_) (fun hc3 => ?_)
      · replace hw := hw.1 hc3
        refine lv_iconst (v := 0) hx hb dX4_suits_44 (by decide) ?_
        exact hret dX4_suits_45 hK hP hD hS isB_0 hw
      · replace hw := hw.2 hc3
        refine lv_iconst (v := 1) hx hb dX4_suits_40 (by decide) ?_
        refine lv_goto (tgt := 45) hx hb dX4_suits_41 (by decide) ?_
        exact hret dX4_suits_45 hK hP hD hS isB_1 hw
    · replace hw := hw.2 hc2
      refine lv_iload_n hx hb dX4_suits_27 rfl (lv_at hl 0 rfl) ?_
      refine lv_bipush (v := 48) hx hb dX4_suits_28 (by decide) ?_
      refine lv_isub hx hb dX4_suits_30 ?_
      refine g_c0 (rest := []) (va_runSN (As := [.int (p0 - (48 : Int32))]) (rest := []) ⟨hx, hb, hml, hown, hts⟩ (t_X10_isDigit l  (p0 - (48 : Int32)) _ hw) ⟨va_cnB 1 hts gX4_suits_X10_isDigit_n77 rfl rfl rfl nm77 iniRX10 (by decide +kernel) ⟨Nat.le_of_ble_eq_true rfl, Nat.le_of_ble_eq_true rfl⟩, st77, trivial⟩ g_p0S rfl rfl hl.1 rfl (lv_room (Nat.le_of_ble_eq_true rfl)) dX4_suits_31 ⟨Nat.le_of_ble_eq_true rfl, Nat.le_of_ble_eq_true rfl⟩) (fun r4 hw => ?_)
      obtain ⟨hz, hw⟩ := hw
      exact hret dX4_suits_34 hK hP hD hS hz hw
  · replace hw := hw.2 hc1
    refine va_ldcS hx hb hown (hZ.2.2.2.2.1 _ (List.mem_of_getElem? (i := 4) rfl)) dX4_suits_6 ?_
    refine lv_iload_n hx hb dX4_suits_8 rfl (lv_at hl 0 rfl) ?_
    refine g_ci (g_J.plain (W2 := fun u5 : Unit => (W_Z adK adV )) [] [] [] [] rfl (by decide) rfl (by decide) (by decide) (fun _ => rfl) (by decide)) [] hK hP hD hS hA rfl (fun hPc hDc hKc hFc => va_runV (As := [.int p0]) (rest := []) ⟨hx, hb, hml, hown, hts⟩ (t_J0_indexOf_0f7a4 l dC dI adK adV (adK 1) (adV 1) (czm 1) (czt 1) H.size   p0 _ hw) (cwV 1 hts gX4_suits_J0_indexOf_0f7a4 rfl rfl rfl (by decide +kernel) ⟨Nat.le_of_ble_eq_true rfl, Nat.le_of_ble_eq_true rfl⟩) (g_pVs czsb (strZ_k hZ 1 (by decide)) hS hPc hDc hKc (czsk hZ hS 1 (by decide) hFc)) rfl rfl hl.1 rfl (lv_room (Nat.le_of_ble_eq_true rfl)) dX4_suits_9 ⟨Nat.le_of_ble_eq_true rfl, Nat.le_of_ble_eq_true rfl⟩) (fun r6 u5 H locs hw hP hD hS => ?_)
    replace hP : va_P (dC, dI) vwCl (W_Z adK adV ) H := hP
    replace hD : va_D A (W_Z adK adV ) := hD
    refine lv_if_lt (tgt := 19) hx hb dX4_suits_12 (by decide) (fun hc7 => ?_) (fun hc7 => ?_)
    · replace hw := hw.1 hc7
      refine lv_iconst (v := 0) hx hb dX4_suits_19 (by decide) ?_
      exact hret dX4_suits_20 hK hP hD hS isB_0 hw
    · replace hw := hw.2 hc7
      refine lv_iconst (v := 1) hx hb dX4_suits_15 (by decide) ?_
      refine lv_goto (tgt := 20) hx hb dX4_suits_16 (by decide) ?_
      exact hret dX4_suits_20 hK hP hD hS isB_1 hw

def w_X4_firstFault  (bv : Nat) (bm : Nat) (ml : Int32) (cn : Int32) (bt : Nat → Int32)   (Q : Int32 → Unit → Prop) : Prop := w_X4_form bv bm ml cn bt   (fun (kd1 : Nat) => (kd1 < 5) ∧ (∀ X3 : Int32 → Prop, (∀ (x2 : Int32), (w_J4_length_8abf5 bv bm ml cn bt   (fun (r5 : Int32) (u4 : Unit) => (((r5 ≤ x2) → w_J4_length_8abf5 bv bm ml cn bt   (fun (r8 : Int32) (u7 : Unit) => Q r8 ())) ∧ (¬ (r5 ≤ x2) → w_J0_length_8abf5 (czm kd1) (czt kd1)   (fun (r10 : Int32) (u9 : Unit) => (((r10 ≤ x2) → Q x2 ()) ∧ (¬ (r10 ≤ x2) → w_J4_charAt_5068e bv bm ml cn bt  x2 (fun (r13 : Int32) (u12 : Unit) => w_J0_charAt_5068e (czm kd1) (czt kd1)  x2 (fun (r15 : Int32) (u14 : Unit) => w_X4_suits   r13 r15 (fun (r17 : Int32) (u16 : Unit) => (((¬ r17 = 0) → ∀ x19 : Int32, x19 = x2 + (1 : Int32) → X3 x19) ∧ (r17 = 0 → Q x2 ())))))))))))) → X3 x2) → X3 (0 : Int32)))
abbrev rmX4_firstFault : Room := { frames := 6, cells := 0, slots := 0, locals := 129 }
set_option maxHeartbeats 4000000 in
set_option maxRecDepth 100000 in
theorem t_X4_firstFault (l : Launch) (dC : Nat → ClassId) (dI : Nat → Nat → Nat) (adK : Nat → Nat) (adV : Nat → Nat) (cY : ClassId) (h : Nat) (g : Nat) (sz : Nat) (bv : Nat) (bm : Nat) (ml : Int32) (cn : Int32) (bt : Nat → Int32)    (Q0 : Int32 → Unit → Prop) (hw : w_X4_firstFault  bv bm ml cn bt   Q0) : Met l yX4_firstFault wsX4_firstFault rmX4_firstFault (g_pre (cz adK adV) (dC, dI) vwCl [(cY, .byte)] (W_PG adK adV cY h g bv bm ml cn bt) sz [.ref h]) (g_qi (dC, dI) vwCl [(cY, .byte)] (fun u : Unit => (W_PG adK adV cY h g bv bm ml cn bt)) Q0 (va_A (W_PG adK adV cY h g bv bm ml cn bt) sz)) 0 0 (va_A (W_PG adK adV cY h g bv bm ml cn bt) sz) := by
  refine g_starti (by decide) rfl (Nat.le_of_ble_eq_true rfl) ?_
  intro p e s m args below meth c A Q ls hx hb hml hown hts hin hK hP hD hA hS hZ hret hl
  obtain ⟨H, eH⟩ : ∃ H : Heap, H = s.heap := ⟨_, rfl⟩
  obtain ⟨locs, eL⟩ : ∃ L : List Loc, L = [] := ⟨_, rfl⟩
  have hS : va_S A s.heap H locs := by rw [eH, eL]; exact hS
  rw [← eH] at hP
  suffices hg : W p l e rmX4_firstFault s m args below meth c H locs 0 0 Q (F0 m 0 ls []) by rw [eH, eL] at hg; exact hg
  clear eH eL
  replace hl : lv_has ls 3 [(0, .ref h)] := hl
  have hf12 := hts (.fieldLink RX4 12 "NumberPile$Page" "letters" "Ljava/lang/StringBuilder;") (by decide +kernel)
  have hiX4 : ∀ w ∈ u_ws RX4 TX4 1, w ∈ wsX4_firstFault := fun w h => List.mem_cons_of_mem _ (List.mem_append_left _ (List.mem_append_left _ (List.mem_append_right _ h)))
  unfold w_X4_firstFault at hw
  refine lv_aload_n hx hb dX4_firstFault_0 rfl (lv_at hl 0 rfl) ?_
  refine g_cr (g_J.plain (W2 := fun kd1 : Nat => (W_PG adK adV cY h g bv bm ml cn bt)) [] [0, 1, 2] [] [0, 1, 2] rfl (by decide) rfl (by decide) (by decide) (fun _ => rfl) (by decide)) [0] hK hP hD hS hA rfl (fun hPc hDc hKc hFc => va_runV (As := []) (rest := []) ⟨hx, hb, hml, hown, hts⟩ (t_X4_form l dC dI adK adV cY h g H.size bv bm ml cn bt   _ hw) (cwV 0 hts gX4_firstFault_X4_form rfl rfl rfl (by decide +kernel) ⟨Nat.le_of_ble_eq_true rfl, Nat.le_of_ble_eq_true rfl⟩) (g_pV czb (q0 := 0) rfl rfl hPc hDc hKc (czc hZ hS hFc)) rfl rfl hl.1 rfl (lv_room (Nat.le_of_ble_eq_true rfl)) dX4_firstFault_1 ⟨Nat.le_of_ble_eq_true rfl, Nat.le_of_ble_eq_true rfl⟩) (fun kd1 H locs hw hP hD hS => ?_)
  replace hP : va_P (dC, dI) vwCl (W_PG adK adV cY h g bv bm ml cn bt) H := hP
  replace hD : va_D A (W_PG adK adV cY h g bv bm ml cn bt) := hD
  obtain ⟨gkd1, hw⟩ := hw
  refine lv_astore_n (lv' := [(1, .ref (adK kd1)), (0, .ref h)]) hx hb dX4_firstFault_4 rfl hl (by decide) rfl (fun ls hl => ?_)
  refine lv_iconst (v := 0) hx hb dX4_firstFault_5 (by decide) ?_
  refine lv_istore_n (lv' := [(2, .int (0 : Int32)), (1, .ref (adK kd1)), (0, .ref h)]) hx hb dX4_firstFault_6 rfl hl (by decide) rfl (fun ls hl => ?_)
  refine hw (fun (x2 : Int32) => ∀ (H : Heap) (locs : List Loc) (ls : Array Slot), va_P (dC, dI) vwCl (W_PG adK adV cY h g bv bm ml cn bt) H → va_D A (W_PG adK adV cY h g bv bm ml cn bt) → va_S A s.heap H locs → lv_has ls 3 [(0, .ref h), (1, .ref (adK kd1)), (2, .int x2)] → W p l e rmX4_firstFault s m args below meth c H locs 0 0 Q (F0 m 7 ls [])) ?_ H locs ls hP hD hS (lv_sub hl [2, 1, 0] rfl)
  · intro x2 hw H locs ls hP hD hS hl
    refine lv_iload_n hx hb dX4_firstFault_7 rfl (lv_at hl 2 rfl) ?_
    refine lv_aload_n hx hb dX4_firstFault_8 rfl (lv_at hl 0 rfl) ?_
    refine va_get (D := (dC, dI)) (ci := 6) (v := .ref g) (C := RX4) (T := TX4) (N := 1) hx hb hts hiX4 hown hK hP 0 rfl rfl 0 (by decide) hf12 (fun _ h9 => h9) rfl dX4_firstFault_9 ?_
    refine g_ci (g_J.plain (W2 := fun u4 : Unit => (W_PG adK adV cY h g bv bm ml cn bt)) [(h, .inr (6, [.ref g]))] [1, 2] [0] [0, 1, 2] rfl (by decide) rfl (by decide) (by decide) (fun _ => rfl) (by decide)) [0] hK hP hD hS hA rfl (fun hPc hDc hKc hFc => va_runV (As := []) (rest := [.int x2]) ⟨hx, hb, hml, hown, hts⟩ (t_J4_length_8abf5 l dC dI adK adV cY g H.size bv bm ml cn bt   _ hw) (cwV 0 hts gX4_firstFault_J4_length_8abf5 rfl rfl rfl (by decide +kernel) ⟨Nat.le_of_ble_eq_true rfl, Nat.le_of_ble_eq_true rfl⟩) (g_pV czb (q0 := 0) rfl rfl hPc hDc hKc (czc hZ hS hFc)) rfl rfl hl.1 rfl (lv_room (Nat.le_of_ble_eq_true rfl)) dX4_firstFault_12 ⟨Nat.le_of_ble_eq_true rfl, Nat.le_of_ble_eq_true rfl⟩) (fun r5 u4 H locs hw hP hD hS => ?_)
    replace hP : va_P (dC, dI) vwCl (W_PG adK adV cY h g bv bm ml cn bt) H := hP
    replace hD : va_D A (W_PG adK adV cY h g bv bm ml cn bt) := hD
    refine lv_icmp_ge (tgt := 53) hx hb dX4_firstFault_15 (by decide) (fun hc6 => ?_) (fun hc6 => ?_)
    · replace hw := hw.1 hc6
      refine lv_aload_n hx hb dX4_firstFault_53 rfl (lv_at hl 0 rfl) ?_
      refine va_get (D := (dC, dI)) (ci := 6) (v := .ref g) (C := RX4) (T := TX4) (N := 1) hx hb hts hiX4 hown hK hP 0 rfl rfl 0 (by decide) hf12 (fun _ h9 => h9) rfl dX4_firstFault_54 ?_
      refine g_ci (g_J.plain (W2 := fun u7 : Unit => (W_PG adK adV cY h g bv bm ml cn bt)) [(h, .inr (6, [.ref g]))] [1, 2] [0] [0, 1, 2] rfl (by decide) rfl (by decide) (by decide) (fun _ => rfl) (by decide)) [0] hK hP hD hS hA rfl (fun hPc hDc hKc hFc => va_runV (As := []) (rest := []) ⟨hx, hb, hml, hown, hts⟩ (t_J4_length_8abf5 l dC dI adK adV cY g H.size bv bm ml cn bt   _ hw) (cwV 0 hts gX4_firstFault_J4_length_8abf5 rfl rfl rfl (by decide +kernel) ⟨Nat.le_of_ble_eq_true rfl, Nat.le_of_ble_eq_true rfl⟩) (g_pV czb (q0 := 0) rfl rfl hPc hDc hKc (czc hZ hS hFc)) rfl rfl hl.1 rfl (lv_room (Nat.le_of_ble_eq_true rfl)) dX4_firstFault_57 ⟨Nat.le_of_ble_eq_true rfl, Nat.le_of_ble_eq_true rfl⟩) (fun r8 u7 H locs hw hP hD hS => ?_)
      replace hP : va_P (dC, dI) vwCl (W_PG adK adV cY h g bv bm ml cn bt) H := hP
      replace hD : va_D A (W_PG adK adV cY h g bv bm ml cn bt) := hD
      exact hret dX4_firstFault_60 hK hP hD hS hw
    · replace hw := hw.2 hc6
      refine lv_iload_n hx hb dX4_firstFault_18 rfl (lv_at hl 2 rfl) ?_
      refine lv_aload_n hx hb dX4_firstFault_19 rfl (lv_at hl 1 rfl) ?_
      refine g_ci (g_J.plain (W2 := fun u9 : Unit => (W_PG adK adV cY h g bv bm ml cn bt)) [(h, .inr (6, [.ref g])), (g, .inr (1, [.ref bv, .int (0 : Int32), .int ml, .int cn])), (bv, .inl (cY, bm, .inl bt))] [] [0, 1, 2] [0, 1, 2] rfl (by decide) rfl (by decide) (by decide) (fun _ => rfl) (by decide)) [] hK hP hD hS hA rfl (fun hPc hDc hKc hFc => va_runV (As := []) (rest := [.int x2]) ⟨hx, hb, hml, hown, hts⟩ (t_J0_length_8abf5 l dC dI adK adV (adK kd1) (adV kd1) (czm kd1) (czt kd1) H.size    _ hw) (cwV 0 hts gX4_firstFault_J0_length_8abf5 rfl rfl rfl (by decide +kernel) ⟨Nat.le_of_ble_eq_true rfl, Nat.le_of_ble_eq_true rfl⟩) (g_pVs czsb (strZ_k hZ kd1 gkd1) hS hPc hDc hKc (czsk hZ hS kd1 gkd1 hFc)) rfl rfl hl.1 rfl (lv_room (Nat.le_of_ble_eq_true rfl)) dX4_firstFault_20 ⟨Nat.le_of_ble_eq_true rfl, Nat.le_of_ble_eq_true rfl⟩) (fun r10 u9 H locs hw hP hD hS => ?_)
      replace hP : va_P (dC, dI) vwCl (W_PG adK adV cY h g bv bm ml cn bt) H := hP
      replace hD : va_D A (W_PG adK adV cY h g bv bm ml cn bt) := hD
      refine lv_icmp_ge (tgt := 45) hx hb dX4_firstFault_23 (by decide) (fun hc11 => ?_) (fun hc11 => ?_)
      · replace hw := hw.1 hc11
        refine lv_iload_n hx hb dX4_firstFault_45 rfl (lv_at hl 2 rfl) ?_
        exact hret dX4_firstFault_46 hK hP hD hS hw
      · replace hw := hw.2 hc11
        refine lv_aload_n hx hb dX4_firstFault_26 rfl (lv_at hl 0 rfl) ?_
        refine va_get (D := (dC, dI)) (ci := 6) (v := .ref g) (C := RX4) (T := TX4) (N := 1) hx hb hts hiX4 hown hK hP 0 rfl rfl 0 (by decide) hf12 (fun _ h9 => h9) rfl dX4_firstFault_27 ?_
        refine lv_iload_n hx hb dX4_firstFault_30 rfl (lv_at hl 2 rfl) ?_
        refine g_ci (g_J.plain (W2 := fun u12 : Unit => (W_PG adK adV cY h g bv bm ml cn bt)) [(h, .inr (6, [.ref g]))] [1, 2] [0] [0, 1, 2] rfl (by decide) rfl (by decide) (by decide) (fun _ => rfl) (by decide)) [0] hK hP hD hS hA rfl (fun hPc hDc hKc hFc => va_runV (As := [.int x2]) (rest := []) ⟨hx, hb, hml, hown, hts⟩ (t_J4_charAt_5068e l dC dI adK adV cY g H.size bv bm ml cn bt  x2 _ hw) (cwV 1 hts gX4_firstFault_J4_charAt_5068e rfl rfl rfl (by decide +kernel) ⟨Nat.le_of_ble_eq_true rfl, Nat.le_of_ble_eq_true rfl⟩) (g_pV czb (q0 := 0) rfl rfl hPc hDc hKc (czc hZ hS hFc)) rfl rfl hl.1 rfl (lv_room (Nat.le_of_ble_eq_true rfl)) dX4_firstFault_31 ⟨Nat.le_of_ble_eq_true rfl, Nat.le_of_ble_eq_true rfl⟩) (fun r13 u12 H locs hw hP hD hS => ?_)
        replace hP : va_P (dC, dI) vwCl (W_PG adK adV cY h g bv bm ml cn bt) H := hP
        replace hD : va_D A (W_PG adK adV cY h g bv bm ml cn bt) := hD
        refine lv_aload_n hx hb dX4_firstFault_34 rfl (lv_at hl 1 rfl) ?_
        refine lv_iload_n hx hb dX4_firstFault_35 rfl (lv_at hl 2 rfl) ?_
        refine g_ci (g_J.plain (W2 := fun u14 : Unit => (W_PG adK adV cY h g bv bm ml cn bt)) [(h, .inr (6, [.ref g])), (g, .inr (1, [.ref bv, .int (0 : Int32), .int ml, .int cn])), (bv, .inl (cY, bm, .inl bt))] [] [0, 1, 2] [0, 1, 2] rfl (by decide) rfl (by decide) (by decide) (fun _ => rfl) (by decide)) [] hK hP hD hS hA rfl (fun hPc hDc hKc hFc => va_runV (As := [.int x2]) (rest := [.int r13]) ⟨hx, hb, hml, hown, hts⟩ (t_J0_charAt_5068e l dC dI adK adV (adK kd1) (adV kd1) (czm kd1) (czt kd1) H.size   x2 _ hw) (cwV 1 hts gX4_firstFault_J0_charAt_5068e rfl rfl rfl (by decide +kernel) ⟨Nat.le_of_ble_eq_true rfl, Nat.le_of_ble_eq_true rfl⟩) (g_pVs czsb (strZ_k hZ kd1 gkd1) hS hPc hDc hKc (czsk hZ hS kd1 gkd1 hFc)) rfl rfl hl.1 rfl (lv_room (Nat.le_of_ble_eq_true rfl)) dX4_firstFault_36 ⟨Nat.le_of_ble_eq_true rfl, Nat.le_of_ble_eq_true rfl⟩) (fun r15 u14 H locs hw hP hD hS => ?_)
        replace hP : va_P (dC, dI) vwCl (W_PG adK adV cY h g bv bm ml cn bt) H := hP
        replace hD : va_D A (W_PG adK adV cY h g bv bm ml cn bt) := hD
        refine g_ci (g_J.plain (W2 := fun u16 : Unit => (W_PG adK adV cY h g bv bm ml cn bt)) [(h, .inr (6, [.ref g])), (g, .inr (1, [.ref bv, .int (0 : Int32), .int ml, .int cn])), (bv, .inl (cY, bm, .inl bt))] [] [0, 1, 2] [0, 1, 2] rfl (by decide) rfl (by decide) (by decide) (fun _ => rfl) (by decide)) [] hK hP hD hS hA rfl (fun hPc hDc hKc hFc => va_runS (As := [.int r13, .int r15]) (rest := []) ⟨hx, hb, hml, hown, hts⟩ (t_X4_suits l dC dI adK adV H.size   r13 r15 _ hw) (va_cwS 2 hts gX4_firstFault_X4_suits rfl rfl rfl (by decide +kernel) ⟨Nat.le_of_ble_eq_true rfl, Nat.le_of_ble_eq_true rfl⟩) (g_pS czb hPc hDc hKc (czc hZ hS hFc)) rfl rfl hl.1 rfl (lv_room (Nat.le_of_ble_eq_true rfl)) dX4_firstFault_39 ⟨Nat.le_of_ble_eq_true rfl, Nat.le_of_ble_eq_true rfl⟩) (fun r17 u16 H locs hw hP hD hS => ?_)
        replace hP : va_P (dC, dI) vwCl (W_PG adK adV cY h g bv bm ml cn bt) H := hP
        replace hD : va_D A (W_PG adK adV cY h g bv bm ml cn bt) := hD
        refine lv_if_ne (tgt := 47) hx hb dX4_firstFault_42 (by decide) (fun hc18 => ?_) (fun hc18 => ?_)
        · replace hw := hw.1 hc18
          obtain ⟨x19, ex19⟩ : ∃ y : Int32, y = x2 + (1 : Int32) := ⟨_, rfl⟩
          replace hw := hw x19 ex19
          refine lv_iinc (v := x19) (lv' := [(2, .int x19), (0, .ref h), (1, .ref (adK kd1))]) hx hb dX4_firstFault_47 hl (k := 2) rfl (by rw [ex19]; rfl) (by decide) rfl (fun ls hl => ?_)
          refine lv_goto (tgt := 7) hx hb dX4_firstFault_50 (by decide) ?_
          exact hw H locs ls hP hD hS (lv_sub hl [1, 2, 0] rfl)
        · replace hw := hw.2 hc18
          refine lv_iload_n hx hb dX4_firstFault_45 rfl (lv_at hl 2 rfl) ?_
          exact hret dX4_firstFault_46 hK hP hD hS hw

def w_X4_isPile  (bv : Nat) (bm : Nat) (ml : Int32) (cn : Int32) (bt : Nat → Int32)   (Q : Int32 → Unit → Prop) : Prop := w_J4_length_8abf5 bv bm ml cn bt   (fun (r2 : Int32) (u1 : Unit) => (((r2 ≤ 0) → Q (0 : Int32) ()) ∧ (¬ (r2 ≤ 0) → w_X4_form bv bm ml cn bt   (fun (kd4 : Nat) => (kd4 < 5) ∧ w_J0_length_8abf5 (czm kd4) (czt kd4)   (fun (r6 : Int32) (u5 : Unit) => (((¬ r2 = r6) → Q (0 : Int32) ()) ∧ (r2 = r6 → w_X4_firstFault bv bm ml cn bt   (fun (r9 : Int32) (u8 : Unit) => (((¬ r9 = r2) → Q (0 : Int32) ()) ∧ (r9 = r2 → Q (1 : Int32) ()))))))))))
abbrev rmX4_isPile : Room := { frames := 7, cells := 0, slots := 0, locals := 151 }
set_option maxHeartbeats 4000000 in
set_option maxRecDepth 100000 in
theorem t_X4_isPile (l : Launch) (dC : Nat → ClassId) (dI : Nat → Nat → Nat) (adK : Nat → Nat) (adV : Nat → Nat) (cY : ClassId) (h : Nat) (g : Nat) (sz : Nat) (bv : Nat) (bm : Nat) (ml : Int32) (cn : Int32) (bt : Nat → Int32)    (Q0 : Int32 → Unit → Prop) (hw : w_X4_isPile  bv bm ml cn bt   Q0) : Met l yX4_isPile wsX4_isPile rmX4_isPile (g_pre (cz adK adV) (dC, dI) vwCl [(cY, .byte)] (W_PG adK adV cY h g bv bm ml cn bt) sz [.ref h]) (g_qi (dC, dI) vwCl [(cY, .byte)] (fun u : Unit => (W_PG adK adV cY h g bv bm ml cn bt)) Q0 (va_A (W_PG adK adV cY h g bv bm ml cn bt) sz)) 0 0 (va_A (W_PG adK adV cY h g bv bm ml cn bt) sz) := by
  refine g_startz (by decide) rfl (Nat.le_of_ble_eq_true rfl) ?_
  intro p e s m args below meth c A Q ls hx hb hml hown hts hin hK hP hD hA hS hZ hret hl
  obtain ⟨H, eH⟩ : ∃ H : Heap, H = s.heap := ⟨_, rfl⟩
  obtain ⟨locs, eL⟩ : ∃ L : List Loc, L = [] := ⟨_, rfl⟩
  have hS : va_S A s.heap H locs := by rw [eH, eL]; exact hS
  rw [← eH] at hP
  suffices hg : W p l e rmX4_isPile s m args below meth c H locs 0 0 Q (F0 m 0 ls []) by rw [eH, eL] at hg; exact hg
  clear eH eL
  replace hl : lv_has ls 2 [(0, .ref h)] := hl
  have hf12 := hts (.fieldLink RX4 12 "NumberPile$Page" "letters" "Ljava/lang/StringBuilder;") (by decide +kernel)
  have hiX4 : ∀ w ∈ u_ws RX4 TX4 1, w ∈ wsX4_isPile := fun w h => List.mem_cons_of_mem _ (List.mem_append_left _ (List.mem_append_left _ (List.mem_append_right _ h)))
  unfold w_X4_isPile at hw
  refine lv_aload_n hx hb dX4_isPile_0 rfl (lv_at hl 0 rfl) ?_
  refine va_get (D := (dC, dI)) (ci := 6) (v := .ref g) (C := RX4) (T := TX4) (N := 1) hx hb hts hiX4 hown hK hP 0 rfl rfl 0 (by decide) hf12 (fun _ h9 => h9) rfl dX4_isPile_1 ?_
  refine g_ci (g_J.plain (W2 := fun u1 : Unit => (W_PG adK adV cY h g bv bm ml cn bt)) [(h, .inr (6, [.ref g]))] [1, 2] [0] [0, 1, 2] rfl (by decide) rfl (by decide) (by decide) (fun _ => rfl) (by decide)) [0] hK hP hD hS hA rfl (fun hPc hDc hKc hFc => va_runV (As := []) (rest := []) ⟨hx, hb, hml, hown, hts⟩ (t_J4_length_8abf5 l dC dI adK adV cY g H.size bv bm ml cn bt   _ hw) (cwV 0 hts gX4_isPile_J4_length_8abf5 rfl rfl rfl (by decide +kernel) ⟨Nat.le_of_ble_eq_true rfl, Nat.le_of_ble_eq_true rfl⟩) (g_pV czb (q0 := 0) rfl rfl hPc hDc hKc (czc hZ hS hFc)) rfl rfl hl.1 rfl (lv_room (Nat.le_of_ble_eq_true rfl)) dX4_isPile_4 ⟨Nat.le_of_ble_eq_true rfl, Nat.le_of_ble_eq_true rfl⟩) (fun r2 u1 H locs hw hP hD hS => ?_)
  replace hP : va_P (dC, dI) vwCl (W_PG adK adV cY h g bv bm ml cn bt) H := hP
  replace hD : va_D A (W_PG adK adV cY h g bv bm ml cn bt) := hD
  refine lv_istore_n (lv' := [(1, .int r2), (0, .ref h)]) hx hb dX4_isPile_7 rfl hl (by decide) rfl (fun ls hl => ?_)
  refine lv_iload_n hx hb dX4_isPile_8 rfl (lv_at hl 0 rfl) ?_
  refine lv_if_le (tgt := 35) hx hb dX4_isPile_9 (by decide) (fun hc3 => ?_) (fun hc3 => ?_)
  · replace hw := hw.1 hc3
    refine lv_iconst (v := 0) hx hb dX4_isPile_35 (by decide) ?_
    exact hret dX4_isPile_36 hK hP hD hS isB_0 hw
  · replace hw := hw.2 hc3
    refine lv_iload_n hx hb dX4_isPile_12 rfl (lv_at hl 0 rfl) ?_
    refine lv_aload_n hx hb dX4_isPile_13 rfl (lv_at hl 1 rfl) ?_
    refine g_cr (g_J.plain (W2 := fun kd4 : Nat => (W_PG adK adV cY h g bv bm ml cn bt)) [] [0, 1, 2] [] [0, 1, 2] rfl (by decide) rfl (by decide) (by decide) (fun _ => rfl) (by decide)) [0] hK hP hD hS hA rfl (fun hPc hDc hKc hFc => va_runV (As := []) (rest := [.int r2]) ⟨hx, hb, hml, hown, hts⟩ (t_X4_form l dC dI adK adV cY h g H.size bv bm ml cn bt   _ hw) (cwV 0 hts gX4_isPile_X4_form rfl rfl rfl (by decide +kernel) ⟨Nat.le_of_ble_eq_true rfl, Nat.le_of_ble_eq_true rfl⟩) (g_pV czb (q0 := 0) rfl rfl hPc hDc hKc (czc hZ hS hFc)) rfl rfl hl.1 rfl (lv_room (Nat.le_of_ble_eq_true rfl)) dX4_isPile_14 ⟨Nat.le_of_ble_eq_true rfl, Nat.le_of_ble_eq_true rfl⟩) (fun kd4 H locs hw hP hD hS => ?_)
    replace hP : va_P (dC, dI) vwCl (W_PG adK adV cY h g bv bm ml cn bt) H := hP
    replace hD : va_D A (W_PG adK adV cY h g bv bm ml cn bt) := hD
    obtain ⟨gkd4, hw⟩ := hw
    refine g_ci (g_J.plain (W2 := fun u5 : Unit => (W_PG adK adV cY h g bv bm ml cn bt)) [(h, .inr (6, [.ref g])), (g, .inr (1, [.ref bv, .int (0 : Int32), .int ml, .int cn])), (bv, .inl (cY, bm, .inl bt))] [] [0, 1, 2] [0, 1, 2] rfl (by decide) rfl (by decide) (by decide) (fun _ => rfl) (by decide)) [] hK hP hD hS hA rfl (fun hPc hDc hKc hFc => va_runV (As := []) (rest := [.int r2]) ⟨hx, hb, hml, hown, hts⟩ (t_J0_length_8abf5 l dC dI adK adV (adK kd4) (adV kd4) (czm kd4) (czt kd4) H.size    _ hw) (cwV 0 hts gX4_isPile_J0_length_8abf5 rfl rfl rfl (by decide +kernel) ⟨Nat.le_of_ble_eq_true rfl, Nat.le_of_ble_eq_true rfl⟩) (g_pVs czsb (strZ_k hZ kd4 gkd4) hS hPc hDc hKc (czsk hZ hS kd4 gkd4 hFc)) rfl rfl hl.1 rfl (lv_room (Nat.le_of_ble_eq_true rfl)) dX4_isPile_17 ⟨Nat.le_of_ble_eq_true rfl, Nat.le_of_ble_eq_true rfl⟩) (fun r6 u5 H locs hw hP hD hS => ?_)
    replace hP : va_P (dC, dI) vwCl (W_PG adK adV cY h g bv bm ml cn bt) H := hP
    replace hD : va_D A (W_PG adK adV cY h g bv bm ml cn bt) := hD
    refine lv_icmp_ne (tgt := 35) hx hb dX4_isPile_20 (by decide) (fun hc7 => ?_) (fun hc7 => ?_)
    · replace hw := hw.1 hc7
      refine lv_iconst (v := 0) hx hb dX4_isPile_35 (by decide) ?_
      exact hret dX4_isPile_36 hK hP hD hS isB_0 hw
    · replace hw := hw.2 hc7
      refine lv_aload_n hx hb dX4_isPile_23 rfl (lv_at hl 1 rfl) ?_
      refine g_ci (g_J.plain (W2 := fun u8 : Unit => (W_PG adK adV cY h g bv bm ml cn bt)) [] [0, 1, 2] [] [0, 1, 2] rfl (by decide) rfl (by decide) (by decide) (fun _ => rfl) (by decide)) [0] hK hP hD hS hA rfl (fun hPc hDc hKc hFc => va_runV (As := []) (rest := []) ⟨hx, hb, hml, hown, hts⟩ (t_X4_firstFault l dC dI adK adV cY h g H.size bv bm ml cn bt   _ hw) (cwV 0 hts gX4_isPile_X4_firstFault rfl rfl rfl (by decide +kernel) ⟨Nat.le_of_ble_eq_true rfl, Nat.le_of_ble_eq_true rfl⟩) (g_pV czb (q0 := 0) rfl rfl hPc hDc hKc (czc hZ hS hFc)) rfl rfl hl.1 rfl (lv_room (Nat.le_of_ble_eq_true rfl)) dX4_isPile_24 ⟨Nat.le_of_ble_eq_true rfl, Nat.le_of_ble_eq_true rfl⟩) (fun r9 u8 H locs hw hP hD hS => ?_)
      replace hP : va_P (dC, dI) vwCl (W_PG adK adV cY h g bv bm ml cn bt) H := hP
      replace hD : va_D A (W_PG adK adV cY h g bv bm ml cn bt) := hD
      refine lv_iload_n hx hb dX4_isPile_27 rfl (lv_at hl 0 rfl) ?_
      refine lv_icmp_ne (tgt := 35) hx hb dX4_isPile_28 (by decide) (fun hc10 => ?_) (fun hc10 => ?_)
      · replace hw := hw.1 hc10
        refine lv_iconst (v := 0) hx hb dX4_isPile_35 (by decide) ?_
        exact hret dX4_isPile_36 hK hP hD hS isB_0 hw
      · replace hw := hw.2 hc10
        refine lv_iconst (v := 1) hx hb dX4_isPile_31 (by decide) ?_
        refine lv_goto (tgt := 36) hx hb dX4_isPile_32 (by decide) ?_
        exact hret dX4_isPile_36 hK hP hD hS isB_1 hw

def w_X4_wide  (bv : Nat) (bm : Nat) (ml : Int32) (cn : Int32) (bt : Nat → Int32)   (Q : Int32 → Unit → Prop) : Prop := w_X4_form bv bm ml cn bt   (fun (kd1 : Nat) => (kd1 < 5) ∧ w_J0_isEmpty_aae02 (czm kd1) (czt kd1)   (fun (r3 : Int32) (u2 : Unit) => (((r3 = 0) → w_X4_letterAt bv bm ml cn bt  (0 : Int32) (fun (r6 : Int32) (u5 : Unit) => Q (r6 - (48 : Int32)) ())) ∧ (¬ (r3 = 0) → Q (0 : Int32) ()))))
abbrev rmX4_wide : Room := { frames := 6, cells := 0, slots := 0, locals := 129 }
set_option maxHeartbeats 4000000 in
set_option maxRecDepth 100000 in
theorem t_X4_wide (l : Launch) (dC : Nat → ClassId) (dI : Nat → Nat → Nat) (adK : Nat → Nat) (adV : Nat → Nat) (cY : ClassId) (h : Nat) (g : Nat) (sz : Nat) (bv : Nat) (bm : Nat) (ml : Int32) (cn : Int32) (bt : Nat → Int32)    (Q0 : Int32 → Unit → Prop) (hw : w_X4_wide  bv bm ml cn bt   Q0) : Met l yX4_wide wsX4_wide rmX4_wide (g_pre (cz adK adV) (dC, dI) vwCl [(cY, .byte)] (W_PG adK adV cY h g bv bm ml cn bt) sz [.ref h]) (g_qi (dC, dI) vwCl [(cY, .byte)] (fun u : Unit => (W_PG adK adV cY h g bv bm ml cn bt)) Q0 (va_A (W_PG adK adV cY h g bv bm ml cn bt) sz)) 0 0 (va_A (W_PG adK adV cY h g bv bm ml cn bt) sz) := by
  refine g_starti (by decide) rfl (Nat.le_of_ble_eq_true rfl) ?_
  intro p e s m args below meth c A Q ls hx hb hml hown hts hin hK hP hD hA hS hZ hret hl
  obtain ⟨H, eH⟩ : ∃ H : Heap, H = s.heap := ⟨_, rfl⟩
  obtain ⟨locs, eL⟩ : ∃ L : List Loc, L = [] := ⟨_, rfl⟩
  have hS : va_S A s.heap H locs := by rw [eH, eL]; exact hS
  rw [← eH] at hP
  suffices hg : W p l e rmX4_wide s m args below meth c H locs 0 0 Q (F0 m 0 ls []) by rw [eH, eL] at hg; exact hg
  clear eH eL
  replace hl : lv_has ls 1 [(0, .ref h)] := hl
  unfold w_X4_wide at hw
  refine lv_aload_n hx hb dX4_wide_0 rfl (lv_at hl 0 rfl) ?_
  refine g_cr (g_J.plain (W2 := fun kd1 : Nat => (W_PG adK adV cY h g bv bm ml cn bt)) [] [0, 1, 2] [] [0, 1, 2] rfl (by decide) rfl (by decide) (by decide) (fun _ => rfl) (by decide)) [0] hK hP hD hS hA rfl (fun hPc hDc hKc hFc => va_runV (As := []) (rest := []) ⟨hx, hb, hml, hown, hts⟩ (t_X4_form l dC dI adK adV cY h g H.size bv bm ml cn bt   _ hw) (cwV 0 hts gX4_wide_X4_form rfl rfl rfl (by decide +kernel) ⟨Nat.le_of_ble_eq_true rfl, Nat.le_of_ble_eq_true rfl⟩) (g_pV czb (q0 := 0) rfl rfl hPc hDc hKc (czc hZ hS hFc)) rfl rfl hl.1 rfl (lv_room (Nat.le_of_ble_eq_true rfl)) dX4_wide_1 ⟨Nat.le_of_ble_eq_true rfl, Nat.le_of_ble_eq_true rfl⟩) (fun kd1 H locs hw hP hD hS => ?_)
  replace hP : va_P (dC, dI) vwCl (W_PG adK adV cY h g bv bm ml cn bt) H := hP
  replace hD : va_D A (W_PG adK adV cY h g bv bm ml cn bt) := hD
  obtain ⟨gkd1, hw⟩ := hw
  refine g_ci (g_J.plain (W2 := fun u2 : Unit => (W_PG adK adV cY h g bv bm ml cn bt)) [(h, .inr (6, [.ref g])), (g, .inr (1, [.ref bv, .int (0 : Int32), .int ml, .int cn])), (bv, .inl (cY, bm, .inl bt))] [] [0, 1, 2] [0, 1, 2] rfl (by decide) rfl (by decide) (by decide) (fun _ => rfl) (by decide)) [] hK hP hD hS hA rfl (fun hPc hDc hKc hFc => va_runV (As := []) (rest := []) ⟨hx, hb, hml, hown, hts⟩ (t_J0_isEmpty_aae02 l dC dI adK adV (adK kd1) (adV kd1) (czm kd1) (czt kd1) H.size    _ hw) (cwV 0 hts gX4_wide_J0_isEmpty_aae02 rfl rfl rfl (by decide +kernel) ⟨Nat.le_of_ble_eq_true rfl, Nat.le_of_ble_eq_true rfl⟩) (g_pVs czsb (strZ_k hZ kd1 gkd1) hS hPc hDc hKc (czsk hZ hS kd1 gkd1 hFc)) rfl rfl hl.1 rfl (lv_room (Nat.le_of_ble_eq_true rfl)) dX4_wide_4 ⟨Nat.le_of_ble_eq_true rfl, Nat.le_of_ble_eq_true rfl⟩) (fun r3 u2 H locs hw hP hD hS => ?_)
  replace hP : va_P (dC, dI) vwCl (W_PG adK adV cY h g bv bm ml cn bt) H := hP
  replace hD : va_D A (W_PG adK adV cY h g bv bm ml cn bt) := hD
  refine lv_if_eq (tgt := 14) hx hb dX4_wide_7 (by decide) (fun hc4 => ?_) (fun hc4 => ?_)
  · replace hw := hw.1 hc4
    refine lv_aload_n hx hb dX4_wide_14 rfl (lv_at hl 0 rfl) ?_
    refine lv_iconst (v := 0) hx hb dX4_wide_15 (by decide) ?_
    refine g_ci (g_J.plain (W2 := fun u5 : Unit => (W_PG adK adV cY h g bv bm ml cn bt)) [] [0, 1, 2] [] [0, 1, 2] rfl (by decide) rfl (by decide) (by decide) (fun _ => rfl) (by decide)) [0] hK hP hD hS hA rfl (fun hPc hDc hKc hFc => va_runV (As := [.int (0 : Int32)]) (rest := []) ⟨hx, hb, hml, hown, hts⟩ (t_X4_letterAt l dC dI adK adV cY h g H.size bv bm ml cn bt  (0 : Int32) _ hw) (cwV 1 hts gX4_wide_X4_letterAt rfl rfl rfl (by decide +kernel) ⟨Nat.le_of_ble_eq_true rfl, Nat.le_of_ble_eq_true rfl⟩) (g_pV czb (q0 := 0) rfl rfl hPc hDc hKc (czc hZ hS hFc)) rfl rfl hl.1 rfl (lv_room (Nat.le_of_ble_eq_true rfl)) dX4_wide_16 ⟨Nat.le_of_ble_eq_true rfl, Nat.le_of_ble_eq_true rfl⟩) (fun r6 u5 H locs hw hP hD hS => ?_)
    replace hP : va_P (dC, dI) vwCl (W_PG adK adV cY h g bv bm ml cn bt) H := hP
    replace hD : va_D A (W_PG adK adV cY h g bv bm ml cn bt) := hD
    refine lv_bipush (v := 48) hx hb dX4_wide_19 (by decide) ?_
    refine lv_isub hx hb dX4_wide_21 ?_
    exact hret dX4_wide_22 hK hP hD hS hw
  · replace hw := hw.2 hc4
    refine lv_iconst (v := 0) hx hb dX4_wide_10 (by decide) ?_
    refine lv_goto (tgt := 22) hx hb dX4_wide_11 (by decide) ?_
    exact hret dX4_wide_22 hK hP hD hS hw

def w_X10_isOfKind   (kd : Nat) (p1 : Int32) (Q : Int32 → Unit → Prop) : Prop := ((p1 = 1 → ((kd = 0 → Q (0 : Int32) ()) ∧ (kd = 1 → Q (1 : Int32) ()) ∧ (kd = 2 → Q (0 : Int32) ()) ∧ (kd = 3 → Q (0 : Int32) ()) ∧ (kd = 4 → Q (0 : Int32) ()))) ∧ (¬ p1 = 1 → ((p1 = 2 → ((kd = 0 → Q (0 : Int32) ()) ∧ (kd = 1 → Q (0 : Int32) ()) ∧ (kd = 2 → Q (1 : Int32) ()) ∧ (kd = 3 → Q (0 : Int32) ()) ∧ (kd = 4 → Q (0 : Int32) ()))) ∧ (¬ p1 = 2 → ((p1 = 3 → ((kd = 0 → Q (0 : Int32) ()) ∧ (kd = 1 → Q (0 : Int32) ()) ∧ (kd = 2 → Q (0 : Int32) ()) ∧ (kd = 3 → Q (1 : Int32) ()) ∧ (kd = 4 → Q (1 : Int32) ()))) ∧ (¬ p1 = 3 → ((p1 = 4 → ((kd = 0 → Q (0 : Int32) ()) ∧ (kd = 1 → Q (0 : Int32) ()) ∧ (kd = 2 → Q (0 : Int32) ()) ∧ (kd = 3 → Q (0 : Int32) ()) ∧ (kd = 4 → Q (1 : Int32) ()))) ∧ (¬ p1 = 4 → Q (1 : Int32) ()))))))))
abbrev rmX10_isOfKind : Room := { frames := 0, cells := 0, slots := 0, locals := 0 }
set_option maxHeartbeats 4000000 in
set_option maxRecDepth 100000 in
theorem t_X10_isOfKind (l : Launch) (dC : Nat → ClassId) (dI : Nat → Nat → Nat) (adK : Nat → Nat) (adV : Nat → Nat) (qb : Nat → Nat) (sz : Nat)  (kd : Nat) (hkd : kd < 5) (p1 : Int32) (Q0 : Int32 → Unit → Prop) (hw : w_X10_isOfKind   kd p1 Q0) : Met l yX10_isOfKind wsX10_isOfKind rmX10_isOfKind (g_pre (cz adK adV) (dC, dI) vwCl [] (W_GB adK adV qb ) sz [.ref (qb kd), .int p1]) (g_qi (dC, dI) vwCl [] (fun u : Unit => (W_GB adK adV qb )) Q0 (va_A (W_GB adK adV qb ) sz)) 0 0 (va_A (W_GB adK adV qb ) sz) := by
  refine g_startz (by decide) rfl (Nat.le_of_ble_eq_true rfl) ?_
  intro p e s m args below meth c A Q ls hx hb hml hown hts hin hK hP hD hA hS hZ hret hl
  obtain ⟨H, eH⟩ : ∃ H : Heap, H = s.heap := ⟨_, rfl⟩
  obtain ⟨locs, eL⟩ : ∃ L : List Loc, L = [] := ⟨_, rfl⟩
  have hS : va_S A s.heap H locs := by rw [eH, eL]; exact hS
  rw [← eH] at hP
  suffices hg : W p l e rmX10_isOfKind s m args below meth c H locs 0 0 Q (F0 m 0 ls []) by rw [eH, eL] at hg; exact hg
  clear eH eL
  replace hl : lv_has ls 2 [(0, .ref (qb kd)), (1, .int p1)] := hl
  have cl10 := hts (.classLink RX10 10 RX1) (by decide +kernel)
  have cl13 := hts (.classLink RX10 13 RX3) (by decide +kernel)
  have cl16 := hts (.classLink RX10 16 RX9) (by decide +kernel)
  have cl19 := hts (.classLink RX10 19 RX2) (by decide +kernel)
  unfold w_X10_isOfKind at hw
  refine lv_iload_n hx hb dX10_isOfKind_0 rfl (lv_at hl 1 rfl) ?_
  by_cases hc1 : p1 = 1
  · replace hw := hw.1 hc1
    refine lv_tableIn (tgt := 32) hx hb dX10_isOfKind_1 (by rw [hc1]; decide) (by rw [hc1]; decide) (by rw [hc1]; rfl) (by decide) ?_
    refine lv_aload_n hx hb dX10_isOfKind_32 rfl (lv_at hl 0 rfl) ?_
    rcases (show kd = 0 ∨ kd = 1 ∨ kd = 2 ∨ kd = 3 ∨ kd = 4 by omega) with hk9 | hk9 | hk9 | hk9 | hk9
    · replace hw := hw.1 hk9
      subst hk9
      refine va_instNo hx hb hown cl10 (hZ.2.2.1 _ (List.mem_of_getElem? (i := 0) rfl)) (va_recv hK hP (ci := 2) (q0 := 0) rfl rfl) dX10_isOfKind_33 ?_
      exact hret dX10_isOfKind_36 hK hP hD hS isB_0 hw
    · replace hw := hw.2.1 hk9
      subst hk9
      refine va_instS hx hb hown cl10 (hK.1 3 _ rfl).2 (va_recv hK hP (ci := 3) (q0 := 1) rfl rfl) dX10_isOfKind_33 ?_
      exact hret dX10_isOfKind_36 hK hP hD hS isB_1 hw
    · replace hw := hw.2.2.1 hk9
      subst hk9
      refine va_instNo hx hb hown cl10 (hZ.2.2.1 _ (List.mem_of_getElem? (i := 7) rfl)) (va_recv hK hP (ci := 5) (q0 := 2) rfl rfl) dX10_isOfKind_33 ?_
      exact hret dX10_isOfKind_36 hK hP hD hS isB_0 hw
    · replace hw := hw.2.2.2.1 hk9
      subst hk9
      refine va_instNo hx hb hown cl10 (hZ.2.2.1 _ (List.mem_of_getElem? (i := 10) rfl)) (va_recv hK hP (ci := 11) (q0 := 3) rfl rfl) dX10_isOfKind_33 ?_
      exact hret dX10_isOfKind_36 hK hP hD hS isB_0 hw
    · replace hw := hw.2.2.2.2 hk9
      subst hk9
      refine va_instNo hx hb hown cl10 (hZ.2.2.1 _ (List.mem_of_getElem? (i := 13) rfl)) (va_recv hK hP (ci := 4) (q0 := 4) rfl rfl) dX10_isOfKind_33 ?_
      exact hret dX10_isOfKind_36 hK hP hD hS isB_0 hw
  · replace hw := hw.2 hc1
    by_cases hc2 : p1 = 2
    · replace hw := hw.1 hc2
      refine lv_tableIn (tgt := 37) hx hb dX10_isOfKind_1 (by rw [hc2]; decide) (by rw [hc2]; decide) (by rw [hc2]; rfl) (by decide) ?_
      refine lv_aload_n hx hb dX10_isOfKind_37 rfl (lv_at hl 0 rfl) ?_
      rcases (show kd = 0 ∨ kd = 1 ∨ kd = 2 ∨ kd = 3 ∨ kd = 4 by omega) with hk9 | hk9 | hk9 | hk9 | hk9
      · replace hw := hw.1 hk9
        subst hk9
        refine va_instNo hx hb hown cl13 (hZ.2.2.1 _ (List.mem_of_getElem? (i := 1) rfl)) (va_recv hK hP (ci := 2) (q0 := 0) rfl rfl) dX10_isOfKind_38 ?_
        exact hret dX10_isOfKind_41 hK hP hD hS isB_0 hw
      · replace hw := hw.2.1 hk9
        subst hk9
        refine va_instNo hx hb hown cl13 (hZ.2.2.1 _ (List.mem_of_getElem? (i := 4) rfl)) (va_recv hK hP (ci := 3) (q0 := 1) rfl rfl) dX10_isOfKind_38 ?_
        exact hret dX10_isOfKind_41 hK hP hD hS isB_0 hw
      · replace hw := hw.2.2.1 hk9
        subst hk9
        refine va_instS hx hb hown cl13 (hK.1 5 _ rfl).2 (va_recv hK hP (ci := 5) (q0 := 2) rfl rfl) dX10_isOfKind_38 ?_
        exact hret dX10_isOfKind_41 hK hP hD hS isB_1 hw
      · replace hw := hw.2.2.2.1 hk9
        subst hk9
        refine va_instNo hx hb hown cl13 (hZ.2.2.1 _ (List.mem_of_getElem? (i := 11) rfl)) (va_recv hK hP (ci := 11) (q0 := 3) rfl rfl) dX10_isOfKind_38 ?_
        exact hret dX10_isOfKind_41 hK hP hD hS isB_0 hw
      · replace hw := hw.2.2.2.2 hk9
        subst hk9
        refine va_instNo hx hb hown cl13 (hZ.2.2.1 _ (List.mem_of_getElem? (i := 14) rfl)) (va_recv hK hP (ci := 4) (q0 := 4) rfl rfl) dX10_isOfKind_38 ?_
        exact hret dX10_isOfKind_41 hK hP hD hS isB_0 hw
    · replace hw := hw.2 hc2
      by_cases hc3 : p1 = 3
      · replace hw := hw.1 hc3
        refine lv_tableIn (tgt := 42) hx hb dX10_isOfKind_1 (by rw [hc3]; decide) (by rw [hc3]; decide) (by rw [hc3]; rfl) (by decide) ?_
        refine lv_aload_n hx hb dX10_isOfKind_42 rfl (lv_at hl 0 rfl) ?_
        rcases (show kd = 0 ∨ kd = 1 ∨ kd = 2 ∨ kd = 3 ∨ kd = 4 by omega) with hk9 | hk9 | hk9 | hk9 | hk9
        · replace hw := hw.1 hk9
          subst hk9
          refine va_instNo hx hb hown cl16 (hZ.2.2.1 _ (List.mem_of_getElem? (i := 2) rfl)) (va_recv hK hP (ci := 2) (q0 := 0) rfl rfl) dX10_isOfKind_43 ?_
          exact hret dX10_isOfKind_46 hK hP hD hS isB_0 hw
        · replace hw := hw.2.1 hk9
          subst hk9
          refine va_instNo hx hb hown cl16 (hZ.2.2.1 _ (List.mem_of_getElem? (i := 5) rfl)) (va_recv hK hP (ci := 3) (q0 := 1) rfl rfl) dX10_isOfKind_43 ?_
          exact hret dX10_isOfKind_46 hK hP hD hS isB_0 hw
        · replace hw := hw.2.2.1 hk9
          subst hk9
          refine va_instNo hx hb hown cl16 (hZ.2.2.1 _ (List.mem_of_getElem? (i := 8) rfl)) (va_recv hK hP (ci := 5) (q0 := 2) rfl rfl) dX10_isOfKind_43 ?_
          exact hret dX10_isOfKind_46 hK hP hD hS isB_0 hw
        · replace hw := hw.2.2.2.1 hk9
          subst hk9
          refine va_instS hx hb hown cl16 (hK.1 11 _ rfl).2 (va_recv hK hP (ci := 11) (q0 := 3) rfl rfl) dX10_isOfKind_43 ?_
          exact hret dX10_isOfKind_46 hK hP hD hS isB_1 hw
        · replace hw := hw.2.2.2.2 hk9
          subst hk9
          refine va_instY hx hb hown cl16 (hZ.2.1 _ (List.mem_of_getElem? (i := 2) rfl)) (va_recv hK hP (ci := 4) (q0 := 4) rfl rfl) dX10_isOfKind_43 ?_
          exact hret dX10_isOfKind_46 hK hP hD hS isB_1 hw
      · replace hw := hw.2 hc3
        by_cases hc4 : p1 = 4
        · replace hw := hw.1 hc4
          refine lv_tableIn (tgt := 47) hx hb dX10_isOfKind_1 (by rw [hc4]; decide) (by rw [hc4]; decide) (by rw [hc4]; rfl) (by decide) ?_
          refine lv_aload_n hx hb dX10_isOfKind_47 rfl (lv_at hl 0 rfl) ?_
          rcases (show kd = 0 ∨ kd = 1 ∨ kd = 2 ∨ kd = 3 ∨ kd = 4 by omega) with hk9 | hk9 | hk9 | hk9 | hk9
          · replace hw := hw.1 hk9
            subst hk9
            refine va_instNo hx hb hown cl19 (hZ.2.2.1 _ (List.mem_of_getElem? (i := 3) rfl)) (va_recv hK hP (ci := 2) (q0 := 0) rfl rfl) dX10_isOfKind_48 ?_
            exact hret dX10_isOfKind_51 hK hP hD hS isB_0 hw
          · replace hw := hw.2.1 hk9
            subst hk9
            refine va_instNo hx hb hown cl19 (hZ.2.2.1 _ (List.mem_of_getElem? (i := 6) rfl)) (va_recv hK hP (ci := 3) (q0 := 1) rfl rfl) dX10_isOfKind_48 ?_
            exact hret dX10_isOfKind_51 hK hP hD hS isB_0 hw
          · replace hw := hw.2.2.1 hk9
            subst hk9
            refine va_instNo hx hb hown cl19 (hZ.2.2.1 _ (List.mem_of_getElem? (i := 9) rfl)) (va_recv hK hP (ci := 5) (q0 := 2) rfl rfl) dX10_isOfKind_48 ?_
            exact hret dX10_isOfKind_51 hK hP hD hS isB_0 hw
          · replace hw := hw.2.2.2.1 hk9
            subst hk9
            refine va_instNo hx hb hown cl19 (hZ.2.2.1 _ (List.mem_of_getElem? (i := 12) rfl)) (va_recv hK hP (ci := 11) (q0 := 3) rfl rfl) dX10_isOfKind_48 ?_
            exact hret dX10_isOfKind_51 hK hP hD hS isB_0 hw
          · replace hw := hw.2.2.2.2 hk9
            subst hk9
            refine va_instS hx hb hown cl19 (hK.1 4 _ rfl).2 (va_recv hK hP (ci := 4) (q0 := 4) rfl rfl) dX10_isOfKind_48 ?_
            exact hret dX10_isOfKind_51 hK hP hD hS isB_1 hw
        · replace hw := hw.2 hc4
          refine lv_tableOut (tgt := 52) hx hb dX10_isOfKind_1 (by have z0 := lv_neT hc1 (a := 1) rfl; have z1 := lv_neT hc2 (a := 2) rfl; have z2 := lv_neT hc3 (a := 3) rfl; have z3 := lv_neT hc4 (a := 4) rfl; omega) (by decide) ?_
          refine lv_iconst (v := 1) hx hb dX10_isOfKind_52 (by decide) ?_
          exact hret dX10_isOfKind_53 hK hP hD hS isB_1 hw

def w_X10_hasPile (n : Nat) (k : Nat) (q : Nat → Nat) (ni : Nat → Int32) (bv : Nat) (bm : Nat) (ml : Int32) (cn : Int32) (bt : Nat → Int32) (f : Nat → Int32) (t : Nat) (a : Nat → Nat → Int32) (b : Nat → Nat → Int32) (sg : Nat → Nat → Option Nat) (sL : List Nat) (sf : Nat → Nat → Int32)   (Q : Int32 → Unit → Prop) : Prop := ((((nI n) ≤ 0) → Q (0 : Int32) ()) ∧ (¬ ((nI n) ≤ 0) → Q (1 : Int32) ()))
abbrev rmX10_hasPile : Room := { frames := 0, cells := 0, slots := 0, locals := 0 }
set_option maxHeartbeats 4000000 in
set_option maxRecDepth 100000 in
theorem t_X10_hasPile (l : Launch) (dC : Nat → ClassId) (dI : Nat → Nat → Nat) (adK : Nat → Nat) (adV : Nat → Nat) (cI : ClassId) (cB : ClassId) (cS : ClassId) (cY : ClassId) (np : Nat) (pg : Nat) (g : Nat) (q : Nat → Nat) (qb : Nat → Nat) (n : Nat) (k : Nat) (sz : Nat) (ni : Nat → Int32) (bv : Nat) (bm : Nat) (ml : Int32) (cn : Int32) (bt : Nat → Int32) (f : Nat → Int32) (t : Nat) (a : Nat → Nat → Int32) (b : Nat → Nat → Int32) (sg : Nat → Nat → Option Nat) (sL : List Nat) (sf : Nat → Nat → Int32)    (Q0 : Int32 → Unit → Prop) (hw : w_X10_hasPile n k q ni bv bm ml cn bt f t a b sg sL sf   Q0) : Met l yX10_hasPile wsX10_hasPile rmX10_hasPile (g_pre (cz adK adV) (dC, dI) vwCl [(cI, .int), (cB, .object RX0), (cS, .object RX7), (cY, .byte)] ((W_N adK adV cI cB cS cY np pg g q qb n k ni bv bm ml cn bt f t a b sg) ++ va_pl sL (sgF sf)) sz [.ref np]) (g_qi (dC, dI) vwCl [(cI, .int), (cB, .object RX0), (cS, .object RX7), (cY, .byte)] (fun u : Unit => ((W_N adK adV cI cB cS cY np pg g q qb n k ni bv bm ml cn bt f t a b sg) ++ va_pl sL (sgF sf))) Q0 (va_A ((W_N adK adV cI cB cS cY np pg g q qb n k ni bv bm ml cn bt f t a b sg) ++ va_pl sL (sgF sf)) sz)) 0 0 (va_A ((W_N adK adV cI cB cS cY np pg g q qb n k ni bv bm ml cn bt f t a b sg) ++ va_pl sL (sgF sf)) sz) := by
  refine g_startz (by decide) rfl (Nat.le_of_ble_eq_true rfl) ?_
  intro p e s m args below meth c A Q ls hx hb hml hown hts hin hK hP hD hA hS hZ hret hl
  obtain ⟨H, eH⟩ : ∃ H : Heap, H = s.heap := ⟨_, rfl⟩
  obtain ⟨locs, eL⟩ : ∃ L : List Loc, L = [] := ⟨_, rfl⟩
  have hS : va_S A s.heap H locs := by rw [eH, eL]; exact hS
  rw [← eH] at hP
  suffices hg : W p l e rmX10_hasPile s m args below meth c H locs 0 0 Q (F0 m 0 ls []) by rw [eH, eL] at hg; exact hg
  clear eH eL
  replace hl : lv_has ls 1 [(0, .ref np)] := hl
  have hf40 := hts (.fieldLink RX10 40 "NumberPile" "current" "LNumberPile$Pile;") (by decide +kernel)
  have hiX10 : ∀ w ∈ u_ws RX10 TX10 6, w ∈ wsX10_hasPile := fun w h => List.mem_cons_of_mem _ (List.mem_append_left _ (List.mem_append_right _ h))
  have nf216 := va_Nw.use (A := args) rfl (hZ.1 _ (List.mem_of_getElem? (i := 17) (rfl : cz_nest[17]? = some (.fieldLinkNest RX10 216 "NumberPile$Pile" "wide" "I" "NumberPile"))))
  have hiX5 : ∀ w ∈ u_ws RX5 TX5 15, w ∈ wsX10_hasPile := fun w h => List.mem_cons_of_mem _ (List.mem_append_right _ h)
  unfold w_X10_hasPile at hw
  refine lv_aload_n hx hb dX10_hasPile_0 rfl (lv_at hl 0 rfl) ?_
  refine va_get (D := (dC, dI)) (ci := 12) (v := .ref (q 0)) (C := RX10) (T := TX10) (N := 6) hx hb hts hiX10 hown hK hP 0 rfl rfl 2 (by decide) hf40 (fun _ h9 => h9) rfl dX10_hasPile_1 ?_
  refine va_getN (D := (dC, dI)) (ci := 7) (v := .int (nI n)) (C := RX5) (T := TX5) (N := 15) hx hb hts hiX5 hown hK hP 4 rfl rfl 0 (by decide) nf216 (fun _ h9 => h9) rfl dX10_hasPile_4 ?_
  refine lv_if_le (tgt := 14) hx hb dX10_hasPile_7 (by decide) (fun hc1 => ?_) (fun hc1 => ?_)
  · replace hw := hw.1 hc1
    refine lv_iconst (v := 0) hx hb dX10_hasPile_14 (by decide) ?_
    exact hret dX10_hasPile_15 hK hP hD hS isB_0 hw
  · replace hw := hw.2 hc1
    refine lv_iconst (v := 1) hx hb dX10_hasPile_10 (by decide) ?_
    refine lv_goto (tgt := 15) hx hb dX10_hasPile_11 (by decide) ?_
    exact hret dX10_hasPile_15 hK hP hD hS isB_1 hw

def w_X10_isBrick (n : Nat) (k : Nat) (q : Nat → Nat) (ni : Nat → Int32) (bv : Nat) (bm : Nat) (ml : Int32) (cn : Int32) (bt : Nat → Int32) (f : Nat → Int32) (t : Nat) (a : Nat → Nat → Int32) (b : Nat → Nat → Int32) (sg : Nat → Nat → Option Nat) (sL : List Nat) (sf : Nat → Nat → Int32)  (p0 : Int32) (Q : Int32 → Unit → Prop) : Prop := w_X10_isWithin p0 (0 : Int32) ((nI k) - (1 : Int32)) (fun (r1 : Int32) => isB r1 ∧ Q r1 ())
abbrev rmX10_isBrick : Room := { frames := 1, cells := 0, slots := 0, locals := 22 }
set_option maxHeartbeats 4000000 in
set_option maxRecDepth 100000 in
theorem t_X10_isBrick (l : Launch) (dC : Nat → ClassId) (dI : Nat → Nat → Nat) (adK : Nat → Nat) (adV : Nat → Nat) (cI : ClassId) (cB : ClassId) (cS : ClassId) (cY : ClassId) (np : Nat) (pg : Nat) (g : Nat) (q : Nat → Nat) (qb : Nat → Nat) (n : Nat) (k : Nat) (sz : Nat) (ni : Nat → Int32) (bv : Nat) (bm : Nat) (ml : Int32) (cn : Int32) (bt : Nat → Int32) (f : Nat → Int32) (t : Nat) (a : Nat → Nat → Int32) (b : Nat → Nat → Int32) (sg : Nat → Nat → Option Nat) (sL : List Nat) (sf : Nat → Nat → Int32)   (p0 : Int32) (Q0 : Int32 → Unit → Prop) (hw : w_X10_isBrick n k q ni bv bm ml cn bt f t a b sg sL sf  p0 Q0) : Met l yX10_isBrick wsX10_isBrick rmX10_isBrick (g_pre (cz adK adV) (dC, dI) vwCl [(cI, .int), (cB, .object RX0), (cS, .object RX7), (cY, .byte)] ((W_N adK adV cI cB cS cY np pg g q qb n k ni bv bm ml cn bt f t a b sg) ++ va_pl sL (sgF sf)) sz [.ref np, .int p0]) (g_qi (dC, dI) vwCl [(cI, .int), (cB, .object RX0), (cS, .object RX7), (cY, .byte)] (fun u : Unit => ((W_N adK adV cI cB cS cY np pg g q qb n k ni bv bm ml cn bt f t a b sg) ++ va_pl sL (sgF sf))) Q0 (va_A ((W_N adK adV cI cB cS cY np pg g q qb n k ni bv bm ml cn bt f t a b sg) ++ va_pl sL (sgF sf)) sz)) 0 0 (va_A ((W_N adK adV cI cB cS cY np pg g q qb n k ni bv bm ml cn bt f t a b sg) ++ va_pl sL (sgF sf)) sz) := by
  refine g_startz (by decide) rfl (Nat.le_of_ble_eq_true rfl) ?_
  intro p e s m args below meth c A Q ls hx hb hml hown hts hin hK hP hD hA hS hZ hret hl
  obtain ⟨H, eH⟩ : ∃ H : Heap, H = s.heap := ⟨_, rfl⟩
  obtain ⟨locs, eL⟩ : ∃ L : List Loc, L = [] := ⟨_, rfl⟩
  have hS : va_S A s.heap H locs := by rw [eH, eL]; exact hS
  rw [← eH] at hP
  suffices hg : W p l e rmX10_isBrick s m args below meth c H locs 0 0 Q (F0 m 0 ls []) by rw [eH, eL] at hg; exact hg
  clear eH eL
  replace hl : lv_has ls 2 [(0, .ref np), (1, .int p0)] := hl
  have hf40 := hts (.fieldLink RX10 40 "NumberPile" "current" "LNumberPile$Pile;") (by decide +kernel)
  have hiX10 : ∀ w ∈ u_ws RX10 TX10 6, w ∈ wsX10_isBrick := fun w h => List.mem_cons_of_mem _ (List.mem_append_left _ (List.mem_append_right _ h))
  have nf81 := va_Nw.use (A := args) rfl (hZ.1 _ (List.mem_of_getElem? (i := 7) (rfl : cz_nest[7]? = some (.fieldLinkNest RX10 81 "NumberPile$Pile" "size" "I" "NumberPile"))))
  have hiX5 : ∀ w ∈ u_ws RX5 TX5 15, w ∈ wsX10_isBrick := fun w h => List.mem_cons_of_mem _ (List.mem_append_right _ h)
  unfold w_X10_isBrick at hw
  refine lv_iload_n hx hb dX10_isBrick_0 rfl (lv_at hl 1 rfl) ?_
  refine lv_iconst (v := 0) hx hb dX10_isBrick_1 (by decide) ?_
  refine lv_aload_n hx hb dX10_isBrick_2 rfl (lv_at hl 0 rfl) ?_
  refine va_get (D := (dC, dI)) (ci := 12) (v := .ref (q 0)) (C := RX10) (T := TX10) (N := 6) hx hb hts hiX10 hown hK hP 0 rfl rfl 2 (by decide) hf40 (fun _ h9 => h9) rfl dX10_isBrick_3 ?_
  refine va_getN (D := (dC, dI)) (ci := 7) (v := .int (nI k)) (C := RX5) (T := TX5) (N := 15) hx hb hts hiX5 hown hK hP 4 rfl rfl 1 (by decide) nf81 (fun _ h9 => h9) rfl dX10_isBrick_6 ?_
  refine lv_iconst (v := 1) hx hb dX10_isBrick_9 (by decide) ?_
  refine lv_isub hx hb dX10_isBrick_10 ?_
  refine g_c0 (rest := []) (va_runS (As := [.int p0, .int (0 : Int32), .int ((nI k) - (1 : Int32))]) (rest := []) ⟨hx, hb, hml, hown, hts⟩ (t_X10_isWithin l  p0 (0 : Int32) ((nI k) - (1 : Int32)) _ hw) (va_cwS 3 hts gX10_isBrick_X10_isWithin rfl rfl rfl (by decide +kernel) ⟨Nat.le_of_ble_eq_true rfl, Nat.le_of_ble_eq_true rfl⟩) g_p0S rfl rfl hl.1 rfl (lv_room (Nat.le_of_ble_eq_true rfl)) dX10_isBrick_11 ⟨Nat.le_of_ble_eq_true rfl, Nat.le_of_ble_eq_true rfl⟩) (fun r1 hw => ?_)
  obtain ⟨hz, hw⟩ := hw
  exact hret dX10_isBrick_14 hK hP hD hS hz hw

def w_X10_isFigure (n : Nat) (k : Nat) (q : Nat → Nat) (ni : Nat → Int32) (bv : Nat) (bm : Nat) (ml : Int32) (cn : Int32) (bt : Nat → Int32) (f : Nat → Int32) (t : Nat) (a : Nat → Nat → Int32) (b : Nat → Nat → Int32) (sg : Nat → Nat → Option Nat) (sL : List Nat) (sf : Nat → Nat → Int32)  (p0 : Int32) (Q : Int32 → Unit → Prop) : Prop := w_X10_isWithin p0 (0 : Int32) ((nI n) - (1 : Int32)) (fun (r1 : Int32) => isB r1 ∧ Q r1 ())
abbrev rmX10_isFigure : Room := { frames := 1, cells := 0, slots := 0, locals := 22 }
set_option maxHeartbeats 4000000 in
set_option maxRecDepth 100000 in
theorem t_X10_isFigure (l : Launch) (dC : Nat → ClassId) (dI : Nat → Nat → Nat) (adK : Nat → Nat) (adV : Nat → Nat) (cI : ClassId) (cB : ClassId) (cS : ClassId) (cY : ClassId) (np : Nat) (pg : Nat) (g : Nat) (q : Nat → Nat) (qb : Nat → Nat) (n : Nat) (k : Nat) (sz : Nat) (ni : Nat → Int32) (bv : Nat) (bm : Nat) (ml : Int32) (cn : Int32) (bt : Nat → Int32) (f : Nat → Int32) (t : Nat) (a : Nat → Nat → Int32) (b : Nat → Nat → Int32) (sg : Nat → Nat → Option Nat) (sL : List Nat) (sf : Nat → Nat → Int32)   (p0 : Int32) (Q0 : Int32 → Unit → Prop) (hw : w_X10_isFigure n k q ni bv bm ml cn bt f t a b sg sL sf  p0 Q0) : Met l yX10_isFigure wsX10_isFigure rmX10_isFigure (g_pre (cz adK adV) (dC, dI) vwCl [(cI, .int), (cB, .object RX0), (cS, .object RX7), (cY, .byte)] ((W_N adK adV cI cB cS cY np pg g q qb n k ni bv bm ml cn bt f t a b sg) ++ va_pl sL (sgF sf)) sz [.ref np, .int p0]) (g_qi (dC, dI) vwCl [(cI, .int), (cB, .object RX0), (cS, .object RX7), (cY, .byte)] (fun u : Unit => ((W_N adK adV cI cB cS cY np pg g q qb n k ni bv bm ml cn bt f t a b sg) ++ va_pl sL (sgF sf))) Q0 (va_A ((W_N adK adV cI cB cS cY np pg g q qb n k ni bv bm ml cn bt f t a b sg) ++ va_pl sL (sgF sf)) sz)) 0 0 (va_A ((W_N adK adV cI cB cS cY np pg g q qb n k ni bv bm ml cn bt f t a b sg) ++ va_pl sL (sgF sf)) sz) := by
  refine g_startz (by decide) rfl (Nat.le_of_ble_eq_true rfl) ?_
  intro p e s m args below meth c A Q ls hx hb hml hown hts hin hK hP hD hA hS hZ hret hl
  obtain ⟨H, eH⟩ : ∃ H : Heap, H = s.heap := ⟨_, rfl⟩
  obtain ⟨locs, eL⟩ : ∃ L : List Loc, L = [] := ⟨_, rfl⟩
  have hS : va_S A s.heap H locs := by rw [eH, eL]; exact hS
  rw [← eH] at hP
  suffices hg : W p l e rmX10_isFigure s m args below meth c H locs 0 0 Q (F0 m 0 ls []) by rw [eH, eL] at hg; exact hg
  clear eH eL
  replace hl : lv_has ls 2 [(0, .ref np), (1, .int p0)] := hl
  have hf40 := hts (.fieldLink RX10 40 "NumberPile" "current" "LNumberPile$Pile;") (by decide +kernel)
  have hiX10 : ∀ w ∈ u_ws RX10 TX10 6, w ∈ wsX10_isFigure := fun w h => List.mem_cons_of_mem _ (List.mem_append_left _ (List.mem_append_right _ h))
  have nf216 := va_Nw.use (A := args) rfl (hZ.1 _ (List.mem_of_getElem? (i := 17) (rfl : cz_nest[17]? = some (.fieldLinkNest RX10 216 "NumberPile$Pile" "wide" "I" "NumberPile"))))
  have hiX5 : ∀ w ∈ u_ws RX5 TX5 15, w ∈ wsX10_isFigure := fun w h => List.mem_cons_of_mem _ (List.mem_append_right _ h)
  unfold w_X10_isFigure at hw
  refine lv_iload_n hx hb dX10_isFigure_0 rfl (lv_at hl 1 rfl) ?_
  refine lv_iconst (v := 0) hx hb dX10_isFigure_1 (by decide) ?_
  refine lv_aload_n hx hb dX10_isFigure_2 rfl (lv_at hl 0 rfl) ?_
  refine va_get (D := (dC, dI)) (ci := 12) (v := .ref (q 0)) (C := RX10) (T := TX10) (N := 6) hx hb hts hiX10 hown hK hP 0 rfl rfl 2 (by decide) hf40 (fun _ h9 => h9) rfl dX10_isFigure_3 ?_
  refine va_getN (D := (dC, dI)) (ci := 7) (v := .int (nI n)) (C := RX5) (T := TX5) (N := 15) hx hb hts hiX5 hown hK hP 4 rfl rfl 0 (by decide) nf216 (fun _ h9 => h9) rfl dX10_isFigure_6 ?_
  refine lv_iconst (v := 1) hx hb dX10_isFigure_9 (by decide) ?_
  refine lv_isub hx hb dX10_isFigure_10 ?_
  refine g_c0 (rest := []) (va_runS (As := [.int p0, .int (0 : Int32), .int ((nI n) - (1 : Int32))]) (rest := []) ⟨hx, hb, hml, hown, hts⟩ (t_X10_isWithin l  p0 (0 : Int32) ((nI n) - (1 : Int32)) _ hw) (va_cwS 3 hts gX10_isFigure_X10_isWithin rfl rfl rfl (by decide +kernel) ⟨Nat.le_of_ble_eq_true rfl, Nat.le_of_ble_eq_true rfl⟩) g_p0S rfl rfl hl.1 rfl (lv_room (Nat.le_of_ble_eq_true rfl)) dX10_isFigure_11 ⟨Nat.le_of_ble_eq_true rfl, Nat.le_of_ble_eq_true rfl⟩) (fun r1 hw => ?_)
  obtain ⟨hz, hw⟩ := hw
  exact hret dX10_isFigure_14 hK hP hD hS hz hw

def w_X10_isAbove (n : Nat) (k : Nat) (q : Nat → Nat) (ni : Nat → Int32) (bv : Nat) (bm : Nat) (ml : Int32) (cn : Int32) (bt : Nat → Int32) (f : Nat → Int32) (t : Nat) (a : Nat → Nat → Int32) (b : Nat → Nat → Int32) (sg : Nat → Nat → Option Nat) (sL : List Nat) (sf : Nat → Nat → Int32)  (p0 : Int32) (Q : Int32 → Unit → Prop) : Prop := w_X10_isWithin p0 (nI n) ((nI k) - (1 : Int32)) (fun (r1 : Int32) => isB r1 ∧ Q r1 ())
abbrev rmX10_isAbove : Room := { frames := 1, cells := 0, slots := 0, locals := 22 }
set_option maxHeartbeats 4000000 in
set_option maxRecDepth 100000 in
theorem t_X10_isAbove (l : Launch) (dC : Nat → ClassId) (dI : Nat → Nat → Nat) (adK : Nat → Nat) (adV : Nat → Nat) (cI : ClassId) (cB : ClassId) (cS : ClassId) (cY : ClassId) (np : Nat) (pg : Nat) (g : Nat) (q : Nat → Nat) (qb : Nat → Nat) (n : Nat) (k : Nat) (sz : Nat) (ni : Nat → Int32) (bv : Nat) (bm : Nat) (ml : Int32) (cn : Int32) (bt : Nat → Int32) (f : Nat → Int32) (t : Nat) (a : Nat → Nat → Int32) (b : Nat → Nat → Int32) (sg : Nat → Nat → Option Nat) (sL : List Nat) (sf : Nat → Nat → Int32)   (p0 : Int32) (Q0 : Int32 → Unit → Prop) (hw : w_X10_isAbove n k q ni bv bm ml cn bt f t a b sg sL sf  p0 Q0) : Met l yX10_isAbove wsX10_isAbove rmX10_isAbove (g_pre (cz adK adV) (dC, dI) vwCl [(cI, .int), (cB, .object RX0), (cS, .object RX7), (cY, .byte)] ((W_N adK adV cI cB cS cY np pg g q qb n k ni bv bm ml cn bt f t a b sg) ++ va_pl sL (sgF sf)) sz [.ref np, .int p0]) (g_qi (dC, dI) vwCl [(cI, .int), (cB, .object RX0), (cS, .object RX7), (cY, .byte)] (fun u : Unit => ((W_N adK adV cI cB cS cY np pg g q qb n k ni bv bm ml cn bt f t a b sg) ++ va_pl sL (sgF sf))) Q0 (va_A ((W_N adK adV cI cB cS cY np pg g q qb n k ni bv bm ml cn bt f t a b sg) ++ va_pl sL (sgF sf)) sz)) 0 0 (va_A ((W_N adK adV cI cB cS cY np pg g q qb n k ni bv bm ml cn bt f t a b sg) ++ va_pl sL (sgF sf)) sz) := by
  refine g_startz (by decide) rfl (Nat.le_of_ble_eq_true rfl) ?_
  intro p e s m args below meth c A Q ls hx hb hml hown hts hin hK hP hD hA hS hZ hret hl
  obtain ⟨H, eH⟩ : ∃ H : Heap, H = s.heap := ⟨_, rfl⟩
  obtain ⟨locs, eL⟩ : ∃ L : List Loc, L = [] := ⟨_, rfl⟩
  have hS : va_S A s.heap H locs := by rw [eH, eL]; exact hS
  rw [← eH] at hP
  suffices hg : W p l e rmX10_isAbove s m args below meth c H locs 0 0 Q (F0 m 0 ls []) by rw [eH, eL] at hg; exact hg
  clear eH eL
  replace hl : lv_has ls 2 [(0, .ref np), (1, .int p0)] := hl
  have hf40 := hts (.fieldLink RX10 40 "NumberPile" "current" "LNumberPile$Pile;") (by decide +kernel)
  have hiX10 : ∀ w ∈ u_ws RX10 TX10 6, w ∈ wsX10_isAbove := fun w h => List.mem_cons_of_mem _ (List.mem_append_left _ (List.mem_append_right _ h))
  have nf216 := va_Nw.use (A := args) rfl (hZ.1 _ (List.mem_of_getElem? (i := 17) (rfl : cz_nest[17]? = some (.fieldLinkNest RX10 216 "NumberPile$Pile" "wide" "I" "NumberPile"))))
  have hiX5 : ∀ w ∈ u_ws RX5 TX5 15, w ∈ wsX10_isAbove := fun w h => List.mem_cons_of_mem _ (List.mem_append_right _ h)
  have nf81 := va_Nw.use (A := args) rfl (hZ.1 _ (List.mem_of_getElem? (i := 7) (rfl : cz_nest[7]? = some (.fieldLinkNest RX10 81 "NumberPile$Pile" "size" "I" "NumberPile"))))
  unfold w_X10_isAbove at hw
  refine lv_iload_n hx hb dX10_isAbove_0 rfl (lv_at hl 1 rfl) ?_
  refine lv_aload_n hx hb dX10_isAbove_1 rfl (lv_at hl 0 rfl) ?_
  refine va_get (D := (dC, dI)) (ci := 12) (v := .ref (q 0)) (C := RX10) (T := TX10) (N := 6) hx hb hts hiX10 hown hK hP 0 rfl rfl 2 (by decide) hf40 (fun _ h9 => h9) rfl dX10_isAbove_2 ?_
  refine va_getN (D := (dC, dI)) (ci := 7) (v := .int (nI n)) (C := RX5) (T := TX5) (N := 15) hx hb hts hiX5 hown hK hP 4 rfl rfl 0 (by decide) nf216 (fun _ h9 => h9) rfl dX10_isAbove_5 ?_
  refine lv_aload_n hx hb dX10_isAbove_8 rfl (lv_at hl 0 rfl) ?_
  refine va_get (D := (dC, dI)) (ci := 12) (v := .ref (q 0)) (C := RX10) (T := TX10) (N := 6) hx hb hts hiX10 hown hK hP 0 rfl rfl 2 (by decide) hf40 (fun _ h9 => h9) rfl dX10_isAbove_9 ?_
  refine va_getN (D := (dC, dI)) (ci := 7) (v := .int (nI k)) (C := RX5) (T := TX5) (N := 15) hx hb hts hiX5 hown hK hP 4 rfl rfl 1 (by decide) nf81 (fun _ h9 => h9) rfl dX10_isAbove_12 ?_
  refine lv_iconst (v := 1) hx hb dX10_isAbove_15 (by decide) ?_
  refine lv_isub hx hb dX10_isAbove_16 ?_
  refine g_c0 (rest := []) (va_runS (As := [.int p0, .int (nI n), .int ((nI k) - (1 : Int32))]) (rest := []) ⟨hx, hb, hml, hown, hts⟩ (t_X10_isWithin l  p0 (nI n) ((nI k) - (1 : Int32)) _ hw) (va_cwS 3 hts gX10_isAbove_X10_isWithin rfl rfl rfl (by decide +kernel) ⟨Nat.le_of_ble_eq_true rfl, Nat.le_of_ble_eq_true rfl⟩) g_p0S rfl rfl hl.1 rfl (lv_room (Nat.le_of_ble_eq_true rfl)) dX10_isAbove_17 ⟨Nat.le_of_ble_eq_true rfl, Nat.le_of_ble_eq_true rfl⟩) (fun r1 hw => ?_)
  obtain ⟨hz, hw⟩ := hw
  exact hret dX10_isAbove_20 hK hP hD hS hz hw

def w_X10_letter (n : Nat) (k : Nat) (q : Nat → Nat) (ni : Nat → Int32) (bv : Nat) (bm : Nat) (ml : Int32) (cn : Int32) (bt : Nat → Int32) (f : Nat → Int32) (t : Nat) (a : Nat → Nat → Int32) (b : Nat → Nat → Int32) (sg : Nat → Nat → Option Nat) (sL : List Nat) (sf : Nat → Nat → Int32)  (p0 : Int32) (Q : Int32 → ((Nat) × (Nat) × (Int32) × (Nat → Int32)) → Prop) : Prop := w_X10_isWithin p0 (1 : Int32) (126 : Int32) (fun (r1 : Int32) => (((¬ r1 = 0) → w_X4_length bv bm ml cn bt   (fun (r4 : Int32) (u3 : Unit) => (((r4 < (18 : Int32)) → w_X4_add bv bm ml cn bt  ((p0.toUInt32 % 65536).toInt32) (fun (u6 : ((Nat) × (Nat) × (Int32) × (Nat → Int32))) => w_X4_length (u6.1) (u6.2.1) ml (u6.2.2.1) (u6.2.2.2)   (fun (r8 : Int32) (u7 : Unit) => Q r8 (u6.1, u6.2.1, u6.2.2.1, u6.2.2.2)))) ∧ (¬ (r4 < (18 : Int32)) → Q (-104 : Int32) (bv, bm, cn, bt))))) ∧ (r1 = 0 → Q (-102 : Int32) (bv, bm, cn, bt))))
abbrev rmX10_letter : Room := { frames := 7, cells := 1, slots := 40, locals := 173 }
set_option maxHeartbeats 4000000 in
set_option maxRecDepth 100000 in
theorem t_X10_letter (l : Launch) (dC : Nat → ClassId) (dI : Nat → Nat → Nat) (adK : Nat → Nat) (adV : Nat → Nat) (cI : ClassId) (cB : ClassId) (cS : ClassId) (cY : ClassId) (np : Nat) (pg : Nat) (g : Nat) (q : Nat → Nat) (qb : Nat → Nat) (n : Nat) (k : Nat) (sz : Nat) (ni : Nat → Int32) (bv : Nat) (bm : Nat) (ml : Int32) (cn : Int32) (bt : Nat → Int32) (f : Nat → Int32) (t : Nat) (a : Nat → Nat → Int32) (b : Nat → Nat → Int32) (sg : Nat → Nat → Option Nat) (sL : List Nat) (sf : Nat → Nat → Int32)   (p0 : Int32) (Q0 : Int32 → ((Nat) × (Nat) × (Int32) × (Nat → Int32)) → Prop) (hw : w_X10_letter n k q ni bv bm ml cn bt f t a b sg sL sf  p0 Q0) : Met l yX10_letter wsX10_letter rmX10_letter (g_pre (cz adK adV) (dC, dI) vwCl [(cI, .int), (cB, .object RX0), (cS, .object RX7), (cY, .byte)] ((W_N adK adV cI cB cS cY np pg g q qb n k ni bv bm ml cn bt f t a b sg) ++ va_pl sL (sgF sf)) sz [.ref np, .int p0]) (g_qi (dC, dI) vwCl [(cI, .int), (cB, .object RX0), (cS, .object RX7), (cY, .byte)] (fun u : ((Nat) × (Nat) × (Int32) × (Nat → Int32)) => ((W_N adK adV cI cB cS cY np pg g q qb n k ni (u.1) (u.2.1) ml (u.2.2.1) (u.2.2.2) f t a b sg) ++ va_pl sL (sgF sf))) Q0 (va_A ((W_N adK adV cI cB cS cY np pg g q qb n k ni bv bm ml cn bt f t a b sg) ++ va_pl sL (sgF sf)) sz)) 1 40 (va_A ((W_N adK adV cI cB cS cY np pg g q qb n k ni bv bm ml cn bt f t a b sg) ++ va_pl sL (sgF sf)) sz) := by
  refine g_starti (by decide) rfl (Nat.le_of_ble_eq_true rfl) ?_
  intro p e s m args below meth c A Q ls hx hb hml hown hts hin hK hP hD hA hS hZ hret hl
  obtain ⟨H, eH⟩ : ∃ H : Heap, H = s.heap := ⟨_, rfl⟩
  obtain ⟨locs, eL⟩ : ∃ L : List Loc, L = [] := ⟨_, rfl⟩
  have hS : va_S A s.heap H locs := by rw [eH, eL]; exact hS
  rw [← eH] at hP
  suffices hg : W p l e rmX10_letter s m args below meth c H locs 0 0 Q (F0 m 0 ls []) by rw [eH, eL] at hg; exact hg
  clear eH eL
  replace hl : lv_has ls 2 [(0, .ref np), (1, .int p0)] := hl
  have hf31 := hts (.fieldLink RX10 31 "NumberPile" "page" "LNumberPile$Page;") (by decide +kernel)
  have hiX10 : ∀ w ∈ u_ws RX10 TX10 6, w ∈ wsX10_letter := fun w h => List.mem_cons_of_mem _ (List.mem_append_left _ (List.mem_append_left _ (List.mem_append_right _ h)))
  unfold w_X10_letter at hw
  refine lv_iload_n hx hb dX10_letter_0 rfl (lv_at hl 1 rfl) ?_
  refine lv_iconst (v := 1) hx hb dX10_letter_1 (by decide) ?_
  refine lv_bipush (v := 126) hx hb dX10_letter_2 (by decide) ?_
  refine g_c0 (rest := []) (va_runS (As := [.int p0, .int (1 : Int32), .int (126 : Int32)]) (rest := []) ⟨hx, hb, hml, hown, hts⟩ (t_X10_isWithin l  p0 (1 : Int32) (126 : Int32) _ hw) (va_cwS 3 hts gX10_letter_X10_isWithin rfl rfl rfl (by decide +kernel) ⟨Nat.le_of_ble_eq_true rfl, Nat.le_of_ble_eq_true rfl⟩) g_p0S rfl rfl hl.1 rfl (lv_room (Nat.le_of_ble_eq_true rfl)) dX10_letter_4 ⟨Nat.le_of_ble_eq_true rfl, Nat.le_of_ble_eq_true rfl⟩) (fun r1 hw => ?_)
  refine lv_if_ne (tgt := 13) hx hb dX10_letter_7 (by decide) (fun hc2 => ?_) (fun hc2 => ?_)
  · replace hw := hw.1 hc2
    refine lv_aload_n hx hb dX10_letter_13 rfl (lv_at hl 0 rfl) ?_
    refine va_get (D := (dC, dI)) (ci := 12) (v := .ref pg) (C := RX10) (T := TX10) (N := 6) hx hb hts hiX10 hown hK hP 0 rfl rfl 1 (by decide) hf31 (fun _ h9 => h9) rfl dX10_letter_14 ?_
    refine g_ci (g_J.poolQ (W2 := fun u3 : Unit => (W_N adK adV cI cB cS cY np pg g q qb n k ni bv bm ml cn bt f t a b sg)) (pl := va_pl sL (sgF sf)) [(np, .inr (12, [.ref (q 1), .ref pg, .ref (q 0), .int (ni 0), .int (ni 1), .int (ni 2)])), ((q 0), .inr (7, [.int (nI n), .int (nI k), .ref (q 1), .ref (q 2), .ref (q 3), .ref (q 8), .int (f 0), .ref (q 13), .ref (q 14), .ref (q 15), .ref (q 18), .ref (q 21), .int (f 1), .ref (q 17), .int (f 2)])), ((q 1), .inl (cB, (5), .inr (.inr (.inr (.inr (fun i => (kAll i).map qb)))))), ((q 2), .inl (cI, k, .inl (a 0))), ((q 3), .inr (10, [.ref (q 4), .ref (q 5), .ref (q 6), .ref (q 7), .int (f 3), .int (f 4)])), ((q 4), .inl (cI, (k - n), .inl (b 0))), ((q 5), .inl (cI, n, .inl (a 1))), ((q 6), .inl (cI, k, .inl (a 2))), ((q 7), .inl (cS, (6), .inr (.inr (.inr (.inr (sg 0)))))), ((q 8), .inr (10, [.ref (q 9), .ref (q 10), .ref (q 11), .ref (q 12), .int (f 5), .int (f 6)])), ((q 9), .inl (cI, (k - n), .inl (b 1))), ((q 10), .inl (cI, n, .inl (a 3))), ((q 11), .inl (cI, k, .inl (a 4))), ((q 12), .inl (cS, (6), .inr (.inr (.inr (.inr (sg 1)))))), ((q 13), .inl (cI, k, .inl (a 5))), ((q 14), .inl (cI, k, .inl (a 6))), ((q 15), .inr (8, [.int (nI n), .ref (q 1), .ref (q 4), .ref (q 16), .ref t, .int (f 7)])), ((q 16), .inl (cI, k, .inl (a 8))), ((q 17), .inl (cI, (10 * n), .inl (a 7))), ((q 18), .inr (14, [.ref (q 19), .ref (q 20)])), ((q 19), .inl (cI, (k + 1), .inl (b 2))), ((q 20), .inl (cI, (toL n), .inl (b 3))), ((q 21), .inl (cI, k, .inl (b 4))), ((qb 0), .inr (2, [])), ((qb 1), .inr (3, [])), ((qb 2), .inr (5, [])), ((qb 3), .inr (11, [])), ((qb 4), .inr (4, []))] [1, 2, 3] [0, 4, 5, 6, 7, 8, 9, 10, 11, 12, 13, 14, 15, 16, 17, 18, 19, 20, 21, 22, 23, 24, 25, 26, 27, 28, 29, 30] [0, 28, 29, 30, 1, 2, 3, 4, 5, 6, 7, 8, 9, 10, 11, 12, 13, 14, 15, 16, 17, 18, 19, 20, 21, 22, 23, 24, 25, 26, 27] rfl (by decide) rfl (by decide) (by decide) (fun _ => rfl) (by decide)) [3] hK hP hD hS hA rfl (fun hPc hDc hKc hFc => va_runV (As := []) (rest := []) ⟨hx, hb, hml, hown, hts⟩ (t_X4_length l dC dI adK adV cY pg g H.size bv bm ml cn bt   _ hw) (cwV 0 hts gX10_letter_X4_length rfl rfl rfl (by decide +kernel) ⟨Nat.le_of_ble_eq_true rfl, Nat.le_of_ble_eq_true rfl⟩) (g_pV czb (q0 := 0) rfl rfl hPc hDc hKc (czc hZ hS hFc)) rfl rfl hl.1 rfl (lv_room (Nat.le_of_ble_eq_true rfl)) dX10_letter_17 ⟨Nat.le_of_ble_eq_true rfl, Nat.le_of_ble_eq_true rfl⟩) (fun r4 u3 H locs hw hP hD hS => ?_)
    replace hP : va_P (dC, dI) vwCl ((W_N adK adV cI cB cS cY np pg g q qb n k ni bv bm ml cn bt f t a b sg) ++ va_pl sL (sgF sf)) H := hP
    replace hD : va_D A ((W_N adK adV cI cB cS cY np pg g q qb n k ni bv bm ml cn bt f t a b sg) ++ va_pl sL (sgF sf)) := hD
    refine lv_bipush (v := 18) hx hb dX10_letter_20 (by decide) ?_
    refine lv_icmp_lt (tgt := 28) hx hb dX10_letter_22 (by decide) (fun hc5 => ?_) (fun hc5 => ?_)
    · replace hw := hw.1 hc5
      refine lv_aload_n hx hb dX10_letter_28 rfl (lv_at hl 0 rfl) ?_
      refine va_get (D := (dC, dI)) (ci := 12) (v := .ref pg) (C := RX10) (T := TX10) (N := 6) hx hb hts hiX10 hown hK hP 0 rfl rfl 1 (by decide) hf31 (fun _ h9 => h9) rfl dX10_letter_29 ?_
      refine lv_iload_n hx hb dX10_letter_32 rfl (lv_at hl 1 rfl) ?_
      refine lv_i2c hx hb dX10_letter_33 rfl ?_
      refine g_cv (g_J.poolQ (W2 := fun u6 : ((Nat) × (Nat) × (Int32) × (Nat → Int32)) => (W_N adK adV cI cB cS cY np pg g q qb n k ni (u6.1) (u6.2.1) ml (u6.2.2.1) (u6.2.2.2) f t a b sg)) (pl := va_pl sL (sgF sf)) [(np, .inr (12, [.ref (q 1), .ref pg, .ref (q 0), .int (ni 0), .int (ni 1), .int (ni 2)])), ((q 0), .inr (7, [.int (nI n), .int (nI k), .ref (q 1), .ref (q 2), .ref (q 3), .ref (q 8), .int (f 0), .ref (q 13), .ref (q 14), .ref (q 15), .ref (q 18), .ref (q 21), .int (f 1), .ref (q 17), .int (f 2)])), ((q 1), .inl (cB, (5), .inr (.inr (.inr (.inr (fun i => (kAll i).map qb)))))), ((q 2), .inl (cI, k, .inl (a 0))), ((q 3), .inr (10, [.ref (q 4), .ref (q 5), .ref (q 6), .ref (q 7), .int (f 3), .int (f 4)])), ((q 4), .inl (cI, (k - n), .inl (b 0))), ((q 5), .inl (cI, n, .inl (a 1))), ((q 6), .inl (cI, k, .inl (a 2))), ((q 7), .inl (cS, (6), .inr (.inr (.inr (.inr (sg 0)))))), ((q 8), .inr (10, [.ref (q 9), .ref (q 10), .ref (q 11), .ref (q 12), .int (f 5), .int (f 6)])), ((q 9), .inl (cI, (k - n), .inl (b 1))), ((q 10), .inl (cI, n, .inl (a 3))), ((q 11), .inl (cI, k, .inl (a 4))), ((q 12), .inl (cS, (6), .inr (.inr (.inr (.inr (sg 1)))))), ((q 13), .inl (cI, k, .inl (a 5))), ((q 14), .inl (cI, k, .inl (a 6))), ((q 15), .inr (8, [.int (nI n), .ref (q 1), .ref (q 4), .ref (q 16), .ref t, .int (f 7)])), ((q 16), .inl (cI, k, .inl (a 8))), ((q 17), .inl (cI, (10 * n), .inl (a 7))), ((q 18), .inr (14, [.ref (q 19), .ref (q 20)])), ((q 19), .inl (cI, (k + 1), .inl (b 2))), ((q 20), .inl (cI, (toL n), .inl (b 3))), ((q 21), .inl (cI, k, .inl (b 4))), ((qb 0), .inr (2, [])), ((qb 1), .inr (3, [])), ((qb 2), .inr (5, [])), ((qb 3), .inr (11, [])), ((qb 4), .inr (4, []))] [1, 2, 3] [0, 4, 5, 6, 7, 8, 9, 10, 11, 12, 13, 14, 15, 16, 17, 18, 19, 20, 21, 22, 23, 24, 25, 26, 27, 28, 29, 30] [0, 28, 29, 30, 1, 2, 3, 4, 5, 6, 7, 8, 9, 10, 11, 12, 13, 14, 15, 16, 17, 18, 19, 20, 21, 22, 23, 24, 25, 26, 27] rfl (by decide) rfl (by decide) (by decide) (fun _ => rfl) (by decide)) [3] hK hP hD hS hA rfl (fun hPc hDc hKc hFc => va_runV (As := [.int ((p0.toUInt32 % 65536).toInt32)]) (rest := []) ⟨hx, hb, hml, hown, hts⟩ (t_X4_add l dC dI adK adV cY pg g H.size bv bm ml cn bt  ((p0.toUInt32 % 65536).toInt32) _ hw) (cwV 1 hts gX10_letter_X4_add rfl rfl rfl (by decide +kernel) ⟨Nat.le_of_ble_eq_true rfl, Nat.le_of_ble_eq_true rfl⟩) (g_pV czb (q0 := 0) rfl rfl hPc hDc hKc (czc hZ hS hFc)) rfl rfl hl.1 rfl (lv_room (Nat.le_of_ble_eq_true rfl)) dX10_letter_34 ⟨Nat.le_of_ble_eq_true rfl, Nat.le_of_ble_eq_true rfl⟩) (fun u6 H locs hw hP hD hS => ?_)
      refine W.widen (k := 1) (n := 40) (Nat.le_of_ble_eq_true rfl) (Nat.le_of_ble_eq_true rfl) ?_
      replace hP : va_P (dC, dI) vwCl ((W_N adK adV cI cB cS cY np pg g q qb n k ni (u6.1) (u6.2.1) ml (u6.2.2.1) (u6.2.2.2) f t a b sg) ++ va_pl sL (sgF sf)) H := hP
      replace hD : va_D A ((W_N adK adV cI cB cS cY np pg g q qb n k ni (u6.1) (u6.2.1) ml (u6.2.2.1) (u6.2.2.2) f t a b sg) ++ va_pl sL (sgF sf)) := hD
      refine lv_aload_n hx hb dX10_letter_37 rfl (lv_at hl 0 rfl) ?_
      refine va_get (D := (dC, dI)) (ci := 12) (v := .ref pg) (C := RX10) (T := TX10) (N := 6) hx hb hts hiX10 hown hK hP 0 rfl rfl 1 (by decide) hf31 (fun _ h9 => h9) rfl dX10_letter_38 ?_
      refine g_ci (g_J.poolQ (W2 := fun u7 : Unit => (W_N adK adV cI cB cS cY np pg g q qb n k ni (u6.1) (u6.2.1) ml (u6.2.2.1) (u6.2.2.2) f t a b sg)) (pl := va_pl sL (sgF sf)) [(np, .inr (12, [.ref (q 1), .ref pg, .ref (q 0), .int (ni 0), .int (ni 1), .int (ni 2)])), ((q 0), .inr (7, [.int (nI n), .int (nI k), .ref (q 1), .ref (q 2), .ref (q 3), .ref (q 8), .int (f 0), .ref (q 13), .ref (q 14), .ref (q 15), .ref (q 18), .ref (q 21), .int (f 1), .ref (q 17), .int (f 2)])), ((q 1), .inl (cB, (5), .inr (.inr (.inr (.inr (fun i => (kAll i).map qb)))))), ((q 2), .inl (cI, k, .inl (a 0))), ((q 3), .inr (10, [.ref (q 4), .ref (q 5), .ref (q 6), .ref (q 7), .int (f 3), .int (f 4)])), ((q 4), .inl (cI, (k - n), .inl (b 0))), ((q 5), .inl (cI, n, .inl (a 1))), ((q 6), .inl (cI, k, .inl (a 2))), ((q 7), .inl (cS, (6), .inr (.inr (.inr (.inr (sg 0)))))), ((q 8), .inr (10, [.ref (q 9), .ref (q 10), .ref (q 11), .ref (q 12), .int (f 5), .int (f 6)])), ((q 9), .inl (cI, (k - n), .inl (b 1))), ((q 10), .inl (cI, n, .inl (a 3))), ((q 11), .inl (cI, k, .inl (a 4))), ((q 12), .inl (cS, (6), .inr (.inr (.inr (.inr (sg 1)))))), ((q 13), .inl (cI, k, .inl (a 5))), ((q 14), .inl (cI, k, .inl (a 6))), ((q 15), .inr (8, [.int (nI n), .ref (q 1), .ref (q 4), .ref (q 16), .ref t, .int (f 7)])), ((q 16), .inl (cI, k, .inl (a 8))), ((q 17), .inl (cI, (10 * n), .inl (a 7))), ((q 18), .inr (14, [.ref (q 19), .ref (q 20)])), ((q 19), .inl (cI, (k + 1), .inl (b 2))), ((q 20), .inl (cI, (toL n), .inl (b 3))), ((q 21), .inl (cI, k, .inl (b 4))), ((qb 0), .inr (2, [])), ((qb 1), .inr (3, [])), ((qb 2), .inr (5, [])), ((qb 3), .inr (11, [])), ((qb 4), .inr (4, []))] [1, 2, 3] [0, 4, 5, 6, 7, 8, 9, 10, 11, 12, 13, 14, 15, 16, 17, 18, 19, 20, 21, 22, 23, 24, 25, 26, 27, 28, 29, 30] [0, 28, 29, 30, 1, 2, 3, 4, 5, 6, 7, 8, 9, 10, 11, 12, 13, 14, 15, 16, 17, 18, 19, 20, 21, 22, 23, 24, 25, 26, 27] rfl (by decide) rfl (by decide) (by decide) (fun _ => rfl) (by decide)) [3] hK hP hD hS hA rfl (fun hPc hDc hKc hFc => va_runV (As := []) (rest := []) ⟨hx, hb, hml, hown, hts⟩ (t_X4_length l dC dI adK adV cY pg g H.size (u6.1) (u6.2.1) ml (u6.2.2.1) (u6.2.2.2)   _ hw) (cwV 0 hts gX10_letter_X4_length rfl rfl rfl (by decide +kernel) ⟨Nat.le_of_ble_eq_true rfl, Nat.le_of_ble_eq_true rfl⟩) (g_pV czb (q0 := 0) rfl rfl hPc hDc hKc (czc hZ hS hFc)) rfl rfl hl.1 rfl (lv_room (Nat.le_of_ble_eq_true rfl)) dX10_letter_41 ⟨Nat.le_of_ble_eq_true rfl, Nat.le_of_ble_eq_true rfl⟩) (fun r8 u7 H locs hw hP hD hS => ?_)
      replace hP : va_P (dC, dI) vwCl ((W_N adK adV cI cB cS cY np pg g q qb n k ni (u6.1) (u6.2.1) ml (u6.2.2.1) (u6.2.2.2) f t a b sg) ++ va_pl sL (sgF sf)) H := hP
      replace hD : va_D A ((W_N adK adV cI cB cS cY np pg g q qb n k ni (u6.1) (u6.2.1) ml (u6.2.2.1) (u6.2.2.2) f t a b sg) ++ va_pl sL (sgF sf)) := hD
      exact hret dX10_letter_44 hK hP hD hS hw
    · replace hw := hw.2 hc5
      refine lv_bipush (v := -104) hx hb dX10_letter_25 (by decide) ?_
      refine W.widen (k := 1) (n := 40) (Nat.le_of_ble_eq_true rfl) (Nat.le_of_ble_eq_true rfl) ?_
      exact hret dX10_letter_27 hK hP hD hS hw
  · replace hw := hw.2 hc2
    refine lv_bipush (v := -102) hx hb dX10_letter_10 (by decide) ?_
    refine W.widen (k := 1) (n := 40) (Nat.le_of_ble_eq_true rfl) (Nat.le_of_ble_eq_true rfl) ?_
    exact hret dX10_letter_12 hK hP hD hS hw
