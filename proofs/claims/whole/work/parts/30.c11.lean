def w_X4_suits    (p0 : Int32) (p1 : Int32) (Q : Int32 → Unit → Prop) : Prop := (((¬ p1 = (75 : Int32)) → (((¬ p1 = (68 : Int32)) → (((¬ p0 = p1) → Q (0 : Int32) ()) ∧ (p0 = p1 → Q (1 : Int32) ()))) ∧ (p1 = (68 : Int32) → w_X10_isDigit (p0 - (48 : Int32)) (fun (r4 : Int32) => isB r4 ∧ Q r4 ())))) ∧ (p1 = (75 : Int32) → w_J0_indexOf_0f7a4 (czm 1) (czt 1)  p0 (fun (r6 : Int32) (u5 : Unit) => (((r6 < 0) → Q (0 : Int32) ()) ∧ (¬ (r6 < 0) → Q (1 : Int32) ())))))
abbrev rmX4_suits : Room := { frames := 4, cells := 0, slots := 0, locals := 106 }
set_option maxHeartbeats 4000000 in
set_option maxRecDepth 100000 in
theorem t_X4_suits (l : Launch) (dC : Nat → ClassId) (dI : Nat → Nat → Nat) (adK : Nat → Nat) (adV : Nat → Nat) (sz : Nat)    (p0 : Int32) (p1 : Int32) (Q0 : Int32 → Unit → Prop) (hw : w_X4_suits    p0 p1 Q0) : Met l yX4_suits wsX4_suits rmX4_suits (g_pre (cz adK adV) (dC, dI) vwCl [] (W_Z adK adV ) sz [.int p0, .int p1]) (g_qi (dC, dI) vwCl [] (fun u : Unit => (W_Z adK adV )) Q0 (va_A (W_Z adK adV ) sz)) 0 0 (va_A (W_Z adK adV ) sz) := by
  refine g_startz (by decide) rfl (Nat.le_of_ble_eq_true rfl) ?_
  intro p e s m args below meth c A Q ls hx hb hml hown hts hin hK hP hD hA hS hZ hret hl
  obtain ⟨H, eH⟩ : ∃ H : Heap, H = s.heap := ⟨_, rfl⟩
  obtain ⟨locs, eL⟩ : ∃ L : List Loc, L = [] := ⟨_, rfl⟩
  have hS : va_S A s.heap H locs := by rw [eH, eL]; exact hS
  rw [← eH] at hP
  suffices hg : W p l e rmX4_suits s m args below meth c H locs 0 0 Q (F0 m 0 ls []) by rw [eH, eL] at hg; exact hg
  clear eH eL
  replace hl : lv_has ls 2 [(0, .int p0), (1, .int p1)] := hl
  have nm73 := hZ.1 _ (List.mem_of_getElem? (i := 20) (rfl : cz_nest[20]? = some (.methodLinkNest RX4 73 yX10_isDigit "NumberPile")))
  have iniRX10 := hts (.initialized RX10) (by decide +kernel)
  have st73 := hts (.static yX10_isDigit) (by decide +kernel)
  unfold w_X4_suits at hw
  refine lv_iload_n hx hb dX4_suits_0 rfl (lv_at hl 1 rfl) ?_
  refine lv_bipush (v := 75) hx hb dX4_suits_1 (by decide) ?_
  refine lv_icmp_ne (tgt := 21) hx hb dX4_suits_3 (by decide) (fun hc1 => ?_) (fun hc1 => ?_)
  · replace hw := hw.1 hc1
    refine lv_iload_n hx hb dX4_suits_21 rfl (lv_at hl 1 rfl) ?_
    refine lv_bipush (v := 68) hx hb dX4_suits_22 (by decide) ?_
    refine lv_icmp_ne (tgt := 35) hx hb dX4_suits_24 (by decide) (fun hc2 => ?_) (fun hc2 => ?_)
    · replace hw := hw.1 hc2
      refine lv_iload_n hx hb dX4_suits_35 rfl (lv_at hl 0 rfl) ?_
      refine lv_iload_n hx hb dX4_suits_36 rfl (lv_at hl 1 rfl) ?_
      refine lv_icmp_ne (tgt := 44) hx hb dX4_suits_37 (by decide) (fun hc3 => ?_) (fun hc3 => ?_)
      · replace hw := hw.1 hc3
        refine lv_iconst (v := 0) hx hb dX4_suits_44 (by decide) ?_
        exact hret dX4_suits_45 hK hP hD hS isB_0 hw
      · replace hw := hw.2 hc3
        refine lv_iconst (v := 1) hx hb dX4_suits_40 (by decide) ?_
        refine lv_goto (tgt := 45) hx hb dX4_suits_41 (by decide) ?_
        exact hret dX4_suits_45 hK hP hD hS isB_1 hw
    · replace hw := hw.2 hc2
      refine lv_iload_n hx hb dX4_suits_27 rfl (lv_at hl 0 rfl) ?_
      refine lv_bipush (v := 48) hx hb dX4_suits_28 (by decide) ?_
      refine lv_isub hx hb dX4_suits_30 ?_
      refine g_c0 (rest := []) (va_runSN (As := [.int (p0 - (48 : Int32))]) (rest := []) ⟨hx, hb, hml, hown, hts⟩ (t_X10_isDigit l  (p0 - (48 : Int32)) _ hw) ⟨va_cnB 1 hts gX4_suits_X10_isDigit_n73 rfl rfl rfl nm73 iniRX10 (by decide +kernel) ⟨Nat.le_of_ble_eq_true rfl, Nat.le_of_ble_eq_true rfl⟩, st73, trivial⟩ g_p0S rfl rfl hl.1 rfl (lv_room (Nat.le_of_ble_eq_true rfl)) dX4_suits_31 ⟨Nat.le_of_ble_eq_true rfl, Nat.le_of_ble_eq_true rfl⟩) (fun r4 hw => ?_)
      obtain ⟨hz, hw⟩ := hw
      exact hret dX4_suits_34 hK hP hD hS hz hw
  · replace hw := hw.2 hc1
    refine va_ldcS hx hb hown (hZ.2.2.2.2.1 _ (List.mem_of_getElem? (i := 6) rfl)) dX4_suits_6 ?_
    refine lv_iload_n hx hb dX4_suits_8 rfl (lv_at hl 0 rfl) ?_
    refine g_ci (g_J.plain (W2 := fun u5 : Unit => (W_Z adK adV )) [] [] [] [] rfl (by decide) rfl (by decide) (by decide) (fun _ => rfl) (by decide)) [] hK hP hD hS hA rfl (fun hPc hDc hKc hFc => va_runV (As := [.int p0]) (rest := []) ⟨hx, hb, hml, hown, hts⟩ (t_J0_indexOf_0f7a4 l dC dI adK adV (adK 1) (adV 1) (czm 1) (czt 1) H.size   p0 _ hw) (cwV 1 hts gX4_suits_J0_indexOf_0f7a4 rfl rfl rfl (by decide +kernel) ⟨Nat.le_of_ble_eq_true rfl, Nat.le_of_ble_eq_true rfl⟩) (g_pVs czsb (strZ_k hZ 1 (by decide)) hS hPc hDc hKc (czsk hZ hS 1 (by decide) hFc)) rfl rfl hl.1 rfl (lv_room (Nat.le_of_ble_eq_true rfl)) dX4_suits_9 ⟨Nat.le_of_ble_eq_true rfl, Nat.le_of_ble_eq_true rfl⟩) (fun r6 u5 H locs hw hP hD hS => ?_)
    replace hP : va_P (dC, dI) vwCl (W_Z adK adV ) H := hP
    replace hD : va_D A (W_Z adK adV ) := hD
    refine lv_if_lt (tgt := 19) hx hb dX4_suits_12 (by decide) (fun hc7 => ?_) (fun hc7 => ?_)
    · replace hw := hw.1 hc7
      refine lv_iconst (v := 0) hx hb dX4_suits_19 (by decide) ?_
      exact hret dX4_suits_20 hK hP hD hS isB_0 hw
    · replace hw := hw.2 hc7
      refine lv_iconst (v := 1) hx hb dX4_suits_15 (by decide) ?_
      refine lv_goto (tgt := 20) hx hb dX4_suits_16 (by decide) ?_
      exact hret dX4_suits_20 hK hP hD hS isB_1 hw

def w_X4_firstFault  (bv : Nat) (bm : Nat) (ml : Int32) (cn : Int32) (bt : Nat → Int32)   (Q : Int32 → Unit → Prop) : Prop := w_X4_form bv bm ml cn bt   (fun (kd1 : Nat) => (kd1 < 5) ∧ (∀ X3 : Int32 → Prop, (∀ (x2 : Int32), (w_J4_length_8abf5 bv bm ml cn bt   (fun (r5 : Int32) (u4 : Unit) => (((r5 ≤ x2) → w_J4_length_8abf5 bv bm ml cn bt   (fun (r8 : Int32) (u7 : Unit) => Q r8 ())) ∧ (¬ (r5 ≤ x2) → w_J0_length_8abf5 (czm kd1) (czt kd1)   (fun (r10 : Int32) (u9 : Unit) => (((r10 ≤ x2) → Q x2 ()) ∧ (¬ (r10 ≤ x2) → w_J4_charAt_5068e bv bm ml cn bt  x2 (fun (r13 : Int32) (u12 : Unit) => w_J0_charAt_5068e (czm kd1) (czt kd1)  x2 (fun (r15 : Int32) (u14 : Unit) => w_X4_suits   r13 r15 (fun (r17 : Int32) (u16 : Unit) => (((¬ r17 = 0) → ∀ x19 : Int32, x19 = x2 + (1 : Int32) → X3 x19) ∧ (r17 = 0 → Q x2 ())))))))))))) → X3 x2) → X3 (0 : Int32)))
abbrev rmX4_firstFault : Room := { frames := 6, cells := 0, slots := 0, locals := 129 }
set_option maxHeartbeats 4000000 in
set_option maxRecDepth 100000 in
theorem t_X4_firstFault (l : Launch) (dC : Nat → ClassId) (dI : Nat → Nat → Nat) (adK : Nat → Nat) (adV : Nat → Nat) (cY : ClassId) (h : Nat) (g : Nat) (sz : Nat) (bv : Nat) (bm : Nat) (ml : Int32) (cn : Int32) (bt : Nat → Int32)    (Q0 : Int32 → Unit → Prop) (hw : w_X4_firstFault  bv bm ml cn bt   Q0) : Met l yX4_firstFault wsX4_firstFault rmX4_firstFault (g_pre (cz adK adV) (dC, dI) vwCl [(cY, .byte)] (W_PG adK adV cY h g bv bm ml cn bt) sz [.ref h]) (g_qi (dC, dI) vwCl [(cY, .byte)] (fun u : Unit => (W_PG adK adV cY h g bv bm ml cn bt)) Q0 (va_A (W_PG adK adV cY h g bv bm ml cn bt) sz)) 0 0 (va_A (W_PG adK adV cY h g bv bm ml cn bt) sz) := by
  refine g_starti (by decide) rfl (Nat.le_of_ble_eq_true rfl) ?_
  intro p e s m args below meth c A Q ls hx hb hml hown hts hin hK hP hD hA hS hZ hret hl
  obtain ⟨H, eH⟩ : ∃ H : Heap, H = s.heap := ⟨_, rfl⟩
  obtain ⟨locs, eL⟩ : ∃ L : List Loc, L = [] := ⟨_, rfl⟩
  have hS : va_S A s.heap H locs := by rw [eH, eL]; exact hS
  rw [← eH] at hP
  suffices hg : W p l e rmX4_firstFault s m args below meth c H locs 0 0 Q (F0 m 0 ls []) by rw [eH, eL] at hg; exact hg
  clear eH eL
  replace hl : lv_has ls 3 [(0, .ref h)] := hl
  have hf12 := hts (.fieldLink RX4 12 "NumberPile$Page" "letters" "Ljava/lang/StringBuilder;") (by decide +kernel)
  have hiX4 : ∀ w ∈ u_ws RX4 TX4 1, w ∈ wsX4_firstFault := fun w h => List.mem_cons_of_mem _ (List.mem_append_left _ (List.mem_append_left _ (List.mem_append_right _ h)))
  unfold w_X4_firstFault at hw
  refine lv_aload_n hx hb dX4_firstFault_0 rfl (lv_at hl 0 rfl) ?_
  refine g_cr (g_J.plain (W2 := fun kd1 : Nat => (W_PG adK adV cY h g bv bm ml cn bt)) [] [0, 1, 2] [] [0, 1, 2] rfl (by decide) rfl (by decide) (by decide) (fun _ => rfl) (by decide)) [0] hK hP hD hS hA rfl (fun hPc hDc hKc hFc => va_runV (As := []) (rest := []) ⟨hx, hb, hml, hown, hts⟩ (t_X4_form l dC dI adK adV cY h g H.size bv bm ml cn bt   _ hw) (cwV 0 hts gX4_firstFault_X4_form rfl rfl rfl (by decide +kernel) ⟨Nat.le_of_ble_eq_true rfl, Nat.le_of_ble_eq_true rfl⟩) (g_pV czb (q0 := 0) rfl rfl hPc hDc hKc (czc hZ hS hFc)) rfl rfl hl.1 rfl (lv_room (Nat.le_of_ble_eq_true rfl)) dX4_firstFault_1 ⟨Nat.le_of_ble_eq_true rfl, Nat.le_of_ble_eq_true rfl⟩) (fun kd1 H locs hw hP hD hS => ?_)
  replace hP : va_P (dC, dI) vwCl (W_PG adK adV cY h g bv bm ml cn bt) H := hP
  replace hD : va_D A (W_PG adK adV cY h g bv bm ml cn bt) := hD
  obtain ⟨gkd1, hw⟩ := hw
  refine lv_astore_n (lv' := [(1, .ref (adK kd1)), (0, .ref h)]) hx hb dX4_firstFault_4 rfl hl (by decide) rfl (fun ls hl => ?_)
  refine lv_iconst (v := 0) hx hb dX4_firstFault_5 (by decide) ?_
  refine lv_istore_n (lv' := [(2, .int (0 : Int32)), (1, .ref (adK kd1)), (0, .ref h)]) hx hb dX4_firstFault_6 rfl hl (by decide) rfl (fun ls hl => ?_)
  refine hw (fun (x2 : Int32) => ∀ (H : Heap) (locs : List Loc) (ls : Array Slot), va_P (dC, dI) vwCl (W_PG adK adV cY h g bv bm ml cn bt) H → va_D A (W_PG adK adV cY h g bv bm ml cn bt) → va_S A s.heap H locs → lv_has ls 3 [(0, .ref h), (1, .ref (adK kd1)), (2, .int x2)] → W p l e rmX4_firstFault s m args below meth c H locs 0 0 Q (F0 m 7 ls [])) ?_ H locs ls hP hD hS (lv_sub hl [2, 1, 0] rfl)
  · intro x2 hw H locs ls hP hD hS hl
    refine lv_iload_n hx hb dX4_firstFault_7 rfl (lv_at hl 2 rfl) ?_
    refine lv_aload_n hx hb dX4_firstFault_8 rfl (lv_at hl 0 rfl) ?_
    refine va_get (D := (dC, dI)) (ci := 6) (v := .ref g) (C := RX4) (T := TX4) (N := 1) hx hb hts hiX4 hown hK hP 0 rfl rfl 0 (by decide) hf12 (fun _ h9 => h9) rfl dX4_firstFault_9 ?_
    refine g_ci (g_J.plain (W2 := fun u4 : Unit => (W_PG adK adV cY h g bv bm ml cn bt)) [(h, .inr (6, [.ref g]))] [1, 2] [0] [0, 1, 2] rfl (by decide) rfl (by decide) (by decide) (fun _ => rfl) (by decide)) [0] hK hP hD hS hA rfl (fun hPc hDc hKc hFc => va_runV (As := []) (rest := [.int x2]) ⟨hx, hb, hml, hown, hts⟩ (t_J4_length_8abf5 l dC dI adK adV cY g H.size bv bm ml cn bt   _ hw) (cwV 0 hts gX4_firstFault_J4_length_8abf5 rfl rfl rfl (by decide +kernel) ⟨Nat.le_of_ble_eq_true rfl, Nat.le_of_ble_eq_true rfl⟩) (g_pV czb (q0 := 0) rfl rfl hPc hDc hKc (czc hZ hS hFc)) rfl rfl hl.1 rfl (lv_room (Nat.le_of_ble_eq_true rfl)) dX4_firstFault_12 ⟨Nat.le_of_ble_eq_true rfl, Nat.le_of_ble_eq_true rfl⟩) (fun r5 u4 H locs hw hP hD hS => ?_)
    replace hP : va_P (dC, dI) vwCl (W_PG adK adV cY h g bv bm ml cn bt) H := hP
    replace hD : va_D A (W_PG adK adV cY h g bv bm ml cn bt) := hD
    refine lv_icmp_ge (tgt := 53) hx hb dX4_firstFault_15 (by decide) (fun hc6 => ?_) (fun hc6 => ?_)
    · replace hw := hw.1 hc6
      refine lv_aload_n hx hb dX4_firstFault_53 rfl (lv_at hl 0 rfl) ?_
      refine va_get (D := (dC, dI)) (ci := 6) (v := .ref g) (C := RX4) (T := TX4) (N := 1) hx hb hts hiX4 hown hK hP 0 rfl rfl 0 (by decide) hf12 (fun _ h9 => h9) rfl dX4_firstFault_54 ?_
      refine g_ci (g_J.plain (W2 := fun u7 : Unit => (W_PG adK adV cY h g bv bm ml cn bt)) [(h, .inr (6, [.ref g]))] [1, 2] [0] [0, 1, 2] rfl (by decide) rfl (by decide) (by decide) (fun _ => rfl) (by decide)) [0] hK hP hD hS hA rfl (fun hPc hDc hKc hFc => va_runV (As := []) (rest := []) ⟨hx, hb, hml, hown, hts⟩ (t_J4_length_8abf5 l dC dI adK adV cY g H.size bv bm ml cn bt   _ hw) (cwV 0 hts gX4_firstFault_J4_length_8abf5 rfl rfl rfl (by decide +kernel) ⟨Nat.le_of_ble_eq_true rfl, Nat.le_of_ble_eq_true rfl⟩) (g_pV czb (q0 := 0) rfl rfl hPc hDc hKc (czc hZ hS hFc)) rfl rfl hl.1 rfl (lv_room (Nat.le_of_ble_eq_true rfl)) dX4_firstFault_57 ⟨Nat.le_of_ble_eq_true rfl, Nat.le_of_ble_eq_true rfl⟩) (fun r8 u7 H locs hw hP hD hS => ?_)
      replace hP : va_P (dC, dI) vwCl (W_PG adK adV cY h g bv bm ml cn bt) H := hP
      replace hD : va_D A (W_PG adK adV cY h g bv bm ml cn bt) := hD
      exact hret dX4_firstFault_60 hK hP hD hS hw
    · replace hw := hw.2 hc6
      refine lv_iload_n hx hb dX4_firstFault_18 rfl (lv_at hl 2 rfl) ?_
      refine lv_aload_n hx hb dX4_firstFault_19 rfl (lv_at hl 1 rfl) ?_
      refine g_ci (g_J.plain (W2 := fun u9 : Unit => (W_PG adK adV cY h g bv bm ml cn bt)) [(h, .inr (6, [.ref g])), (g, .inr (1, [.ref bv, .int (0 : Int32), .int ml, .int cn])), (bv, .inl (cY, bm, .inl bt))] [] [0, 1, 2] [0, 1, 2] rfl (by decide) rfl (by decide) (by decide) (fun _ => rfl) (by decide)) [] hK hP hD hS hA rfl (fun hPc hDc hKc hFc => va_runV (As := []) (rest := [.int x2]) ⟨hx, hb, hml, hown, hts⟩ (t_J0_length_8abf5 l dC dI adK adV (adK kd1) (adV kd1) (czm kd1) (czt kd1) H.size    _ hw) (cwV 0 hts gX4_firstFault_J0_length_8abf5 rfl rfl rfl (by decide +kernel) ⟨Nat.le_of_ble_eq_true rfl, Nat.le_of_ble_eq_true rfl⟩) (g_pVs czsb (strZ_k hZ kd1 gkd1) hS hPc hDc hKc (czsk hZ hS kd1 gkd1 hFc)) rfl rfl hl.1 rfl (lv_room (Nat.le_of_ble_eq_true rfl)) dX4_firstFault_20 ⟨Nat.le_of_ble_eq_true rfl, Nat.le_of_ble_eq_true rfl⟩) (fun r10 u9 H locs hw hP hD hS => ?_)
      replace hP : va_P (dC, dI) vwCl (W_PG adK adV cY h g bv bm ml cn bt) H := hP
      replace hD : va_D A (W_PG adK adV cY h g bv bm ml cn bt) := hD
      refine lv_icmp_ge (tgt := 45) hx hb dX4_firstFault_23 (by decide) (fun hc11 => ?_) (fun hc11 => ?_)
      · replace hw := hw.1 hc11
        refine lv_iload_n hx hb dX4_firstFault_45 rfl (lv_at hl 2 rfl) ?_
        exact hret dX4_firstFault_46 hK hP hD hS hw
      · replace hw := hw.2 hc11
        refine lv_aload_n hx hb dX4_firstFault_26 rfl (lv_at hl 0 rfl) ?_
        refine va_get (D := (dC, dI)) (ci := 6) (v := .ref g) (C := RX4) (T := TX4) (N := 1) hx hb hts hiX4 hown hK hP 0 rfl rfl 0 (by decide) hf12 (fun _ h9 => h9) rfl dX4_firstFault_27 ?_
        refine lv_iload_n hx hb dX4_firstFault_30 rfl (lv_at hl 2 rfl) ?_
        refine g_ci (g_J.plain (W2 := fun u12 : Unit => (W_PG adK adV cY h g bv bm ml cn bt)) [(h, .inr (6, [.ref g]))] [1, 2] [0] [0, 1, 2] rfl (by decide) rfl (by decide) (by decide) (fun _ => rfl) (by decide)) [0] hK hP hD hS hA rfl (fun hPc hDc hKc hFc => va_runV (As := [.int x2]) (rest := []) ⟨hx, hb, hml, hown, hts⟩ (t_J4_charAt_5068e l dC dI adK adV cY g H.size bv bm ml cn bt  x2 _ hw) (cwV 1 hts gX4_firstFault_J4_charAt_5068e rfl rfl rfl (by decide +kernel) ⟨Nat.le_of_ble_eq_true rfl, Nat.le_of_ble_eq_true rfl⟩) (g_pV czb (q0 := 0) rfl rfl hPc hDc hKc (czc hZ hS hFc)) rfl rfl hl.1 rfl (lv_room (Nat.le_of_ble_eq_true rfl)) dX4_firstFault_31 ⟨Nat.le_of_ble_eq_true rfl, Nat.le_of_ble_eq_true rfl⟩) (fun r13 u12 H locs hw hP hD hS => ?_)
        replace hP : va_P (dC, dI) vwCl (W_PG adK adV cY h g bv bm ml cn bt) H := hP
        replace hD : va_D A (W_PG adK adV cY h g bv bm ml cn bt) := hD
        refine lv_aload_n hx hb dX4_firstFault_34 rfl (lv_at hl 1 rfl) ?_
        refine lv_iload_n hx hb dX4_firstFault_35 rfl (lv_at hl 2 rfl) ?_
        refine g_ci (g_J.plain (W2 := fun u14 : Unit => (W_PG adK adV cY h g bv bm ml cn bt)) [(h, .inr (6, [.ref g])), (g, .inr (1, [.ref bv, .int (0 : Int32), .int ml, .int cn])), (bv, .inl (cY, bm, .inl bt))] [] [0, 1, 2] [0, 1, 2] rfl (by decide) rfl (by decide) (by decide) (fun _ => rfl) (by decide)) [] hK hP hD hS hA rfl (fun hPc hDc hKc hFc => va_runV (As := [.int x2]) (rest := [.int r13]) ⟨hx, hb, hml, hown, hts⟩ (t_J0_charAt_5068e l dC dI adK adV (adK kd1) (adV kd1) (czm kd1) (czt kd1) H.size   x2 _ hw) (cwV 1 hts gX4_firstFault_J0_charAt_5068e rfl rfl rfl (by decide +kernel) ⟨Nat.le_of_ble_eq_true rfl, Nat.le_of_ble_eq_true rfl⟩) (g_pVs czsb (strZ_k hZ kd1 gkd1) hS hPc hDc hKc (czsk hZ hS kd1 gkd1 hFc)) rfl rfl hl.1 rfl (lv_room (Nat.le_of_ble_eq_true rfl)) dX4_firstFault_36 ⟨Nat.le_of_ble_eq_true rfl, Nat.le_of_ble_eq_true rfl⟩) (fun r15 u14 H locs hw hP hD hS => ?_)
        replace hP : va_P (dC, dI) vwCl (W_PG adK adV cY h g bv bm ml cn bt) H := hP
        replace hD : va_D A (W_PG adK adV cY h g bv bm ml cn bt) := hD
        refine g_ci (g_J.plain (W2 := fun u16 : Unit => (W_PG adK adV cY h g bv bm ml cn bt)) [(h, .inr (6, [.ref g])), (g, .inr (1, [.ref bv, .int (0 : Int32), .int ml, .int cn])), (bv, .inl (cY, bm, .inl bt))] [] [0, 1, 2] [0, 1, 2] rfl (by decide) rfl (by decide) (by decide) (fun _ => rfl) (by decide)) [] hK hP hD hS hA rfl (fun hPc hDc hKc hFc => va_runS (As := [.int r13, .int r15]) (rest := []) ⟨hx, hb, hml, hown, hts⟩ (t_X4_suits l dC dI adK adV H.size   r13 r15 _ hw) (va_cwS 2 hts gX4_firstFault_X4_suits rfl rfl rfl (by decide +kernel) ⟨Nat.le_of_ble_eq_true rfl, Nat.le_of_ble_eq_true rfl⟩) (g_pS czb hPc hDc hKc (czc hZ hS hFc)) rfl rfl hl.1 rfl (lv_room (Nat.le_of_ble_eq_true rfl)) dX4_firstFault_39 ⟨Nat.le_of_ble_eq_true rfl, Nat.le_of_ble_eq_true rfl⟩) (fun r17 u16 H locs hw hP hD hS => ?_)
        replace hP : va_P (dC, dI) vwCl (W_PG adK adV cY h g bv bm ml cn bt) H := hP
        replace hD : va_D A (W_PG adK adV cY h g bv bm ml cn bt) := hD
        refine lv_if_ne (tgt := 47) hx hb dX4_firstFault_42 (by decide) (fun hc18 => ?_) (fun hc18 => ?_)
        · replace hw := hw.1 hc18
          obtain ⟨x19, ex19⟩ : ∃ y : Int32, y = x2 + (1 : Int32) := ⟨_, rfl⟩
          replace hw := hw x19 ex19
          refine lv_iinc (v := x19) (lv' := [(2, .int x19), (0, .ref h), (1, .ref (adK kd1))]) hx hb dX4_firstFault_47 hl (k := 2) rfl (by rw [ex19]; rfl) (by decide) rfl (fun ls hl => ?_)
          refine lv_goto (tgt := 7) hx hb dX4_firstFault_50 (by decide) ?_
          exact hw H locs ls hP hD hS (lv_sub hl [1, 2, 0] rfl)
        · replace hw := hw.2 hc18
          refine lv_iload_n hx hb dX4_firstFault_45 rfl (lv_at hl 2 rfl) ?_
          exact hret dX4_firstFault_46 hK hP hD hS hw

def w_X4_isPile  (bv : Nat) (bm : Nat) (ml : Int32) (cn : Int32) (bt : Nat → Int32)   (Q : Int32 → Unit → Prop) : Prop := w_J4_length_8abf5 bv bm ml cn bt   (fun (r2 : Int32) (u1 : Unit) => (((r2 ≤ 0) → Q (0 : Int32) ()) ∧ (¬ (r2 ≤ 0) → w_X4_form bv bm ml cn bt   (fun (kd4 : Nat) => (kd4 < 5) ∧ w_J0_length_8abf5 (czm kd4) (czt kd4)   (fun (r6 : Int32) (u5 : Unit) => (((¬ r2 = r6) → Q (0 : Int32) ()) ∧ (r2 = r6 → w_X4_firstFault bv bm ml cn bt   (fun (r9 : Int32) (u8 : Unit) => (((¬ r9 = r2) → Q (0 : Int32) ()) ∧ (r9 = r2 → Q (1 : Int32) ()))))))))))
abbrev rmX4_isPile : Room := { frames := 7, cells := 0, slots := 0, locals := 151 }
set_option maxHeartbeats 4000000 in
set_option maxRecDepth 100000 in
theorem t_X4_isPile (l : Launch) (dC : Nat → ClassId) (dI : Nat → Nat → Nat) (adK : Nat → Nat) (adV : Nat → Nat) (cY : ClassId) (h : Nat) (g : Nat) (sz : Nat) (bv : Nat) (bm : Nat) (ml : Int32) (cn : Int32) (bt : Nat → Int32)    (Q0 : Int32 → Unit → Prop) (hw : w_X4_isPile  bv bm ml cn bt   Q0) : Met l yX4_isPile wsX4_isPile rmX4_isPile (g_pre (cz adK adV) (dC, dI) vwCl [(cY, .byte)] (W_PG adK adV cY h g bv bm ml cn bt) sz [.ref h]) (g_qi (dC, dI) vwCl [(cY, .byte)] (fun u : Unit => (W_PG adK adV cY h g bv bm ml cn bt)) Q0 (va_A (W_PG adK adV cY h g bv bm ml cn bt) sz)) 0 0 (va_A (W_PG adK adV cY h g bv bm ml cn bt) sz) := by
  refine g_startz (by decide) rfl (Nat.le_of_ble_eq_true rfl) ?_
  intro p e s m args below meth c A Q ls hx hb hml hown hts hin hK hP hD hA hS hZ hret hl
  obtain ⟨H, eH⟩ : ∃ H : Heap, H = s.heap := ⟨_, rfl⟩
  obtain ⟨locs, eL⟩ : ∃ L : List Loc, L = [] := ⟨_, rfl⟩
  have hS : va_S A s.heap H locs := by rw [eH, eL]; exact hS
  rw [← eH] at hP
  suffices hg : W p l e rmX4_isPile s m args below meth c H locs 0 0 Q (F0 m 0 ls []) by rw [eH, eL] at hg; exact hg
  clear eH eL
  replace hl : lv_has ls 2 [(0, .ref h)] := hl
  have hf12 := hts (.fieldLink RX4 12 "NumberPile$Page" "letters" "Ljava/lang/StringBuilder;") (by decide +kernel)
  have hiX4 : ∀ w ∈ u_ws RX4 TX4 1, w ∈ wsX4_isPile := fun w h => List.mem_cons_of_mem _ (List.mem_append_left _ (List.mem_append_left _ (List.mem_append_right _ h)))
  unfold w_X4_isPile at hw
  refine lv_aload_n hx hb dX4_isPile_0 rfl (lv_at hl 0 rfl) ?_
  refine va_get (D := (dC, dI)) (ci := 6) (v := .ref g) (C := RX4) (T := TX4) (N := 1) hx hb hts hiX4 hown hK hP 0 rfl rfl 0 (by decide) hf12 (fun _ h9 => h9) rfl dX4_isPile_1 ?_
  refine g_ci (g_J.plain (W2 := fun u1 : Unit => (W_PG adK adV cY h g bv bm ml cn bt)) [(h, .inr (6, [.ref g]))] [1, 2] [0] [0, 1, 2] rfl (by decide) rfl (by decide) (by decide) (fun _ => rfl) (by decide)) [0] hK hP hD hS hA rfl (fun hPc hDc hKc hFc => va_runV (As := []) (rest := []) ⟨hx, hb, hml, hown, hts⟩ (t_J4_length_8abf5 l dC dI adK adV cY g H.size bv bm ml cn bt   _ hw) (cwV 0 hts gX4_isPile_J4_length_8abf5 rfl rfl rfl (by decide +kernel) ⟨Nat.le_of_ble_eq_true rfl, Nat.le_of_ble_eq_true rfl⟩) (g_pV czb (q0 := 0) rfl rfl hPc hDc hKc (czc hZ hS hFc)) rfl rfl hl.1 rfl (lv_room (Nat.le_of_ble_eq_true rfl)) dX4_isPile_4 ⟨Nat.le_of_ble_eq_true rfl, Nat.le_of_ble_eq_true rfl⟩) (fun r2 u1 H locs hw hP hD hS => ?_)
  replace hP : va_P (dC, dI) vwCl (W_PG adK adV cY h g bv bm ml cn bt) H := hP
  replace hD : va_D A (W_PG adK adV cY h g bv bm ml cn bt) := hD
  refine lv_istore_n (lv' := [(1, .int r2), (0, .ref h)]) hx hb dX4_isPile_7 rfl hl (by decide) rfl (fun ls hl => ?_)
  refine lv_iload_n hx hb dX4_isPile_8 rfl (lv_at hl 0 rfl) ?_
  refine lv_if_le (tgt := 35) hx hb dX4_isPile_9 (by decide) (fun hc3 => ?_) (fun hc3 => ?_)
  · replace hw := hw.1 hc3
    refine lv_iconst (v := 0) hx hb dX4_isPile_35 (by decide) ?_
    exact hret dX4_isPile_36 hK hP hD hS isB_0 hw
  · replace hw := hw.2 hc3
    refine lv_iload_n hx hb dX4_isPile_12 rfl (lv_at hl 0 rfl) ?_
    refine lv_aload_n hx hb dX4_isPile_13 rfl (lv_at hl 1 rfl) ?_
    refine g_cr (g_J.plain (W2 := fun kd4 : Nat => (W_PG adK adV cY h g bv bm ml cn bt)) [] [0, 1, 2] [] [0, 1, 2] rfl (by decide) rfl (by decide) (by decide) (fun _ => rfl) (by decide)) [0] hK hP hD hS hA rfl (fun hPc hDc hKc hFc => va_runV (As := []) (rest := [.int r2]) ⟨hx, hb, hml, hown, hts⟩ (t_X4_form l dC dI adK adV cY h g H.size bv bm ml cn bt   _ hw) (cwV 0 hts gX4_isPile_X4_form rfl rfl rfl (by decide +kernel) ⟨Nat.le_of_ble_eq_true rfl, Nat.le_of_ble_eq_true rfl⟩) (g_pV czb (q0 := 0) rfl rfl hPc hDc hKc (czc hZ hS hFc)) rfl rfl hl.1 rfl (lv_room (Nat.le_of_ble_eq_true rfl)) dX4_isPile_14 ⟨Nat.le_of_ble_eq_true rfl, Nat.le_of_ble_eq_true rfl⟩) (fun kd4 H locs hw hP hD hS => ?_)
    replace hP : va_P (dC, dI) vwCl (W_PG adK adV cY h g bv bm ml cn bt) H := hP
    replace hD : va_D A (W_PG adK adV cY h g bv bm ml cn bt) := hD
    obtain ⟨gkd4, hw⟩ := hw
    refine g_ci (g_J.plain (W2 := fun u5 : Unit => (W_PG adK adV cY h g bv bm ml cn bt)) [(h, .inr (6, [.ref g])), (g, .inr (1, [.ref bv, .int (0 : Int32), .int ml, .int cn])), (bv, .inl (cY, bm, .inl bt))] [] [0, 1, 2] [0, 1, 2] rfl (by decide) rfl (by decide) (by decide) (fun _ => rfl) (by decide)) [] hK hP hD hS hA rfl (fun hPc hDc hKc hFc => va_runV (As := []) (rest := [.int r2]) ⟨hx, hb, hml, hown, hts⟩ (t_J0_length_8abf5 l dC dI adK adV (adK kd4) (adV kd4) (czm kd4) (czt kd4) H.size    _ hw) (cwV 0 hts gX4_isPile_J0_length_8abf5 rfl rfl rfl (by decide +kernel) ⟨Nat.le_of_ble_eq_true rfl, Nat.le_of_ble_eq_true rfl⟩) (g_pVs czsb (strZ_k hZ kd4 gkd4) hS hPc hDc hKc (czsk hZ hS kd4 gkd4 hFc)) rfl rfl hl.1 rfl (lv_room (Nat.le_of_ble_eq_true rfl)) dX4_isPile_17 ⟨Nat.le_of_ble_eq_true rfl, Nat.le_of_ble_eq_true rfl⟩) (fun r6 u5 H locs hw hP hD hS => ?_)
    replace hP : va_P (dC, dI) vwCl (W_PG adK adV cY h g bv bm ml cn bt) H := hP
    replace hD : va_D A (W_PG adK adV cY h g bv bm ml cn bt) := hD
    refine lv_icmp_ne (tgt := 35) hx hb dX4_isPile_20 (by decide) (fun hc7 => ?_) (fun hc7 => ?_)
    · replace hw := hw.1 hc7
      refine lv_iconst (v := 0) hx hb dX4_isPile_35 (by decide) ?_
      exact hret dX4_isPile_36 hK hP hD hS isB_0 hw
    · replace hw := hw.2 hc7
      refine lv_aload_n hx hb dX4_isPile_23 rfl (lv_at hl 1 rfl) ?_
      refine g_ci (g_J.plain (W2 := fun u8 : Unit => (W_PG adK adV cY h g bv bm ml cn bt)) [] [0, 1, 2] [] [0, 1, 2] rfl (by decide) rfl (by decide) (by decide) (fun _ => rfl) (by decide)) [0] hK hP hD hS hA rfl (fun hPc hDc hKc hFc => va_runV (As := []) (rest := []) ⟨hx, hb, hml, hown, hts⟩ (t_X4_firstFault l dC dI adK adV cY h g H.size bv bm ml cn bt   _ hw) (cwV 0 hts gX4_isPile_X4_firstFault rfl rfl rfl (by decide +kernel) ⟨Nat.le_of_ble_eq_true rfl, Nat.le_of_ble_eq_true rfl⟩) (g_pV czb (q0 := 0) rfl rfl hPc hDc hKc (czc hZ hS hFc)) rfl rfl hl.1 rfl (lv_room (Nat.le_of_ble_eq_true rfl)) dX4_isPile_24 ⟨Nat.le_of_ble_eq_true rfl, Nat.le_of_ble_eq_true rfl⟩) (fun r9 u8 H locs hw hP hD hS => ?_)
      replace hP : va_P (dC, dI) vwCl (W_PG adK adV cY h g bv bm ml cn bt) H := hP
      replace hD : va_D A (W_PG adK adV cY h g bv bm ml cn bt) := hD
      refine lv_iload_n hx hb dX4_isPile_27 rfl (lv_at hl 0 rfl) ?_
      refine lv_icmp_ne (tgt := 35) hx hb dX4_isPile_28 (by decide) (fun hc10 => ?_) (fun hc10 => ?_)
      · replace hw := hw.1 hc10
        refine lv_iconst (v := 0) hx hb dX4_isPile_35 (by decide) ?_
        exact hret dX4_isPile_36 hK hP hD hS isB_0 hw
      · replace hw := hw.2 hc10
        refine lv_iconst (v := 1) hx hb dX4_isPile_31 (by decide) ?_
        refine lv_goto (tgt := 36) hx hb dX4_isPile_32 (by decide) ?_
        exact hret dX4_isPile_36 hK hP hD hS isB_1 hw
