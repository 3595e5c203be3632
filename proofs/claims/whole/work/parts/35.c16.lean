def w_X0_init     (Q : Unit → Prop) : Prop := Q ()
abbrev rmX0_init : Room := { frames := 1, cells := 0, slots := 0, locals := 12 }
set_option maxHeartbeats 4000000 in
set_option maxRecDepth 100000 in
theorem t_X0_init (l : Launch) (dC : Nat → ClassId) (dI : Nat → Nat → Nat) (adK : Nat → Nat) (adV : Nat → Nat) (sz : Nat)   (h : Nat)  (Q0 : Unit → Prop) (hw : w_X0_init     Q0) : Met l yX0_init wsX0_init rmX0_init (g_pre (cz adK adV) (dC, dI) vwCl [] (W_Z adK adV ) sz [.ref h]) (g_qv (dC, dI) vwCl [] (fun u : Unit => (W_Z adK adV )) Q0 (va_A (W_Z adK adV ) sz)) 0 0 (va_A (W_Z adK adV ) sz) := by
  refine g_startv (by decide) rfl (Nat.le_of_ble_eq_true rfl) ?_
  intro p e s m args below meth c A Q ls hx hb hml hown hts hin hK hP hD hA hS hZ hret hl
  obtain ⟨H, eH⟩ : ∃ H : Heap, H = s.heap := ⟨_, rfl⟩
  obtain ⟨locs, eL⟩ : ∃ L : List Loc, L = [] := ⟨_, rfl⟩
  have hS : va_S A s.heap H locs := by rw [eH, eL]; exact hS
  rw [← eH] at hP
  suffices hg : W p l e rmX0_init s m args below meth c H locs 0 0 Q (F0 m 0 ls []) by rw [eH, eL] at hg; exact hg
  clear eH eL
  replace hl : lv_has ls 1 [(0, .ref h)] := hl
  have ol1 := hts (.methodLink RX0 1 objectInit) (by decide +kernel)
  have oiM := hts (.instanceMethod objectInit) (by decide +kernel)
  have oiC := hts (.code objectInit ⟨#[0xb1]⟩ 1 none) (by decide +kernel)
  unfold w_X0_init at hw
  refine lv_aload_n hx hb dX0_init_0 rfl (lv_at hl 0 rfl) ?_
  refine W.objInit hx hb hown ol1 oiM oiC rfl (by rw [hml]; exact hl.1) rfl dX0_init_1 (Nat.le_of_ble_eq_true rfl) (Nat.le_of_ble_eq_true rfl) ?_
  refine W.eq (g2 := F0 m 4 ls []) rfl ?_
  exact hret dX0_init_4 hK hP hD hS hw

def w_X1_init     (Q : Unit → Prop) : Prop := w_X0_init    (fun (u1 : Unit) => Q ())
abbrev rmX1_init : Room := { frames := 2, cells := 0, slots := 0, locals := 32 }
set_option maxHeartbeats 4000000 in
set_option maxRecDepth 100000 in
theorem t_X1_init (l : Launch) (dC : Nat → ClassId) (dI : Nat → Nat → Nat) (adK : Nat → Nat) (adV : Nat → Nat) (sz : Nat)   (h : Nat)  (Q0 : Unit → Prop) (hw : w_X1_init     Q0) : Met l yX1_init wsX1_init rmX1_init (g_pre (cz adK adV) (dC, dI) vwCl [] (W_Z adK adV ) sz [.ref h]) (g_qv (dC, dI) vwCl [] (fun u : Unit => (W_Z adK adV )) Q0 (va_A (W_Z adK adV ) sz)) 0 0 (va_A (W_Z adK adV ) sz) := by
  refine g_startv (by decide) rfl (Nat.le_of_ble_eq_true rfl) ?_
  intro p e s m args below meth c A Q ls hx hb hml hown hts hin hK hP hD hA hS hZ hret hl
  obtain ⟨H, eH⟩ : ∃ H : Heap, H = s.heap := ⟨_, rfl⟩
  obtain ⟨locs, eL⟩ : ∃ L : List Loc, L = [] := ⟨_, rfl⟩
  have hS : va_S A s.heap H locs := by rw [eH, eL]; exact hS
  rw [← eH] at hP
  suffices hg : W p l e rmX1_init s m args below meth c H locs 0 0 Q (F0 m 0 ls []) by rw [eH, eL] at hg; exact hg
  clear eH eL
  replace hl : lv_has ls 1 [(0, .ref h)] := hl
  have nm1 := hZ.1 _ (List.mem_of_getElem? (i := 0) (rfl : cz_nest[0]? = some (.methodLinkNest RX1 1 yX0_init "NumberPile")))
  have iniRX0 := hts (.initialized RX0) (by decide +kernel)
  have imX0_init := hts (.instanceMethod yX0_init) (by decide +kernel)
  unfold w_X1_init at hw
  refine lv_aload_n hx hb dX1_init_0 rfl (lv_at hl 0 rfl) ?_
  refine g_cv (g_J.plain (W2 := fun u1 : Unit => (W_Z adK adV )) [] [] [] [] rfl (by decide) rfl (by decide) (by decide) (fun _ => rfl) (by decide)) [] hK hP hD hS hA rfl (fun hPc hDc hKc hFc => va_runIN (As := []) (rest := []) ⟨hx, hb, hml, hown, hts⟩ (t_X0_init l dC dI adK adV H.size  h  _ hw) ⟨va_cnB 0 hts gX1_init_X0_init_n1 rfl rfl rfl nm1 iniRX0 (by decide +kernel) ⟨Nat.le_of_ble_eq_true rfl, Nat.le_of_ble_eq_true rfl⟩, rfl, imX0_init⟩ (g_pS czb (As := .ref h :: []) hPc hDc hKc (czc hZ hS hFc)) rfl rfl hl.1 rfl (lv_room (Nat.le_of_ble_eq_true rfl)) dX1_init_1 ⟨Nat.le_of_ble_eq_true rfl, Nat.le_of_ble_eq_true rfl⟩) (fun u1 H locs hw hP hD hS => ?_)
  replace hP : va_P (dC, dI) vwCl (W_Z adK adV ) H := hP
  replace hD : va_D A (W_Z adK adV ) := hD
  exact hret dX1_init_4 hK hP hD hS hw

def w_X3_init     (Q : Unit → Prop) : Prop := w_X0_init    (fun (u1 : Unit) => Q ())
abbrev rmX3_init : Room := { frames := 2, cells := 0, slots := 0, locals := 32 }
set_option maxHeartbeats 4000000 in
set_option maxRecDepth 100000 in
theorem t_X3_init (l : Launch) (dC : Nat → ClassId) (dI : Nat → Nat → Nat) (adK : Nat → Nat) (adV : Nat → Nat) (sz : Nat)   (h : Nat)  (Q0 : Unit → Prop) (hw : w_X3_init     Q0) : Met l yX3_init wsX3_init rmX3_init (g_pre (cz adK adV) (dC, dI) vwCl [] (W_Z adK adV ) sz [.ref h]) (g_qv (dC, dI) vwCl [] (fun u : Unit => (W_Z adK adV )) Q0 (va_A (W_Z adK adV ) sz)) 0 0 (va_A (W_Z adK adV ) sz) := by
  refine g_startv (by decide) rfl (Nat.le_of_ble_eq_true rfl) ?_
  intro p e s m args below meth c A Q ls hx hb hml hown hts hin hK hP hD hA hS hZ hret hl
  obtain ⟨H, eH⟩ : ∃ H : Heap, H = s.heap := ⟨_, rfl⟩
  obtain ⟨locs, eL⟩ : ∃ L : List Loc, L = [] := ⟨_, rfl⟩
  have hS : va_S A s.heap H locs := by rw [eH, eL]; exact hS
  rw [← eH] at hP
  suffices hg : W p l e rmX3_init s m args below meth c H locs 0 0 Q (F0 m 0 ls []) by rw [eH, eL] at hg; exact hg
  clear eH eL
  replace hl : lv_has ls 1 [(0, .ref h)] := hl
  have nm1 := hZ.1 _ (List.mem_of_getElem? (i := 20) (rfl : cz_nest[20]? = some (.methodLinkNest RX3 1 yX0_init "NumberPile")))
  have iniRX0 := hts (.initialized RX0) (by decide +kernel)
  have imX0_init := hts (.instanceMethod yX0_init) (by decide +kernel)
  unfold w_X3_init at hw
  refine lv_aload_n hx hb dX3_init_0 rfl (lv_at hl 0 rfl) ?_
  refine g_cv (g_J.plain (W2 := fun u1 : Unit => (W_Z adK adV )) [] [] [] [] rfl (by decide) rfl (by decide) (by decide) (fun _ => rfl) (by decide)) [] hK hP hD hS hA rfl (fun hPc hDc hKc hFc => va_runIN (As := []) (rest := []) ⟨hx, hb, hml, hown, hts⟩ (t_X0_init l dC dI adK adV H.size  h  _ hw) ⟨va_cnB 0 hts gX3_init_X0_init_n1 rfl rfl rfl nm1 iniRX0 (by decide +kernel) ⟨Nat.le_of_ble_eq_true rfl, Nat.le_of_ble_eq_true rfl⟩, rfl, imX0_init⟩ (g_pS czb (As := .ref h :: []) hPc hDc hKc (czc hZ hS hFc)) rfl rfl hl.1 rfl (lv_room (Nat.le_of_ble_eq_true rfl)) dX3_init_1 ⟨Nat.le_of_ble_eq_true rfl, Nat.le_of_ble_eq_true rfl⟩) (fun u1 H locs hw hP hD hS => ?_)
  replace hP : va_P (dC, dI) vwCl (W_Z adK adV ) H := hP
  replace hD : va_D A (W_Z adK adV ) := hD
  exact hret dX3_init_4 hK hP hD hS hw

def w_X9_init     (Q : Unit → Prop) : Prop := w_X0_init    (fun (u1 : Unit) => Q ())
abbrev rmX9_init : Room := { frames := 2, cells := 0, slots := 0, locals := 32 }
set_option maxHeartbeats 4000000 in
set_option maxRecDepth 100000 in
theorem t_X9_init (l : Launch) (dC : Nat → ClassId) (dI : Nat → Nat → Nat) (adK : Nat → Nat) (adV : Nat → Nat) (sz : Nat)   (h : Nat)  (Q0 : Unit → Prop) (hw : w_X9_init     Q0) : Met l yX9_init wsX9_init rmX9_init (g_pre (cz adK adV) (dC, dI) vwCl [] (W_Z adK adV ) sz [.ref h]) (g_qv (dC, dI) vwCl [] (fun u : Unit => (W_Z adK adV )) Q0 (va_A (W_Z adK adV ) sz)) 0 0 (va_A (W_Z adK adV ) sz) := by
  refine g_startv (by decide) rfl (Nat.le_of_ble_eq_true rfl) ?_
  intro p e s m args below meth c A Q ls hx hb hml hown hts hin hK hP hD hA hS hZ hret hl
  obtain ⟨H, eH⟩ : ∃ H : Heap, H = s.heap := ⟨_, rfl⟩
  obtain ⟨locs, eL⟩ : ∃ L : List Loc, L = [] := ⟨_, rfl⟩
  have hS : va_S A s.heap H locs := by rw [eH, eL]; exact hS
  rw [← eH] at hP
  suffices hg : W p l e rmX9_init s m args below meth c H locs 0 0 Q (F0 m 0 ls []) by rw [eH, eL] at hg; exact hg
  clear eH eL
  replace hl : lv_has ls 1 [(0, .ref h)] := hl
  have nm1 := hZ.1 _ (List.mem_of_getElem? (i := 35) (rfl : cz_nest[35]? = some (.methodLinkNest RX9 1 yX0_init "NumberPile")))
  have iniRX0 := hts (.initialized RX0) (by decide +kernel)
  have imX0_init := hts (.instanceMethod yX0_init) (by decide +kernel)
  unfold w_X9_init at hw
  refine lv_aload_n hx hb dX9_init_0 rfl (lv_at hl 0 rfl) ?_
  refine g_cv (g_J.plain (W2 := fun u1 : Unit => (W_Z adK adV )) [] [] [] [] rfl (by decide) rfl (by decide) (by decide) (fun _ => rfl) (by decide)) [] hK hP hD hS hA rfl (fun hPc hDc hKc hFc => va_runIN (As := []) (rest := []) ⟨hx, hb, hml, hown, hts⟩ (t_X0_init l dC dI adK adV H.size  h  _ hw) ⟨va_cnB 0 hts gX9_init_X0_init_n1 rfl rfl rfl nm1 iniRX0 (by decide +kernel) ⟨Nat.le_of_ble_eq_true rfl, Nat.le_of_ble_eq_true rfl⟩, rfl, imX0_init⟩ (g_pS czb (As := .ref h :: []) hPc hDc hKc (czc hZ hS hFc)) rfl rfl hl.1 rfl (lv_room (Nat.le_of_ble_eq_true rfl)) dX9_init_1 ⟨Nat.le_of_ble_eq_true rfl, Nat.le_of_ble_eq_true rfl⟩) (fun u1 H locs hw hP hD hS => ?_)
  replace hP : va_P (dC, dI) vwCl (W_Z adK adV ) H := hP
  replace hD : va_D A (W_Z adK adV ) := hD
  exact hret dX9_init_4 hK hP hD hS hw

def w_X2_init     (Q : Unit → Prop) : Prop := w_X9_init    (fun (u1 : Unit) => Q ())
abbrev rmX2_init : Room := { frames := 3, cells := 0, slots := 0, locals := 52 }
set_option maxHeartbeats 4000000 in
set_option maxRecDepth 100000 in
theorem t_X2_init (l : Launch) (dC : Nat → ClassId) (dI : Nat → Nat → Nat) (adK : Nat → Nat) (adV : Nat → Nat) (sz : Nat)   (h : Nat)  (Q0 : Unit → Prop) (hw : w_X2_init     Q0) : Met l yX2_init wsX2_init rmX2_init (g_pre (cz adK adV) (dC, dI) vwCl [] (W_Z adK adV ) sz [.ref h]) (g_qv (dC, dI) vwCl [] (fun u : Unit => (W_Z adK adV )) Q0 (va_A (W_Z adK adV ) sz)) 0 0 (va_A (W_Z adK adV ) sz) := by
  refine g_startv (by decide) rfl (Nat.le_of_ble_eq_true rfl) ?_
  intro p e s m args below meth c A Q ls hx hb hml hown hts hin hK hP hD hA hS hZ hret hl
  obtain ⟨H, eH⟩ : ∃ H : Heap, H = s.heap := ⟨_, rfl⟩
  obtain ⟨locs, eL⟩ : ∃ L : List Loc, L = [] := ⟨_, rfl⟩
  have hS : va_S A s.heap H locs := by rw [eH, eL]; exact hS
  rw [← eH] at hP
  suffices hg : W p l e rmX2_init s m args below meth c H locs 0 0 Q (F0 m 0 ls []) by rw [eH, eL] at hg; exact hg
  clear eH eL
  replace hl : lv_has ls 1 [(0, .ref h)] := hl
  have nm3 := hZ.1 _ (List.mem_of_getElem? (i := 19) (rfl : cz_nest[19]? = some (.methodLinkNest RX2 3 yX9_init "NumberPile")))
  have iniRX9 := hts (.initialized RX9) (by decide +kernel)
  have imX9_init := hts (.instanceMethod yX9_init) (by decide +kernel)
  unfold w_X2_init at hw
  refine lv_aload_n hx hb dX2_init_0 rfl (lv_at hl 0 rfl) ?_
  refine g_cv (g_J.plain (W2 := fun u1 : Unit => (W_Z adK adV )) [] [] [] [] rfl (by decide) rfl (by decide) (by decide) (fun _ => rfl) (by decide)) [] hK hP hD hS hA rfl (fun hPc hDc hKc hFc => va_runIN (As := []) (rest := []) ⟨hx, hb, hml, hown, hts⟩ (t_X9_init l dC dI adK adV H.size  h  _ hw) ⟨va_cnB 0 hts gX2_init_X9_init_n3 rfl rfl rfl nm3 iniRX9 (by decide +kernel) ⟨Nat.le_of_ble_eq_true rfl, Nat.le_of_ble_eq_true rfl⟩, rfl, imX9_init⟩ (g_pS czb (As := .ref h :: []) hPc hDc hKc (czc hZ hS hFc)) rfl rfl hl.1 rfl (lv_room (Nat.le_of_ble_eq_true rfl)) dX2_init_1 ⟨Nat.le_of_ble_eq_true rfl, Nat.le_of_ble_eq_true rfl⟩) (fun u1 H locs hw hP hD hS => ?_)
  replace hP : va_P (dC, dI) vwCl (W_Z adK adV ) H := hP
  replace hD : va_D A (W_Z adK adV ) := hD
  exact hret dX2_init_4 hK hP hD hS hw

def w_J5_init_d00df    (p0 : Int32) (Q : (Nat × Nat) → Prop) : Prop := ((((1 : Int32) = 0) → False) ∧ (¬ ((1 : Int32) = 0) → ∃ N2 : Nat, (p0 = nI N2) ∧ (N2 ≤ 40) ∧ ∀ q3 : Nat, Q (q3, N2)))
abbrev rmJ5_init_d00df : Room := { frames := 1, cells := 1, slots := 40, locals := 12 }
set_option maxHeartbeats 4000000 in
set_option maxRecDepth 100000 in
theorem t_J5_init_d00df (l : Launch) (dC : Nat → ClassId) (dI : Nat → Nat → Nat) (adK : Nat → Nat) (adV : Nat → Nat) (cY : ClassId) (h : Nat) (sz : Nat)    (p0 : Int32) (Q0 : (Nat × Nat) → Prop) (hw : w_J5_init_d00df    p0 Q0) : Met l yJ5_init_d00df wsJ5_init_d00df rmJ5_init_d00df (g_pre (cz adK adV) (dC, dI) vwCl [(cY, .byte)] [(h, .inr (1, [.null, .int 0, .int 0, .int 0]))] sz [.ref h, .int p0]) (g_qv (dC, dI) vwCl [(cY, .byte)] (fun u : (Nat × Nat) => [(h, .inr (1, [.ref (u.1), .int (0 : Int32), .int 0, .int 0])), ((u.1), .inl (cY, ((u.2)), .inl (fun _ => 0)))]) Q0 (va_A [(h, .inr (1, [.null, .int 0, .int 0, .int 0]))] sz)) 1 40 (va_A [(h, .inr (1, [.null, .int 0, .int 0, .int 0]))] sz) := by
  refine g_startv (by decide) rfl (Nat.le_of_ble_eq_true rfl) ?_
  intro p e s m args below meth c A Q ls hx hb hml hown hts hin hK hP hD hA hS hZ hret hl
  obtain ⟨H, eH⟩ : ∃ H : Heap, H = s.heap := ⟨_, rfl⟩
  obtain ⟨locs, eL⟩ : ∃ L : List Loc, L = [] := ⟨_, rfl⟩
  have hS : va_S A s.heap H locs := by rw [eH, eL]; exact hS
  rw [← eH] at hP
  suffices hg : W p l e rmJ5_init_d00df s m args below meth c H locs 0 0 Q (F0 m 0 ls []) by rw [eH, eL] at hg; exact hg
  clear eH eL
  replace hl : lv_has ls 2 [(0, .ref h), (1, .int p0)] := hl
  have ol3 := hts (.methodLink RJ5 3 objectInit) (by decide +kernel)
  have oiM := hts (.instanceMethod objectInit) (by decide +kernel)
  have oiC := hts (.code objectInit ⟨#[0xb1]⟩ 1 none) (by decide +kernel)
  have hf18 := hts (.fieldLink RJ5 18 "java/lang/String" "COMPACT_STRINGS" "Z") (by decide +kernel)
  have acB := hts (.arrayClass .byte) (by decide +kernel)
  have hf15 := hts (.fieldLink RJ5 15 "java/lang/AbstractStringBuilder" "value" "[B") (by decide +kernel)
  have hiJ4 : ∀ w ∈ u_ws RJ4 TJ4 4, w ∈ wsJ5_init_d00df := fun w h => List.mem_cons_of_mem _ (List.mem_append_right _ h)
  have hf22 := hts (.fieldLink RJ5 22 "java/lang/AbstractStringBuilder" "coder" "B") (by decide +kernel)
  unfold w_J5_init_d00df at hw
  refine lv_aload_n hx hb dJ5_init_d00df_0 rfl (lv_at hl 0 rfl) ?_
  refine W.objInit hx hb hown ol3 oiM oiC rfl (by rw [hml]; exact hl.1) rfl dJ5_init_d00df_1 (Nat.le_of_ble_eq_true rfl) (Nat.le_of_ble_eq_true rfl) ?_
  refine W.eq (g2 := F0 m 4 ls []) rfl ?_
  refine va_gets hx hb (v := .int 1) (hZ.2.2.2.2.2.1 _ (List.mem_of_getElem? (i := 0) rfl)) hS hown hf18 (fun _ h9 => h9) dJ5_init_d00df_4 ?_
  refine lv_if_eq (tgt := 25) hx hb dJ5_init_d00df_7 (by decide) (fun hc1 => ?_) (fun hc1 => ?_)
  · replace hw := hw.1 hc1
    exact hw.elim
  · replace hw := hw.2 hc1
    refine lv_aload_n hx hb dJ5_init_d00df_10 rfl (lv_at hl 0 rfl) ?_
    refine lv_iload_n hx hb dJ5_init_d00df_11 rfl (lv_at hl 1 rfl) ?_
    obtain ⟨N2, eN2, bN2, hw⟩ := hw
    refine g_newB hx hb acB hK 0 rfl hP hD hS hA eN2 bN2 (Nat.le_of_ble_eq_true rfl) (Nat.le_of_ble_eq_true rfl) (Nat.le_of_ble_eq_true rfl) dJ5_init_d00df_12 (fun q3 H hP hD hS => ?_)
    replace hw := hw q3
    refine W.widen (k := 1) (n := 40) (Nat.le_of_ble_eq_true rfl) (Nat.le_of_ble_eq_true rfl) ?_
    replace hP : va_P (dC, dI) vwCl [(h, .inr (1, [.null, .int 0, .int 0, .int 0])), (q3, .inl (cY, N2, .inl (fun _ => 0)))] H := hP
    replace hD : va_D A [(h, .inr (1, [.null, .int 0, .int 0, .int 0])), (q3, .inl (cY, N2, .inl (fun _ => 0)))] := hD
    refine va_put (D := (dC, dI)) (ci := 1) (v := .ref q3) (ty := (.array (.byte))) (C := RJ4) (T := TJ4) (N := 4) hx hb hts hiJ4 tyJ4 tyJ4_ok nmJ4 hown hK hP hD hS 0 rfl rfl 0 (by decide) hf15 (fun _ h9 => h9) rfl (by decide +kernel) rfl rfl (Nat.le_of_ble_eq_true rfl) dJ5_init_d00df_14 (fun H locs hP hD hS => ?_)
    replace hP : va_P (dC, dI) vwCl [(h, .inr (1, [.ref q3, .int 0, .int 0, .int 0])), (q3, .inl (cY, N2, .inl (fun _ => 0)))] H := hP
    replace hD : va_D A [(h, .inr (1, [.ref q3, .int 0, .int 0, .int 0])), (q3, .inl (cY, N2, .inl (fun _ => 0)))] := hD
    refine lv_aload_n hx hb dJ5_init_d00df_17 rfl (lv_at hl 0 rfl) ?_
    refine lv_iconst (v := 0) hx hb dJ5_init_d00df_18 (by decide) ?_
    refine va_put (D := (dC, dI)) (ci := 1) (v := .int (0 : Int32)) (ty := (.byte)) (C := RJ4) (T := TJ4) (N := 4) hx hb hts hiJ4 tyJ4 tyJ4_ok nmJ4 hown hK hP hD hS 0 rfl rfl 1 (by decide) hf22 (fun _ h9 => h9) rfl (by decide +kernel) rfl rfl (Nat.le_of_ble_eq_true rfl) dJ5_init_d00df_19 (fun H locs hP hD hS => ?_)
    replace hP : va_P (dC, dI) vwCl [(h, .inr (1, [.ref q3, .int (0 : Int32), .int 0, .int 0])), (q3, .inl (cY, N2, .inl (fun _ => 0)))] H := hP
    replace hD : va_D A [(h, .inr (1, [.ref q3, .int (0 : Int32), .int 0, .int 0])), (q3, .inl (cY, N2, .inl (fun _ => 0)))] := hD
    refine lv_goto (tgt := 38) hx hb dJ5_init_d00df_22 (by decide) ?_
    exact hret (u := (q3, N2)) dJ5_init_d00df_38 hK hP hD hS hw

def w_J4_init_da8c8     (Q : (Nat × Nat) → Prop) : Prop := w_J5_init_d00df   (16 : Int32) (fun (u1 : (Nat × Nat)) => Q (u1.1, u1.2))
abbrev rmJ4_init_da8c8 : Room := { frames := 2, cells := 1, slots := 40, locals := 33 }
set_option maxHeartbeats 4000000 in
set_option maxRecDepth 100000 in
theorem t_J4_init_da8c8 (l : Launch) (dC : Nat → ClassId) (dI : Nat → Nat → Nat) (adK : Nat → Nat) (adV : Nat → Nat) (cY : ClassId) (h : Nat) (sz : Nat)     (Q0 : (Nat × Nat) → Prop) (hw : w_J4_init_da8c8     Q0) : Met l yJ4_init_da8c8 wsJ4_init_da8c8 rmJ4_init_da8c8 (g_pre (cz adK adV) (dC, dI) vwCl [(cY, .byte)] [(h, .inr (1, [.null, .int 0, .int 0, .int 0]))] sz [.ref h]) (g_qv (dC, dI) vwCl [(cY, .byte)] (fun u : (Nat × Nat) => [(h, .inr (1, [.ref (u.1), .int (0 : Int32), .int 0, .int 0])), ((u.1), .inl (cY, ((u.2)), .inl (fun _ => 0)))]) Q0 (va_A [(h, .inr (1, [.null, .int 0, .int 0, .int 0]))] sz)) 1 40 (va_A [(h, .inr (1, [.null, .int 0, .int 0, .int 0]))] sz) := by
  refine g_startv (by decide) rfl (Nat.le_of_ble_eq_true rfl) ?_
  intro p e s m args below meth c A Q ls hx hb hml hown hts hin hK hP hD hA hS hZ hret hl
  obtain ⟨H, eH⟩ : ∃ H : Heap, H = s.heap := ⟨_, rfl⟩
  obtain ⟨locs, eL⟩ : ∃ L : List Loc, L = [] := ⟨_, rfl⟩
  have hS : va_S A s.heap H locs := by rw [eH, eL]; exact hS
  rw [← eH] at hP
  suffices hg : W p l e rmJ4_init_da8c8 s m args below meth c H locs 0 0 Q (F0 m 0 ls []) by rw [eH, eL] at hg; exact hg
  clear eH eL
  replace hl : lv_has ls 1 [(0, .ref h)] := hl
  have iniRJ5 := hts (.initialized RJ5) (by decide +kernel)
  have mk1 := hts (.methodLink RJ4 1 yJ5_init_d00df) (by decide +kernel)
  have imJ5_init_d00df := hts (.instanceMethod yJ5_init_d00df) (by decide +kernel)
  unfold w_J4_init_da8c8 at hw
  refine lv_aload_n hx hb dJ4_init_da8c8_0 rfl (lv_at hl 0 rfl) ?_
  refine lv_bipush (v := 16) hx hb dJ4_init_da8c8_1 (by decide) ?_
  refine g_cv (g_J.plain (W2 := fun u1 : (Nat × Nat) => [(h, .inr (1, [.ref (u1.1), .int (0 : Int32), .int 0, .int 0])), (u1.1, .inl (cY, (u1.2), .inl (fun _ => 0)))]) [] [0] [] [0, 1] rfl (by decide) rfl (by decide) (by decide) (fun _ => rfl) (by decide)) [0] hK hP hD hS hA rfl (fun hPc hDc hKc hFc => va_runI (As := [.int (16 : Int32)]) (rest := []) ⟨hx, hb, hml, hown, hts⟩ (t_J5_init_d00df l dC dI adK adV cY h H.size   (16 : Int32) _ hw) (cwI 1 hts gJ4_init_da8c8_J5_init_d00df rfl rfl rfl iniRJ5 mk1 imJ5_init_d00df rfl (by decide +kernel) ⟨Nat.le_of_ble_eq_true rfl, Nat.le_of_ble_eq_true rfl⟩) (g_pS czb (As := .ref h :: [.int (16 : Int32)]) hPc hDc hKc (czc hZ hS hFc)) rfl rfl hl.1 rfl (lv_room (Nat.le_of_ble_eq_true rfl)) dJ4_init_da8c8_3 ⟨Nat.le_of_ble_eq_true rfl, Nat.le_of_ble_eq_true rfl⟩) (fun u1 H locs hw hP hD hS => ?_)
  refine W.widen (k := 1) (n := 40) (Nat.le_of_ble_eq_true rfl) (Nat.le_of_ble_eq_true rfl) ?_
  replace hP : va_P (dC, dI) vwCl [(h, .inr (1, [.ref (u1.1), .int (0 : Int32), .int 0, .int 0])), (u1.1, .inl (cY, (u1.2), .inl (fun _ => 0)))] H := hP
  replace hD : va_D A [(h, .inr (1, [.ref (u1.1), .int (0 : Int32), .int 0, .int 0])), (u1.1, .inl (cY, (u1.2), .inl (fun _ => 0)))] := hD
  exact hret (u := (u1.1, u1.2)) dJ4_init_da8c8_6 hK hP hD hS hw

def w_X4_init     (Q : (Nat × Nat × Nat) → Prop) : Prop := ∀ q1 : Nat, w_J4_init_da8c8    (fun (u2 : (Nat × Nat)) => Q (q1, u2.1, u2.2))
abbrev rmX4_init : Room := { frames := 3, cells := 2, slots := 44, locals := 53 }
set_option maxHeartbeats 4000000 in
set_option maxRecDepth 100000 in
theorem t_X4_init (l : Launch) (dC : Nat → ClassId) (dI : Nat → Nat → Nat) (adK : Nat → Nat) (adV : Nat → Nat) (cY : ClassId) (h : Nat) (sz : Nat)     (Q0 : (Nat × Nat × Nat) → Prop) (hw : w_X4_init     Q0) : Met l yX4_init wsX4_init rmX4_init (g_pre (cz adK adV) (dC, dI) vwCl [(cY, .byte)] [(h, .inr (6, [.null]))] sz [.ref h]) (g_qv (dC, dI) vwCl [(cY, .byte)] (fun u : (Nat × Nat × Nat) => [(h, .inr (6, [.ref (u.1)])), ((u.1), .inr (1, [.ref (u.2.1), .int (0 : Int32), .int 0, .int 0])), ((u.2.1), .inl (cY, ((u.2.2)), .inl (fun _ => 0)))]) Q0 (va_A [(h, .inr (6, [.null]))] sz)) 2 44 (va_A [(h, .inr (6, [.null]))] sz) := by
  refine g_startv (by decide) rfl (Nat.le_of_ble_eq_true rfl) ?_
  intro p e s m args below meth c A Q ls hx hb hml hown hts hin hK hP hD hA hS hZ hret hl
  obtain ⟨H, eH⟩ : ∃ H : Heap, H = s.heap := ⟨_, rfl⟩
  obtain ⟨locs, eL⟩ : ∃ L : List Loc, L = [] := ⟨_, rfl⟩
  have hS : va_S A s.heap H locs := by rw [eH, eL]; exact hS
  rw [← eH] at hP
  suffices hg : W p l e rmX4_init s m args below meth c H locs 0 0 Q (F0 m 0 ls []) by rw [eH, eL] at hg; exact hg
  clear eH eL
  replace hl : lv_has ls 1 [(0, .ref h)] := hl
  have ol3 := hts (.methodLink RX4 3 objectInit) (by decide +kernel)
  have oiM := hts (.instanceMethod objectInit) (by decide +kernel)
  have oiC := hts (.code objectInit ⟨#[0xb1]⟩ 1 none) (by decide +kernel)
  have hiJ4 : ∀ w ∈ u_ws RJ4 TJ4 4, w ∈ wsX4_init := fun w h => List.mem_cons_of_mem _ (List.mem_append_left _ (List.mem_append_right _ h))
  have cl9 := hts (.classLink RX4 9 RJ4) (by decide +kernel)
  have inJ4 := hts (.instantiable RJ4 4) (by decide +kernel)
  have iniRJ4 := hts (.initialized RJ4) (by decide +kernel)
  have mk11 := hts (.methodLink RX4 11 yJ4_init_da8c8) (by decide +kernel)
  have imJ4_init_da8c8 := hts (.instanceMethod yJ4_init_da8c8) (by decide +kernel)
  have hf12 := hts (.fieldLink RX4 12 "NumberPile$Page" "letters" "Ljava/lang/StringBuilder;") (by decide +kernel)
  have hiX4 : ∀ w ∈ u_ws RX4 TX4 1, w ∈ wsX4_init := fun w h => List.mem_cons_of_mem _ (List.mem_append_right _ h)
  unfold w_X4_init at hw
  refine lv_aload_n hx hb dX4_init_0 rfl (lv_at hl 0 rfl) ?_
  refine W.objInit hx hb hown ol3 oiM oiC rfl (by rw [hml]; exact hl.1) rfl dX4_init_1 (Nat.le_of_ble_eq_true rfl) (Nat.le_of_ble_eq_true rfl) ?_
  refine W.eq (g2 := F0 m 4 ls []) rfl ?_
  refine lv_aload_n hx hb dX4_init_4 rfl (lv_at hl 0 rfl) ?_
  refine va_new (ci := 1) (fs := [.null, .int 0, .int 0, .int 0]) (C := RJ4) (T := TJ4) (N := 4) hx hb hts hiJ4 tyJ4 tyJ4_ok hown cl9 inJ4 iniRJ4 hK hP hD hS hA rfl (fun j hj => by rcases (show j = 0 ∨ j = 1 ∨ j = 2 ∨ j = 3 by omega) with rfl | rfl | rfl | rfl <;> rfl) (Nat.le_of_ble_eq_true rfl) (Nat.le_of_ble_eq_true rfl) dX4_init_5 (fun q1 H hP hD hS => ?_)
  replace hw := hw q1
  refine W.widen (k := 1) (n := 4) (Nat.le_of_ble_eq_true rfl) (Nat.le_of_ble_eq_true rfl) ?_
  replace hP : va_P (dC, dI) vwCl [(h, .inr (6, [.null])), (q1, .inr (1, [.null, .int 0, .int 0, .int 0]))] H := hP
  replace hD : va_D A [(h, .inr (6, [.null])), (q1, .inr (1, [.null, .int 0, .int 0, .int 0]))] := hD
  refine lv_dup hx hb dX4_init_8 rfl ?_
  refine g_cv (g_J.plain (W2 := fun u2 : (Nat × Nat) => [(h, .inr (6, [.null])), (q1, .inr (1, [.ref (u2.1), .int (0 : Int32), .int 0, .int 0])), (u2.1, .inl (cY, (u2.2), .inl (fun _ => 0)))]) [(h, .inr (6, [.null]))] [1] [0] [0, 1, 2] rfl (by decide) rfl (by decide) (by decide) (fun _ => rfl) (by decide)) [0] hK hP hD hS hA rfl (fun hPc hDc hKc hFc => va_runI (As := []) (rest := [.ref q1, .ref h]) ⟨hx, hb, hml, hown, hts⟩ (t_J4_init_da8c8 l dC dI adK adV cY q1 H.size    _ hw) (cwI 0 hts gX4_init_J4_init_da8c8 rfl rfl rfl iniRJ4 mk11 imJ4_init_da8c8 rfl (by decide +kernel) ⟨Nat.le_of_ble_eq_true rfl, Nat.le_of_ble_eq_true rfl⟩) (g_pS czb (As := .ref q1 :: []) hPc hDc hKc (czc hZ hS hFc)) rfl rfl hl.1 rfl (lv_room (Nat.le_of_ble_eq_true rfl)) dX4_init_9 ⟨Nat.le_of_ble_eq_true rfl, Nat.le_of_ble_eq_true rfl⟩) (fun u2 H locs hw hP hD hS => ?_)
  refine W.widen (k := 2) (n := 44) (Nat.le_of_ble_eq_true rfl) (Nat.le_of_ble_eq_true rfl) ?_
  replace hP : va_P (dC, dI) vwCl [(h, .inr (6, [.null])), (q1, .inr (1, [.ref (u2.1), .int (0 : Int32), .int 0, .int 0])), (u2.1, .inl (cY, (u2.2), .inl (fun _ => 0)))] H := hP
  replace hD : va_D A [(h, .inr (6, [.null])), (q1, .inr (1, [.ref (u2.1), .int (0 : Int32), .int 0, .int 0])), (u2.1, .inl (cY, (u2.2), .inl (fun _ => 0)))] := hD
  refine va_putF (D := (dC, dI)) (ci := 6) (v := .ref q1) (ty := (.object "java/lang/StringBuilder")) (C := RX4) (T := TX4) (N := 1) hx hb hts hiX4 tyX4 tyX4_ok nmX4 hown hK hP hD hS 0 rfl rfl 0 (by decide) hf12 (fun _ h9 => h9) rfl hin rfl (by decide +kernel) rfl rfl (Nat.le_of_ble_eq_true rfl) dX4_init_12 (fun H locs hP hD hS => ?_)
  replace hP : va_P (dC, dI) vwCl [(h, .inr (6, [.ref q1])), (q1, .inr (1, [.ref (u2.1), .int (0 : Int32), .int 0, .int 0])), (u2.1, .inl (cY, (u2.2), .inl (fun _ => 0)))] H := hP
  replace hD : va_D A [(h, .inr (6, [.ref q1])), (q1, .inr (1, [.ref (u2.1), .int (0 : Int32), .int 0, .int 0])), (u2.1, .inl (cY, (u2.2), .inl (fun _ => 0)))] := hD
  exact hret (u := (q1, u2.1, u2.2)) dX4_init_15 hK hP hD hS hw

def w_X7_init    (p0 : Int32) (p1 : Int32) (p2 : Int32) (p3 : Int32) (Q : Unit → Prop) : Prop := Q ()
abbrev rmX7_init : Room := { frames := 1, cells := 0, slots := 0, locals := 12 }
set_option maxHeartbeats 4000000 in
set_option maxRecDepth 100000 in
theorem t_X7_init (l : Launch) (dC : Nat → ClassId) (dI : Nat → Nat → Nat) (adK : Nat → Nat) (adV : Nat → Nat) (h : Nat) (sz : Nat)    (p0 : Int32) (p1 : Int32) (p2 : Int32) (p3 : Int32) (Q0 : Unit → Prop) (hw : w_X7_init    p0 p1 p2 p3 Q0) : Met l yX7_init wsX7_init rmX7_init (g_pre (cz adK adV) (dC, dI) vwCl [] [(h, .inr (9, [.int 0, .int 0, .int 0, .int 0]))] sz [.ref h, .int p0, .int p1, .int p2, .int p3]) (g_qv (dC, dI) vwCl [] (fun u : Unit => [(h, .inr (9, [.int p0, .int p1, .int p2, .int p3]))]) Q0 (va_A [(h, .inr (9, [.int 0, .int 0, .int 0, .int 0]))] sz)) 0 0 (va_A [(h, .inr (9, [.int 0, .int 0, .int 0, .int 0]))] sz) := by
  refine g_startv (by decide) rfl (Nat.le_of_ble_eq_true rfl) ?_
  intro p e s m args below meth c A Q ls hx hb hml hown hts hin hK hP hD hA hS hZ hret hl
  obtain ⟨H, eH⟩ : ∃ H : Heap, H = s.heap := ⟨_, rfl⟩
  obtain ⟨locs, eL⟩ : ∃ L : List Loc, L = [] := ⟨_, rfl⟩
  have hS : va_S A s.heap H locs := by rw [eH, eL]; exact hS
  rw [← eH] at hP
  suffices hg : W p l e rmX7_init s m args below meth c H locs 0 0 Q (F0 m 0 ls []) by rw [eH, eL] at hg; exact hg
  clear eH eL
  replace hl : lv_has ls 5 [(0, .ref h), (1, .int p0), (2, .int p1), (3, .int p2), (4, .int p3)] := hl
  have ol1 := hts (.methodLink RX7 1 objectInit) (by decide +kernel)
  have oiM := hts (.instanceMethod objectInit) (by decide +kernel)
  have oiC := hts (.code objectInit ⟨#[0xb1]⟩ 1 none) (by decide +kernel)
  have hf7 := hts (.fieldLink RX7 7 "NumberPile$Sight" "brick" "I") (by decide +kernel)
  have hiX7 : ∀ w ∈ u_ws RX7 TX7 4, w ∈ wsX7_init := fun w h => List.mem_cons_of_mem _ (List.mem_append_right _ h)
  have hf13 := hts (.fieldLink RX7 13 "NumberPile$Sight" "left" "I") (by decide +kernel)
  have hf16 := hts (.fieldLink RX7 16 "NumberPile$Sight" "right" "I") (by decide +kernel)
  have hf19 := hts (.fieldLink RX7 19 "NumberPile$Sight" "number" "I") (by decide +kernel)
  unfold w_X7_init at hw
  refine lv_aload_n hx hb dX7_init_0 rfl (lv_at hl 0 rfl) ?_
  refine W.objInit hx hb hown ol1 oiM oiC rfl (by rw [hml]; exact hl.1) rfl dX7_init_1 (Nat.le_of_ble_eq_true rfl) (Nat.le_of_ble_eq_true rfl) ?_
  refine W.eq (g2 := F0 m 4 ls []) rfl ?_
  refine lv_aload_n hx hb dX7_init_4 rfl (lv_at hl 0 rfl) ?_
  refine lv_iload_n hx hb dX7_init_5 rfl (lv_at hl 1 rfl) ?_
  refine va_putF (D := (dC, dI)) (ci := 9) (v := .int p0) (ty := (.int)) (C := RX7) (T := TX7) (N := 4) hx hb hts hiX7 tyX7 tyX7_ok nmX7 hown hK hP hD hS 0 rfl rfl 0 (by decide) hf7 (fun _ h9 => h9) rfl hin rfl (by decide +kernel) rfl rfl (Nat.le_of_ble_eq_true rfl) dX7_init_6 (fun H locs hP hD hS => ?_)
  replace hP : va_P (dC, dI) vwCl [(h, .inr (9, [.int p0, .int 0, .int 0, .int 0]))] H := hP
  replace hD : va_D A [(h, .inr (9, [.int p0, .int 0, .int 0, .int 0]))] := hD
  refine lv_aload_n hx hb dX7_init_9 rfl (lv_at hl 0 rfl) ?_
  refine lv_iload_n hx hb dX7_init_10 rfl (lv_at hl 2 rfl) ?_
  refine va_putF (D := (dC, dI)) (ci := 9) (v := .int p1) (ty := (.int)) (C := RX7) (T := TX7) (N := 4) hx hb hts hiX7 tyX7 tyX7_ok nmX7 hown hK hP hD hS 0 rfl rfl 1 (by decide) hf13 (fun _ h9 => h9) rfl hin rfl (by decide +kernel) rfl rfl (Nat.le_of_ble_eq_true rfl) dX7_init_11 (fun H locs hP hD hS => ?_)
  replace hP : va_P (dC, dI) vwCl [(h, .inr (9, [.int p0, .int p1, .int 0, .int 0]))] H := hP
  replace hD : va_D A [(h, .inr (9, [.int p0, .int p1, .int 0, .int 0]))] := hD
  refine lv_aload_n hx hb dX7_init_14 rfl (lv_at hl 0 rfl) ?_
  refine lv_iload_n hx hb dX7_init_15 rfl (lv_at hl 3 rfl) ?_
  refine va_putF (D := (dC, dI)) (ci := 9) (v := .int p2) (ty := (.int)) (C := RX7) (T := TX7) (N := 4) hx hb hts hiX7 tyX7 tyX7_ok nmX7 hown hK hP hD hS 0 rfl rfl 2 (by decide) hf16 (fun _ h9 => h9) rfl hin rfl (by decide +kernel) rfl rfl (Nat.le_of_ble_eq_true rfl) dX7_init_16 (fun H locs hP hD hS => ?_)
  replace hP : va_P (dC, dI) vwCl [(h, .inr (9, [.int p0, .int p1, .int p2, .int 0]))] H := hP
  replace hD : va_D A [(h, .inr (9, [.int p0, .int p1, .int p2, .int 0]))] := hD
  refine lv_aload_n hx hb dX7_init_19 rfl (lv_at hl 0 rfl) ?_
  refine lv_iload hx hb dX7_init_20 (lv_at hl 4 rfl) ?_
  refine va_putF (D := (dC, dI)) (ci := 9) (v := .int p3) (ty := (.int)) (C := RX7) (T := TX7) (N := 4) hx hb hts hiX7 tyX7 tyX7_ok nmX7 hown hK hP hD hS 0 rfl rfl 3 (by decide) hf19 (fun _ h9 => h9) rfl hin rfl (by decide +kernel) rfl rfl (Nat.le_of_ble_eq_true rfl) dX7_init_22 (fun H locs hP hD hS => ?_)
  replace hP : va_P (dC, dI) vwCl [(h, .inr (9, [.int p0, .int p1, .int p2, .int p3]))] H := hP
  replace hD : va_D A [(h, .inr (9, [.int p0, .int p1, .int p2, .int p3]))] := hD
  exact hret (u := ()) dX7_init_25 hK hP hD hS hw

def w_X8_init    (p0 : Int32) (p1 : Int32) (Q : (Nat × Nat × Nat × Nat × Nat × Nat × (Nat → Int32) × Nat × Nat) → Prop) : Prop := ∃ N1 : Nat, ((p1 - p0) = nI N1) ∧ (N1 ≤ 10) ∧ ∀ q2 : Nat, ∃ N3 : Nat, (p0 = nI N3) ∧ (N3 ≤ 10) ∧ ∀ q4 : Nat, ∃ N5 : Nat, (p1 = nI N5) ∧ (N5 ≤ 10) ∧ ∀ q6 : Nat, w_J7_fill_53178 N5 (fun _ => 0)  (-1 : Int32) (fun (u7 : ((Nat → Int32))) => ∃ N8 : Nat, ((6 : Int32) = nI N8) ∧ (N8 ≤ 6) ∧ ∀ q9 : Nat, Q (q2, N1, q4, N3, q6, N5, u7, q9, N8))
abbrev rmX8_init : Room := { frames := 1, cells := 4, slots := 36, locals := 23 }
set_option maxHeartbeats 4000000 in
set_option maxRecDepth 100000 in
theorem t_X8_init (l : Launch) (dC : Nat → ClassId) (dI : Nat → Nat → Nat) (adK : Nat → Nat) (adV : Nat → Nat) (cI : ClassId) (cB : ClassId) (cS : ClassId) (h : Nat) (qb : Nat → Nat) (sz : Nat)    (p0 : Int32) (p1 : Int32) (Q0 : (Nat × Nat × Nat × Nat × Nat × Nat × (Nat → Int32) × Nat × Nat) → Prop) (hw : w_X8_init    p0 p1 Q0) : Met l yX8_init wsX8_init rmX8_init (g_pre (cz adK adV) (dC, dI) vwCl [(cI, .int), (cB, .object RX0), (cS, .object RX7)] [(h, .inr (10, [.null, .null, .null, .null, .int 0, .int 0]))] sz [.ref h, .int p0, .int p1]) (g_qv (dC, dI) vwCl [(cI, .int), (cB, .object RX0), (cS, .object RX7)] (fun u : (Nat × Nat × Nat × Nat × Nat × Nat × (Nat → Int32) × Nat × Nat) => [(h, .inr (10, [.ref (u.1), .ref (u.2.2.1), .ref (u.2.2.2.2.1), .ref (u.2.2.2.2.2.2.2.1), .int 0, .int 0])), ((u.1), .inl (cI, ((u.2.1)), .inl (fun _ => 0))), ((u.2.2.1), .inl (cI, ((u.2.2.2.1)), .inl (fun _ => 0))), ((u.2.2.2.2.1), .inl (cI, ((u.2.2.2.2.2.1)), .inl ((u.2.2.2.2.2.2.1)))), ((u.2.2.2.2.2.2.2.1), .inl (cS, ((u.2.2.2.2.2.2.2.2)), .inr (.inr (.inr (.inr (fun _ => none))))))]) Q0 (va_A [(h, .inr (10, [.null, .null, .null, .null, .int 0, .int 0]))] sz)) 4 36 (va_A [(h, .inr (10, [.null, .null, .null, .null, .int 0, .int 0]))] sz) := by
  refine g_startv (by decide) rfl (Nat.le_of_ble_eq_true rfl) ?_
  intro p e s m args below meth c A Q ls hx hb hml hown hts hin hK hP hD hA hS hZ hret hl
  obtain ⟨H, eH⟩ : ∃ H : Heap, H = s.heap := ⟨_, rfl⟩
  obtain ⟨locs, eL⟩ : ∃ L : List Loc, L = [] := ⟨_, rfl⟩
  have hS : va_S A s.heap H locs := by rw [eH, eL]; exact hS
  rw [← eH] at hP
  suffices hg : W p l e rmX8_init s m args below meth c H locs 0 0 Q (F0 m 0 ls []) by rw [eH, eL] at hg; exact hg
  clear eH eL
  replace hl : lv_has ls 3 [(0, .ref h), (1, .int p0), (2, .int p1)] := hl
  have ol3 := hts (.methodLink RX8 3 objectInit) (by decide +kernel)
  have oiM := hts (.instanceMethod objectInit) (by decide +kernel)
  have oiC := hts (.code objectInit ⟨#[0xb1]⟩ 1 none) (by decide +kernel)
  have acI := hts (.arrayClass .int) (by decide +kernel)
  have hf9 := hts (.fieldLink RX8 9 "NumberPile$State" "above" "[I") (by decide +kernel)
  have hiX8 : ∀ w ∈ u_ws RX8 TX8 6, w ∈ wsX8_init := fun w h => List.mem_cons_of_mem _ (List.mem_append_right _ h)
  have hf15 := hts (.fieldLink RX8 15 "NumberPile$State" "figures" "[I") (by decide +kernel)
  have hf18 := hts (.fieldLink RX8 18 "NumberPile$State" "told" "[I") (by decide +kernel)
  have cl27 := hts (.classLink RX8 27 RX7) (by decide +kernel)
  have hf29 := hts (.fieldLink RX8 29 "NumberPile$State" "seen" "[LNumberPile$Sight;") (by decide +kernel)
  unfold w_X8_init at hw
  refine lv_aload_n hx hb dX8_init_0 rfl (lv_at hl 0 rfl) ?_
  refine W.objInit hx hb hown ol3 oiM oiC rfl (by rw [hml]; exact hl.1) rfl dX8_init_1 (Nat.le_of_ble_eq_true rfl) (Nat.le_of_ble_eq_true rfl) ?_
  refine W.eq (g2 := F0 m 4 ls []) rfl ?_
  refine lv_aload_n hx hb dX8_init_4 rfl (lv_at hl 0 rfl) ?_
  refine lv_iload_n hx hb dX8_init_5 rfl (lv_at hl 2 rfl) ?_
  refine lv_iload_n hx hb dX8_init_6 rfl (lv_at hl 1 rfl) ?_
  refine lv_isub hx hb dX8_init_7 ?_
  obtain ⟨N1, eN1, bN1, hw⟩ := hw
  refine g_newI hx hb acI hK 0 rfl hP hD hS hA eN1 bN1 (Nat.le_of_ble_eq_true rfl) (Nat.le_of_ble_eq_true rfl) (Nat.le_of_ble_eq_true rfl) dX8_init_8 (fun q2 H hP hD hS => ?_)
  replace hw := hw q2
  refine W.widen (k := 1) (n := 10) (Nat.le_of_ble_eq_true rfl) (Nat.le_of_ble_eq_true rfl) ?_
  replace hP : va_P (dC, dI) vwCl [(h, .inr (10, [.null, .null, .null, .null, .int 0, .int 0])), (q2, .inl (cI, N1, .inl (fun _ => 0)))] H := hP
  replace hD : va_D A [(h, .inr (10, [.null, .null, .null, .null, .int 0, .int 0])), (q2, .inl (cI, N1, .inl (fun _ => 0)))] := hD
  refine va_putF (D := (dC, dI)) (ci := 10) (v := .ref q2) (ty := (.array (.int))) (C := RX8) (T := TX8) (N := 6) hx hb hts hiX8 tyX8 tyX8_ok nmX8 hown hK hP hD hS 0 rfl rfl 0 (by decide) hf9 (fun _ h9 => h9) rfl hin rfl (by decide +kernel) rfl rfl (Nat.le_of_ble_eq_true rfl) dX8_init_10 (fun H locs hP hD hS => ?_)
  replace hP : va_P (dC, dI) vwCl [(h, .inr (10, [.ref q2, .null, .null, .null, .int 0, .int 0])), (q2, .inl (cI, N1, .inl (fun _ => 0)))] H := hP
  replace hD : va_D A [(h, .inr (10, [.ref q2, .null, .null, .null, .int 0, .int 0])), (q2, .inl (cI, N1, .inl (fun _ => 0)))] := hD
  refine lv_aload_n hx hb dX8_init_13 rfl (lv_at hl 0 rfl) ?_
  refine lv_iload_n hx hb dX8_init_14 rfl (lv_at hl 1 rfl) ?_
  obtain ⟨N3, eN3, bN3, hw⟩ := hw
  refine g_newI hx hb acI hK 0 rfl hP hD hS hA eN3 bN3 (Nat.le_of_ble_eq_true rfl) (Nat.le_of_ble_eq_true rfl) (Nat.le_of_ble_eq_true rfl) dX8_init_15 (fun q4 H hP hD hS => ?_)
  replace hw := hw q4
  refine W.widen (k := 2) (n := 20) (Nat.le_of_ble_eq_true rfl) (Nat.le_of_ble_eq_true rfl) ?_
  replace hP : va_P (dC, dI) vwCl [(h, .inr (10, [.ref q2, .null, .null, .null, .int 0, .int 0])), (q2, .inl (cI, N1, .inl (fun _ => 0))), (q4, .inl (cI, N3, .inl (fun _ => 0)))] H := hP
  replace hD : va_D A [(h, .inr (10, [.ref q2, .null, .null, .null, .int 0, .int 0])), (q2, .inl (cI, N1, .inl (fun _ => 0))), (q4, .inl (cI, N3, .inl (fun _ => 0)))] := hD
  refine va_putF (D := (dC, dI)) (ci := 10) (v := .ref q4) (ty := (.array (.int))) (C := RX8) (T := TX8) (N := 6) hx hb hts hiX8 tyX8 tyX8_ok nmX8 hown hK hP hD hS 0 rfl rfl 1 (by decide) hf15 (fun _ h9 => h9) rfl hin rfl (by decide +kernel) rfl rfl (Nat.le_of_ble_eq_true rfl) dX8_init_17 (fun H locs hP hD hS => ?_)
  replace hP : va_P (dC, dI) vwCl [(h, .inr (10, [.ref q2, .ref q4, .null, .null, .int 0, .int 0])), (q2, .inl (cI, N1, .inl (fun _ => 0))), (q4, .inl (cI, N3, .inl (fun _ => 0)))] H := hP
  replace hD : va_D A [(h, .inr (10, [.ref q2, .ref q4, .null, .null, .int 0, .int 0])), (q2, .inl (cI, N1, .inl (fun _ => 0))), (q4, .inl (cI, N3, .inl (fun _ => 0)))] := hD
  refine lv_aload_n hx hb dX8_init_20 rfl (lv_at hl 0 rfl) ?_
  refine lv_iload_n hx hb dX8_init_21 rfl (lv_at hl 2 rfl) ?_
  obtain ⟨N5, eN5, bN5, hw⟩ := hw
  refine g_newI hx hb acI hK 0 rfl hP hD hS hA eN5 bN5 (Nat.le_of_ble_eq_true rfl) (Nat.le_of_ble_eq_true rfl) (Nat.le_of_ble_eq_true rfl) dX8_init_22 (fun q6 H hP hD hS => ?_)
  replace hw := hw q6
  refine W.widen (k := 3) (n := 30) (Nat.le_of_ble_eq_true rfl) (Nat.le_of_ble_eq_true rfl) ?_
  replace hP : va_P (dC, dI) vwCl [(h, .inr (10, [.ref q2, .ref q4, .null, .null, .int 0, .int 0])), (q2, .inl (cI, N1, .inl (fun _ => 0))), (q4, .inl (cI, N3, .inl (fun _ => 0))), (q6, .inl (cI, N5, .inl (fun _ => 0)))] H := hP
  replace hD : va_D A [(h, .inr (10, [.ref q2, .ref q4, .null, .null, .int 0, .int 0])), (q2, .inl (cI, N1, .inl (fun _ => 0))), (q4, .inl (cI, N3, .inl (fun _ => 0))), (q6, .inl (cI, N5, .inl (fun _ => 0)))] := hD
  refine va_putF (D := (dC, dI)) (ci := 10) (v := .ref q6) (ty := (.array (.int))) (C := RX8) (T := TX8) (N := 6) hx hb hts hiX8 tyX8 tyX8_ok nmX8 hown hK hP hD hS 0 rfl rfl 2 (by decide) hf18 (fun _ h9 => h9) rfl hin rfl (by decide +kernel) rfl rfl (Nat.le_of_ble_eq_true rfl) dX8_init_24 (fun H locs hP hD hS => ?_)
  replace hP : va_P (dC, dI) vwCl [(h, .inr (10, [.ref q2, .ref q4, .ref q6, .null, .int 0, .int 0])), (q2, .inl (cI, N1, .inl (fun _ => 0))), (q4, .inl (cI, N3, .inl (fun _ => 0))), (q6, .inl (cI, N5, .inl (fun _ => 0)))] H := hP
  replace hD : va_D A [(h, .inr (10, [.ref q2, .ref q4, .ref q6, .null, .int 0, .int 0])), (q2, .inl (cI, N1, .inl (fun _ => 0))), (q4, .inl (cI, N3, .inl (fun _ => 0))), (q6, .inl (cI, N5, .inl (fun _ => 0)))] := hD
  refine lv_aload_n hx hb dX8_init_27 rfl (lv_at hl 0 rfl) ?_
  refine va_get (D := (dC, dI)) (ci := 10) (v := .ref q6) (C := RX8) (T := TX8) (N := 6) hx hb hts hiX8 hown hK hP 0 rfl rfl 2 (by decide) hf18 (fun _ h9 => h9) rfl dX8_init_28 ?_
  refine lv_iconst (v := -1) hx hb dX8_init_31 (by decide) ?_
  refine g_cv (g_J.plain (W2 := fun u7 : ((Nat → Int32)) => [(h, .inr (10, [.ref q2, .ref q4, .ref q6, .null, .int 0, .int 0])), (q2, .inl (cI, N1, .inl (fun _ => 0))), (q4, .inl (cI, N3, .inl (fun _ => 0))), (q6, .inl (cI, N5, .inl u7))]) [(h, .inr (10, [.ref q2, .ref q4, .ref q6, .null, .int 0, .int 0])), (q2, .inl (cI, N1, .inl (fun _ => 0))), (q4, .inl (cI, N3, .inl (fun _ => 0)))] [3] [0, 1, 2] [0, 1, 2, 3] rfl (by decide) rfl (by decide) (by decide) (fun _ => rfl) (by decide)) [0] hK hP hD hS hA rfl (fun hPc hDc hKc hFc => va_runS (As := [.ref q6, .int (-1 : Int32)]) (rest := []) ⟨hx, hb, hml, hown, hts⟩ (t_J7_fill_53178 l dC dI cI q6 N5 H.size (fun _ => 0)  (-1 : Int32) _ hw) (va_cwS 2 hts gX8_init_J7_fill_53178 rfl rfl rfl (by decide +kernel) ⟨Nat.le_of_ble_eq_true rfl, Nat.le_of_ble_eq_true rfl⟩) (g_pS g_Tb hPc hDc hKc (fun _ _ _ => trivial)) rfl rfl hl.1 rfl (lv_room (Nat.le_of_ble_eq_true rfl)) dX8_init_32 ⟨Nat.le_of_ble_eq_true rfl, Nat.le_of_ble_eq_true rfl⟩) (fun u7 H locs hw hP hD hS => ?_)
  replace hP : va_P (dC, dI) vwCl [(h, .inr (10, [.ref q2, .ref q4, .ref q6, .null, .int 0, .int 0])), (q2, .inl (cI, N1, .inl (fun _ => 0))), (q4, .inl (cI, N3, .inl (fun _ => 0))), (q6, .inl (cI, N5, .inl u7))] H := hP
  replace hD : va_D A [(h, .inr (10, [.ref q2, .ref q4, .ref q6, .null, .int 0, .int 0])), (q2, .inl (cI, N1, .inl (fun _ => 0))), (q4, .inl (cI, N3, .inl (fun _ => 0))), (q6, .inl (cI, N5, .inl u7))] := hD
  refine lv_aload_n hx hb dX8_init_35 rfl (lv_at hl 0 rfl) ?_
  refine lv_bipush (v := 6) hx hb dX8_init_36 (by decide) ?_
  obtain ⟨N8, eN8, bN8, hw⟩ := hw
  refine g_newQ hx hb hown cl27 hZ.2.2.2.1.2 hK 2 rfl hP hD hS hA eN8 bN8 (Nat.le_of_ble_eq_true rfl) (Nat.le_of_ble_eq_true rfl) (Nat.le_of_ble_eq_true rfl) dX8_init_38 (fun q9 H hP hD hS => ?_)
  replace hw := hw q9
  refine W.widen (k := 4) (n := 36) (Nat.le_of_ble_eq_true rfl) (Nat.le_of_ble_eq_true rfl) ?_
  replace hP : va_P (dC, dI) vwCl [(h, .inr (10, [.ref q2, .ref q4, .ref q6, .null, .int 0, .int 0])), (q2, .inl (cI, N1, .inl (fun _ => 0))), (q4, .inl (cI, N3, .inl (fun _ => 0))), (q6, .inl (cI, N5, .inl u7)), (q9, .inl (cS, N8, .inr (.inr (.inr (.inr (fun _ => none))))))] H := hP
  replace hD : va_D A [(h, .inr (10, [.ref q2, .ref q4, .ref q6, .null, .int 0, .int 0])), (q2, .inl (cI, N1, .inl (fun _ => 0))), (q4, .inl (cI, N3, .inl (fun _ => 0))), (q6, .inl (cI, N5, .inl u7)), (q9, .inl (cS, N8, .inr (.inr (.inr (.inr (fun _ => none))))))] := hD
  refine va_putF (D := (dC, dI)) (ci := 10) (v := .ref q9) (ty := (.array (.object "NumberPile$Sight"))) (C := RX8) (T := TX8) (N := 6) hx hb hts hiX8 tyX8 tyX8_ok nmX8 hown hK hP hD hS 0 rfl rfl 3 (by decide) hf29 (fun _ h9 => h9) rfl hin rfl (by decide +kernel) rfl rfl (Nat.le_of_ble_eq_true rfl) dX8_init_41 (fun H locs hP hD hS => ?_)
  replace hP : va_P (dC, dI) vwCl [(h, .inr (10, [.ref q2, .ref q4, .ref q6, .ref q9, .int 0, .int 0])), (q2, .inl (cI, N1, .inl (fun _ => 0))), (q4, .inl (cI, N3, .inl (fun _ => 0))), (q6, .inl (cI, N5, .inl u7)), (q9, .inl (cS, N8, .inr (.inr (.inr (.inr (fun _ => none))))))] H := hP
  replace hD : va_D A [(h, .inr (10, [.ref q2, .ref q4, .ref q6, .ref q9, .int 0, .int 0])), (q2, .inl (cI, N1, .inl (fun _ => 0))), (q4, .inl (cI, N3, .inl (fun _ => 0))), (q6, .inl (cI, N5, .inl u7)), (q9, .inl (cS, N8, .inr (.inr (.inr (.inr (fun _ => none))))))] := hD
  exact hret (u := (q2, N1, q4, N3, q6, N5, u7, q9, N8)) dX8_init_44 hK hP hD hS hw

def w_X6_init (ka : Nat)   (p0 : Int32) (Q : (Nat × Nat) → Prop) : Prop := ∃ N1 : Nat, ((p0 + (nI ka)) = nI N1) ∧ (N1 ≤ 20) ∧ ∀ q2 : Nat, Q (q2, N1)
abbrev rmX6_init : Room := { frames := 1, cells := 1, slots := 20, locals := 12 }
set_option maxHeartbeats 4000000 in
set_option maxRecDepth 100000 in
theorem t_X6_init (l : Launch) (dC : Nat → ClassId) (dI : Nat → Nat → Nat) (adK : Nat → Nat) (adV : Nat → Nat) (cI : ClassId) (cB : ClassId) (h : Nat) (qK : Nat) (qA : Nat) (qb : Nat → Nat) (ka : Nat) (kd : Nat → Int32) (sz : Nat)    (p0 : Int32) (Q0 : (Nat × Nat) → Prop) (hw : w_X6_init ka   p0 Q0) : Met l yX6_init wsX6_init rmX6_init (g_pre (cz adK adV) (dC, dI) vwCl [(cI, .int), (cB, .object RX0)] [(h, .inr (8, [.int 0, .null, .null, .null, .null, .int 0])), (qA, .inl (cI, ka, .inl kd))] sz [.ref h, .int p0, .ref qK, .ref qA]) (g_qv (dC, dI) vwCl [(cI, .int), (cB, .object RX0)] (fun u : (Nat × Nat) => [(h, .inr (8, [.int p0, .ref qK, .ref qA, .ref (u.1), .ref (u.1), .int (-1 : Int32)])), (qA, .inl (cI, ka, .inl kd)), ((u.1), .inl (cI, ((u.2)), .inl (fun _ => 0)))]) Q0 (va_A [(h, .inr (8, [.int 0, .null, .null, .null, .null, .int 0])), (qA, .inl (cI, ka, .inl kd))] sz)) 1 20 (va_A [(h, .inr (8, [.int 0, .null, .null, .null, .null, .int 0])), (qA, .inl (cI, ka, .inl kd))] sz) := by
  refine g_startv (by decide) rfl (Nat.le_of_ble_eq_true rfl) ?_
  intro p e s m args below meth c A Q ls hx hb hml hown hts hin hK hP hD hA hS hZ hret hl
  obtain ⟨H, eH⟩ : ∃ H : Heap, H = s.heap := ⟨_, rfl⟩
  obtain ⟨locs, eL⟩ : ∃ L : List Loc, L = [] := ⟨_, rfl⟩
  have hS : va_S A s.heap H locs := by rw [eH, eL]; exact hS
  rw [← eH] at hP
  suffices hg : W p l e rmX6_init s m args below meth c H locs 0 0 Q (F0 m 0 ls []) by rw [eH, eL] at hg; exact hg
  clear eH eL
  replace hl : lv_has ls 4 [(0, .ref h), (1, .int p0), (2, .ref qK), (3, .ref qA)] := hl
  have ol3 := hts (.methodLink RX6 3 objectInit) (by decide +kernel)
  have oiM := hts (.instanceMethod objectInit) (by decide +kernel)
  have oiC := hts (.code objectInit ⟨#[0xb1]⟩ 1 none) (by decide +kernel)
  have hf9 := hts (.fieldLink RX6 9 "NumberPile$Rows" "wide" "I") (by decide +kernel)
  have hiX6 : ∀ w ∈ u_ws RX6 TX6 6, w ∈ wsX6_init := fun w h => List.mem_cons_of_mem _ (List.mem_append_right _ h)
  have hf15 := hts (.fieldLink RX6 15 "NumberPile$Rows" "kinds" "[LNumberPile$Brick;") (by decide +kernel)
  have hf19 := hts (.fieldLink RX6 19 "NumberPile$Rows" "above" "[I") (by decide +kernel)
  have acI := hts (.arrayClass .int) (by decide +kernel)
  have hf23 := hts (.fieldLink RX6 23 "NumberPile$Rows" "values" "[I") (by decide +kernel)
  have hf26 := hts (.fieldLink RX6 26 "NumberPile$Rows" "told" "[I") (by decide +kernel)
  have hf29 := hts (.fieldLink RX6 29 "NumberPile$Rows" "at" "I") (by decide +kernel)
  unfold w_X6_init at hw
  refine lv_aload_n hx hb dX6_init_0 rfl (lv_at hl 0 rfl) ?_
  refine W.objInit hx hb hown ol3 oiM oiC rfl (by rw [hml]; exact hl.1) rfl dX6_init_1 (Nat.le_of_ble_eq_true rfl) (Nat.le_of_ble_eq_true rfl) ?_
  refine W.eq (g2 := F0 m 4 ls []) rfl ?_
  refine lv_aload_n hx hb dX6_init_4 rfl (lv_at hl 0 rfl) ?_
  refine lv_iload_n hx hb dX6_init_5 rfl (lv_at hl 1 rfl) ?_
  refine va_putF (D := (dC, dI)) (ci := 8) (v := .int p0) (ty := (.int)) (C := RX6) (T := TX6) (N := 6) hx hb hts hiX6 tyX6 tyX6_ok nmX6 hown hK hP hD hS 0 rfl rfl 0 (by decide) hf9 (fun _ h9 => h9) rfl hin rfl (by decide +kernel) rfl rfl (Nat.le_of_ble_eq_true rfl) dX6_init_6 (fun H locs hP hD hS => ?_)
  replace hP : va_P (dC, dI) vwCl [(h, .inr (8, [.int p0, .null, .null, .null, .null, .int 0])), (qA, .inl (cI, ka, .inl kd))] H := hP
  replace hD : va_D A [(h, .inr (8, [.int p0, .null, .null, .null, .null, .int 0])), (qA, .inl (cI, ka, .inl kd))] := hD
  refine lv_aload_n hx hb dX6_init_9 rfl (lv_at hl 0 rfl) ?_
  refine lv_aload_n hx hb dX6_init_10 rfl (lv_at hl 2 rfl) ?_
  refine va_putF (D := (dC, dI)) (ci := 8) (v := .ref qK) (ty := (.array (.object "NumberPile$Brick"))) (C := RX6) (T := TX6) (N := 6) hx hb hts hiX6 tyX6 tyX6_ok nmX6 hown hK hP hD hS 0 rfl rfl 1 (by decide) hf15 (fun _ h9 => h9) rfl hin rfl (by decide +kernel) rfl rfl (Nat.le_of_ble_eq_true rfl) dX6_init_11 (fun H locs hP hD hS => ?_)
  replace hP : va_P (dC, dI) vwCl [(h, .inr (8, [.int p0, .ref qK, .null, .null, .null, .int 0])), (qA, .inl (cI, ka, .inl kd))] H := hP
  replace hD : va_D A [(h, .inr (8, [.int p0, .ref qK, .null, .null, .null, .int 0])), (qA, .inl (cI, ka, .inl kd))] := hD
  refine lv_aload_n hx hb dX6_init_14 rfl (lv_at hl 0 rfl) ?_
  refine lv_aload_n hx hb dX6_init_15 rfl (lv_at hl 3 rfl) ?_
  refine va_putF (D := (dC, dI)) (ci := 8) (v := .ref qA) (ty := (.array (.int))) (C := RX6) (T := TX6) (N := 6) hx hb hts hiX6 tyX6 tyX6_ok nmX6 hown hK hP hD hS 0 rfl rfl 2 (by decide) hf19 (fun _ h9 => h9) rfl hin rfl (by decide +kernel) rfl rfl (Nat.le_of_ble_eq_true rfl) dX6_init_16 (fun H locs hP hD hS => ?_)
  replace hP : va_P (dC, dI) vwCl [(h, .inr (8, [.int p0, .ref qK, .ref qA, .null, .null, .int 0])), (qA, .inl (cI, ka, .inl kd))] H := hP
  replace hD : va_D A [(h, .inr (8, [.int p0, .ref qK, .ref qA, .null, .null, .int 0])), (qA, .inl (cI, ka, .inl kd))] := hD
  refine lv_aload_n hx hb dX6_init_19 rfl (lv_at hl 0 rfl) ?_
  refine lv_iload_n hx hb dX6_init_20 rfl (lv_at hl 1 rfl) ?_
  refine lv_aload_n hx hb dX6_init_21 rfl (lv_at hl 3 rfl) ?_
  refine va_alen hx hb hK hP 1 0 rfl rfl (v := (nI ka)) rfl dX6_init_22 ?_
  refine lv_iadd hx hb dX6_init_23 ?_
  obtain ⟨N1, eN1, bN1, hw⟩ := hw
  refine g_newI hx hb acI hK 0 rfl hP hD hS hA eN1 bN1 (Nat.le_of_ble_eq_true rfl) (Nat.le_of_ble_eq_true rfl) (Nat.le_of_ble_eq_true rfl) dX6_init_24 (fun q2 H hP hD hS => ?_)
  replace hw := hw q2
  refine W.widen (k := 1) (n := 20) (Nat.le_of_ble_eq_true rfl) (Nat.le_of_ble_eq_true rfl) ?_
  replace hP : va_P (dC, dI) vwCl [(h, .inr (8, [.int p0, .ref qK, .ref qA, .null, .null, .int 0])), (qA, .inl (cI, ka, .inl kd)), (q2, .inl (cI, N1, .inl (fun _ => 0)))] H := hP
  replace hD : va_D A [(h, .inr (8, [.int p0, .ref qK, .ref qA, .null, .null, .int 0])), (qA, .inl (cI, ka, .inl kd)), (q2, .inl (cI, N1, .inl (fun _ => 0)))] := hD
  refine va_putF (D := (dC, dI)) (ci := 8) (v := .ref q2) (ty := (.array (.int))) (C := RX6) (T := TX6) (N := 6) hx hb hts hiX6 tyX6 tyX6_ok nmX6 hown hK hP hD hS 0 rfl rfl 3 (by decide) hf23 (fun _ h9 => h9) rfl hin rfl (by decide +kernel) rfl rfl (Nat.le_of_ble_eq_true rfl) dX6_init_26 (fun H locs hP hD hS => ?_)
  replace hP : va_P (dC, dI) vwCl [(h, .inr (8, [.int p0, .ref qK, .ref qA, .ref q2, .null, .int 0])), (qA, .inl (cI, ka, .inl kd)), (q2, .inl (cI, N1, .inl (fun _ => 0)))] H := hP
  replace hD : va_D A [(h, .inr (8, [.int p0, .ref qK, .ref qA, .ref q2, .null, .int 0])), (qA, .inl (cI, ka, .inl kd)), (q2, .inl (cI, N1, .inl (fun _ => 0)))] := hD
  refine lv_aload_n hx hb dX6_init_29 rfl (lv_at hl 0 rfl) ?_
  refine lv_aload_n hx hb dX6_init_30 rfl (lv_at hl 0 rfl) ?_
  refine va_get (D := (dC, dI)) (ci := 8) (v := .ref q2) (C := RX6) (T := TX6) (N := 6) hx hb hts hiX6 hown hK hP 0 rfl rfl 3 (by decide) hf23 (fun _ h9 => h9) rfl dX6_init_31 ?_
  refine va_put (D := (dC, dI)) (ci := 8) (v := .ref q2) (ty := (.array (.int))) (C := RX6) (T := TX6) (N := 6) hx hb hts hiX6 tyX6 tyX6_ok nmX6 hown hK hP hD hS 0 rfl rfl 4 (by decide) hf26 (fun _ h9 => h9) rfl (by decide +kernel) rfl rfl (Nat.le_of_ble_eq_true rfl) dX6_init_34 (fun H locs hP hD hS => ?_)
  replace hP : va_P (dC, dI) vwCl [(h, .inr (8, [.int p0, .ref qK, .ref qA, .ref q2, .ref q2, .int 0])), (qA, .inl (cI, ka, .inl kd)), (q2, .inl (cI, N1, .inl (fun _ => 0)))] H := hP
  replace hD : va_D A [(h, .inr (8, [.int p0, .ref qK, .ref qA, .ref q2, .ref q2, .int 0])), (qA, .inl (cI, ka, .inl kd)), (q2, .inl (cI, N1, .inl (fun _ => 0)))] := hD
  refine lv_aload_n hx hb dX6_init_37 rfl (lv_at hl 0 rfl) ?_
  refine lv_iconst (v := -1) hx hb dX6_init_38 (by decide) ?_
  refine va_put (D := (dC, dI)) (ci := 8) (v := .int (-1 : Int32)) (ty := (.int)) (C := RX6) (T := TX6) (N := 6) hx hb hts hiX6 tyX6 tyX6_ok nmX6 hown hK hP hD hS 0 rfl rfl 5 (by decide) hf29 (fun _ h9 => h9) rfl (by decide +kernel) rfl rfl (Nat.le_of_ble_eq_true rfl) dX6_init_39 (fun H locs hP hD hS => ?_)
  replace hP : va_P (dC, dI) vwCl [(h, .inr (8, [.int p0, .ref qK, .ref qA, .ref q2, .ref q2, .int (-1 : Int32)])), (qA, .inl (cI, ka, .inl kd)), (q2, .inl (cI, N1, .inl (fun _ => 0)))] H := hP
  replace hD : va_D A [(h, .inr (8, [.int p0, .ref qK, .ref qA, .ref q2, .ref q2, .int (-1 : Int32)])), (qA, .inl (cI, ka, .inl kd)), (q2, .inl (cI, N1, .inl (fun _ => 0)))] := hD
  exact hret (u := (q2, N1)) dX6_init_42 hK hP hD hS hw

def w_X12_init    (p0 : Int32) (p1 : Int32) (Q : (Nat × Nat × (Nat → Int32) × Nat × Nat) → Prop) : Prop := ∃ N1 : Nat, ((p1 + (1 : Int32)) = nI N1) ∧ (N1 ≤ 11) ∧ ∀ q2 : Nat, (∀ X7 : Int32 → Int32 → Int32 → (Nat → Int32) → Prop, (∀ (x3 : Int32) (x4 : Int32) (x5 : Int32) (z6 : (Nat → Int32)), ((((x5 ≤ 0) → (vp_in p1 N1) ∧ ∃ N10 : Nat, ((z6 p1.toNatClampNeg) = nI N10) ∧ (N10 ≤ 532) ∧ ∀ q11 : Nat, Q (q2, N1, z6, q11, N10)) ∧ (¬ (x5 ≤ 0) → (∀ X15 : Int32 → Int32 → (Nat → Int32) → Prop, (∀ (x12 : Int32) (x13 : Int32) (z14 : (Nat → Int32)), (∀ J16 : Prop, ((∀ x17 : Int32, x17 = (x4 * (3 : Int32)) → ∀ x18 : Int32, x18 = x5 + (-1 : Int32) → X7 x12 x17 x18 z14) → J16) → (((x5 ≤ x13) → J16) ∧ (¬ (x5 ≤ x13) → (((p1 ≤ x12) → J16) ∧ (¬ (p1 ≤ x12) → (vp_in x12 N1) ∧ ∀ x23 : Int32, x23 = (((z14 x12.toNatClampNeg) + x4) + (1 : Int32)) → (vp_in (x12 + (1 : Int32)) N1) ∧ ∀ x24 : Int32, x24 = x12 + (1 : Int32) → ∀ x25 : Int32, x25 = x13 + (1 : Int32) → X15 x24 x25 (upd z14 (x12 + (1 : Int32)).toNatClampNeg x23)))))) → X15 x12 x13 z14) → X15 x3 (0 : Int32) z6)))) → X7 x3 x4 x5 z6) → X7 (0 : Int32) (9 : Int32) p0 (fun _ => 0))
abbrev rmX12_init : Room := { frames := 1, cells := 2, slots := 543, locals := 12 }
set_option maxHeartbeats 4000000 in
set_option maxRecDepth 100000 in
theorem t_X12_init (l : Launch) (dC : Nat → ClassId) (dI : Nat → Nat → Nat) (adK : Nat → Nat) (adV : Nat → Nat) (cI : ClassId) (h : Nat) (sz : Nat)    (p0 : Int32) (p1 : Int32) (Q0 : (Nat × Nat × (Nat → Int32) × Nat × Nat) → Prop) (hw : w_X12_init    p0 p1 Q0) : Met l yX12_init wsX12_init rmX12_init (g_pre (cz adK adV) (dC, dI) vwCl [(cI, .int)] [(h, .inr (14, [.null, .null]))] sz [.ref h, .int p0, .int p1]) (g_qv (dC, dI) vwCl [(cI, .int)] (fun u : (Nat × Nat × (Nat → Int32) × Nat × Nat) => [(h, .inr (14, [.ref (u.1), .ref (u.2.2.2.1)])), ((u.1), .inl (cI, ((u.2.1)), .inl ((u.2.2.1)))), ((u.2.2.2.1), .inl (cI, ((u.2.2.2.2)), .inl (fun _ => 0)))]) Q0 (va_A [(h, .inr (14, [.null, .null]))] sz)) 2 543 (va_A [(h, .inr (14, [.null, .null]))] sz) := by
  refine g_startv (by decide) rfl (Nat.le_of_ble_eq_true rfl) ?_
  intro p e s m args below meth c A Q ls hx hb hml hown hts hin hK hP hD hA hS hZ hret hl
  obtain ⟨H, eH⟩ : ∃ H : Heap, H = s.heap := ⟨_, rfl⟩
  obtain ⟨locs, eL⟩ : ∃ L : List Loc, L = [] := ⟨_, rfl⟩
  have hS : va_S A s.heap H locs := by rw [eH, eL]; exact hS
  rw [← eH] at hP
  suffices hg : W p l e rmX12_init s m args below meth c H locs 0 0 Q (F0 m 0 ls []) by rw [eH, eL] at hg; exact hg
  clear eH eL
  replace hl : lv_has ls 7 [(0, .ref h), (1, .int p0), (2, .int p1)] := hl
  have ol3 := hts (.methodLink RX12 3 objectInit) (by decide +kernel)
  have oiM := hts (.instanceMethod objectInit) (by decide +kernel)
  have oiC := hts (.code objectInit ⟨#[0xb1]⟩ 1 none) (by decide +kernel)
  have acI := hts (.arrayClass .int) (by decide +kernel)
  have hf9 := hts (.fieldLink RX12 9 "NumberPile$Tally" "begin" "[I") (by decide +kernel)
  have hiX12 : ∀ w ∈ u_ws RX12 TX12 2, w ∈ wsX12_init := fun w h => List.mem_cons_of_mem _ (List.mem_append_right _ h)
  have hf15 := hts (.fieldLink RX12 15 "NumberPile$Tally" "often" "[I") (by decide +kernel)
  unfold w_X12_init at hw
  refine lv_aload_n hx hb dX12_init_0 rfl (lv_at hl 0 rfl) ?_
  refine W.objInit hx hb hown ol3 oiM oiC rfl (by rw [hml]; exact hl.1) rfl dX12_init_1 (Nat.le_of_ble_eq_true rfl) (Nat.le_of_ble_eq_true rfl) ?_
  refine W.eq (g2 := F0 m 4 ls []) rfl ?_
  refine lv_aload_n hx hb dX12_init_4 rfl (lv_at hl 0 rfl) ?_
  refine lv_iload_n hx hb dX12_init_5 rfl (lv_at hl 2 rfl) ?_
  refine lv_iconst (v := 1) hx hb dX12_init_6 (by decide) ?_
  refine lv_iadd hx hb dX12_init_7 ?_
  obtain ⟨N1, eN1, bN1, hw⟩ := hw
  refine g_newI hx hb acI hK 0 rfl hP hD hS hA eN1 bN1 (Nat.le_of_ble_eq_true rfl) (Nat.le_of_ble_eq_true rfl) (Nat.le_of_ble_eq_true rfl) dX12_init_8 (fun q2 H hP hD hS => ?_)
  replace hw := hw q2
  refine W.widen (k := 1) (n := 11) (Nat.le_of_ble_eq_true rfl) (Nat.le_of_ble_eq_true rfl) ?_
  replace hP : va_P (dC, dI) vwCl [(h, .inr (14, [.null, .null])), (q2, .inl (cI, N1, .inl (fun _ => 0)))] H := hP
  replace hD : va_D A [(h, .inr (14, [.null, .null])), (q2, .inl (cI, N1, .inl (fun _ => 0)))] := hD
  refine va_putF (D := (dC, dI)) (ci := 14) (v := .ref q2) (ty := (.array (.int))) (C := RX12) (T := TX12) (N := 2) hx hb hts hiX12 tyX12 tyX12_ok nmX12 hown hK hP hD hS 0 rfl rfl 0 (by decide) hf9 (fun _ h9 => h9) rfl hin rfl (by decide +kernel) rfl rfl (Nat.le_of_ble_eq_true rfl) dX12_init_10 (fun H locs hP hD hS => ?_)
  replace hP : va_P (dC, dI) vwCl [(h, .inr (14, [.ref q2, .null])), (q2, .inl (cI, N1, .inl (fun _ => 0)))] H := hP
  replace hD : va_D A [(h, .inr (14, [.ref q2, .null])), (q2, .inl (cI, N1, .inl (fun _ => 0)))] := hD
  refine lv_iconst (v := 0) hx hb dX12_init_13 (by decide) ?_
  refine lv_istore_n (lv' := [(3, .int (0 : Int32)), (0, .ref h), (1, .int p0), (2, .int p1)]) hx hb dX12_init_14 rfl hl (by decide) rfl (fun ls hl => ?_)
  refine lv_bipush (v := 9) hx hb dX12_init_15 (by decide) ?_
  refine lv_istore (lv' := [(4, .int (9 : Int32)), (3, .int (0 : Int32)), (0, .ref h), (1, .int p0), (2, .int p1)]) hx hb dX12_init_17 hl (by decide) rfl (fun ls hl => ?_)
  refine lv_iload_n hx hb dX12_init_19 rfl (lv_at hl 3 rfl) ?_
  refine lv_istore (lv' := [(5, .int p0), (4, .int (9 : Int32)), (3, .int (0 : Int32)), (0, .ref h), (1, .int p0), (2, .int p1)]) hx hb dX12_init_20 hl (by decide) rfl (fun ls hl => ?_)
  refine hw (fun (x3 : Int32) (x4 : Int32) (x5 : Int32) (z6 : (Nat → Int32)) => ∀ (H : Heap) (locs : List Loc) (ls : Array Slot), va_P (dC, dI) vwCl [(h, .inr (14, [.ref q2, .null])), (q2, .inl (cI, N1, .inl z6))] H → va_D A [(h, .inr (14, [.ref q2, .null])), (q2, .inl (cI, N1, .inl z6))] → va_S A s.heap H locs → lv_has ls 7 [(0, .ref h), (2, .int p1), (3, .int x3), (4, .int x4), (5, .int x5)] → W p l e rmX12_init s m args below meth c H locs 1 11 Q (F0 m 22 ls [])) ?_ H locs ls hP hD hS (lv_sub hl [3, 5, 2, 1, 0] rfl)
  · intro x3 x4 x5 z6 hw H locs ls hP hD hS hl
    refine lv_iload hx hb dX12_init_22 (lv_at hl 4 rfl) ?_
    refine lv_if_le (tgt := 82) hx hb dX12_init_24 (by decide) (fun hc8 => ?_) (fun hc8 => ?_)
    · replace hw := hw.1 hc8
      refine lv_aload_n hx hb dX12_init_82 rfl (lv_at hl 0 rfl) ?_
      refine lv_aload_n hx hb dX12_init_83 rfl (lv_at hl 0 rfl) ?_
      refine va_get (D := (dC, dI)) (ci := 14) (v := .ref q2) (C := RX12) (T := TX12) (N := 2) hx hb hts hiX12 hown hK hP 0 rfl rfl 0 (by decide) hf9 (fun _ h9 => h9) rfl dX12_init_84 ?_
      refine lv_iload_n hx hb dX12_init_87 rfl (lv_at hl 1 rfl) ?_
      obtain ⟨hb9, hw⟩ := hw
      refine va_iald hx hb hK hP 1 0 rfl rfl hb9 dX12_init_88 ?_
      obtain ⟨N10, eN10, bN10, hw⟩ := hw
      refine g_newI hx hb acI hK 0 rfl hP hD hS hA eN10 bN10 (Nat.le_of_ble_eq_true rfl) (Nat.le_of_ble_eq_true rfl) (Nat.le_of_ble_eq_true rfl) dX12_init_89 (fun q11 H hP hD hS => ?_)
      replace hw := hw q11
      refine W.widen (k := 2) (n := 543) (Nat.le_of_ble_eq_true rfl) (Nat.le_of_ble_eq_true rfl) ?_
      replace hP : va_P (dC, dI) vwCl [(h, .inr (14, [.ref q2, .null])), (q2, .inl (cI, N1, .inl z6)), (q11, .inl (cI, N10, .inl (fun _ => 0)))] H := hP
      replace hD : va_D A [(h, .inr (14, [.ref q2, .null])), (q2, .inl (cI, N1, .inl z6)), (q11, .inl (cI, N10, .inl (fun _ => 0)))] := hD
      refine va_putF (D := (dC, dI)) (ci := 14) (v := .ref q11) (ty := (.array (.int))) (C := RX12) (T := TX12) (N := 2) hx hb hts hiX12 tyX12 tyX12_ok nmX12 hown hK hP hD hS 0 rfl rfl 1 (by decide) hf15 (fun _ h9 => h9) rfl hin rfl (by decide +kernel) rfl rfl (Nat.le_of_ble_eq_true rfl) dX12_init_91 (fun H locs hP hD hS => ?_)
      replace hP : va_P (dC, dI) vwCl [(h, .inr (14, [.ref q2, .ref q11])), (q2, .inl (cI, N1, .inl z6)), (q11, .inl (cI, N10, .inl (fun _ => 0)))] H := hP
      replace hD : va_D A [(h, .inr (14, [.ref q2, .ref q11])), (q2, .inl (cI, N1, .inl z6)), (q11, .inl (cI, N10, .inl (fun _ => 0)))] := hD
      exact hret (u := (q2, N1, z6, q11, N10)) dX12_init_94 hK hP hD hS hw
    · replace hw := hw.2 hc8
      refine lv_iconst (v := 0) hx hb dX12_init_27 (by decide) ?_
      refine lv_istore (lv' := [(6, .int (0 : Int32)), (0, .ref h), (2, .int p1), (3, .int x3), (4, .int x4), (5, .int x5)]) hx hb dX12_init_28 hl (by decide) rfl (fun ls hl => ?_)
      refine hw (fun (x12 : Int32) (x13 : Int32) (z14 : (Nat → Int32)) => ∀ (H : Heap) (locs : List Loc) (ls : Array Slot), va_P (dC, dI) vwCl [(h, .inr (14, [.ref q2, .null])), (q2, .inl (cI, N1, .inl z14))] H → va_D A [(h, .inr (14, [.ref q2, .null])), (q2, .inl (cI, N1, .inl z14))] → va_S A s.heap H locs → lv_has ls 7 [(0, .ref h), (2, .int p1), (3, .int x12), (4, .int x4), (5, .int x5), (6, .int x13)] → W p l e rmX12_init s m args below meth c H locs 1 11 Q (F0 m 30 ls [])) ?_ H locs ls hP hD hS (lv_sub hl [1, 2, 3, 4, 5, 0] rfl)
      · intro x12 x13 z14 hw H locs ls hP hD hS hl
        refine lv_iload hx hb dX12_init_30 (lv_at hl 5 rfl) ?_
        refine lv_iload hx hb dX12_init_32 (lv_at hl 4 rfl) ?_
        replace hw := hw (∀ (H : Heap) (locs : List Loc) (ls : Array Slot), va_P (dC, dI) vwCl [(h, .inr (14, [.ref q2, .null])), (q2, .inl (cI, N1, .inl z14))] H → va_D A [(h, .inr (14, [.ref q2, .null])), (q2, .inl (cI, N1, .inl z14))] → va_S A s.heap H locs → lv_has ls 7 [(0, .ref h), (2, .int p1), (3, .int x12), (4, .int x4), (5, .int x5)] → W p l e rmX12_init s m args below meth c H locs 1 11 Q (F0 m 70 ls [])) (by
          intro hw H locs ls hP hD hS hl
          refine lv_iload hx hb dX12_init_70 (lv_at hl 3 rfl) ?_
          refine lv_iconst (v := 3) hx hb dX12_init_72 (by decide) ?_
          refine lv_imul hx hb dX12_init_73 ?_
          refine lv_topi (fun x17 ex17 => ?_)
          replace hw := hw x17 ex17
          refine lv_istore (lv' := [(4, .int x17), (0, .ref h), (2, .int p1), (3, .int x12), (5, .int x5)]) hx hb dX12_init_74 hl (by decide) rfl (fun ls hl => ?_)
          obtain ⟨x18, ex18⟩ : ∃ y : Int32, y = x5 + (-1 : Int32) := ⟨_, rfl⟩
          replace hw := hw x18 ex18
          refine lv_iinc (v := x18) (lv' := [(5, .int x18), (4, .int x17), (0, .ref h), (2, .int p1), (3, .int x12)]) hx hb dX12_init_76 hl (k := 4) rfl (by rw [ex18]; rfl) (by decide) rfl (fun ls hl => ?_)
          refine lv_goto (tgt := 22) hx hb dX12_init_79 (by decide) ?_
          exact hw H locs ls hP hD hS (lv_sub hl [2, 3, 4, 1, 0] rfl))
        refine lv_icmp_ge (tgt := 70) hx hb dX12_init_34 (by decide) (fun hc19 => ?_) (fun hc19 => ?_)
        · replace hw := hw.1 hc19
          exact hw H locs ls hP hD hS (lv_sub hl [0, 1, 2, 3, 4] rfl)
        · replace hw := hw.2 hc19
          refine lv_iload_n hx hb dX12_init_37 rfl (lv_at hl 2 rfl) ?_
          refine lv_iload_n hx hb dX12_init_38 rfl (lv_at hl 1 rfl) ?_
          refine lv_icmp_ge (tgt := 70) hx hb dX12_init_39 (by decide) (fun hc20 => ?_) (fun hc20 => ?_)
          · replace hw := hw.1 hc20
            exact hw H locs ls hP hD hS (lv_sub hl [0, 1, 2, 3, 4] rfl)
          · replace hw := hw.2 hc20
            refine lv_aload_n hx hb dX12_init_42 rfl (lv_at hl 0 rfl) ?_
            refine va_get (D := (dC, dI)) (ci := 14) (v := .ref q2) (C := RX12) (T := TX12) (N := 2) hx hb hts hiX12 hown hK hP 0 rfl rfl 0 (by decide) hf9 (fun _ h9 => h9) rfl dX12_init_43 ?_
            refine lv_iload_n hx hb dX12_init_46 rfl (lv_at hl 2 rfl) ?_
            refine lv_iconst (v := 1) hx hb dX12_init_47 (by decide) ?_
            refine lv_iadd hx hb dX12_init_48 ?_
            refine lv_aload_n hx hb dX12_init_49 rfl (lv_at hl 0 rfl) ?_
            refine va_get (D := (dC, dI)) (ci := 14) (v := .ref q2) (C := RX12) (T := TX12) (N := 2) hx hb hts hiX12 hown hK hP 0 rfl rfl 0 (by decide) hf9 (fun _ h9 => h9) rfl dX12_init_50 ?_
            refine lv_iload_n hx hb dX12_init_53 rfl (lv_at hl 2 rfl) ?_
            obtain ⟨hb21, hw⟩ := hw
            refine va_iald hx hb hK hP 1 0 rfl rfl hb21 dX12_init_54 ?_
            refine lv_iload hx hb dX12_init_55 (lv_at hl 3 rfl) ?_
            refine lv_iadd hx hb dX12_init_57 ?_
            refine lv_iconst (v := 1) hx hb dX12_init_58 (by decide) ?_
            refine lv_iadd hx hb dX12_init_59 ?_
            refine lv_topi (fun x23 ex23 => ?_)
            replace hw := hw x23 ex23
            obtain ⟨hb22, hw⟩ := hw
            refine va_iast hx hb hK hP hD hS 1 0 rfl rfl hb22 dX12_init_60 (fun H locs hP hD hS => ?_)
            replace hP : va_P (dC, dI) vwCl [(h, .inr (14, [.ref q2, .null])), (q2, .inl (cI, N1, .inl (upd z14 (x12 + (1 : Int32)).toNatClampNeg x23)))] H := hP
            replace hD : va_D A [(h, .inr (14, [.ref q2, .null])), (q2, .inl (cI, N1, .inl (upd z14 (x12 + (1 : Int32)).toNatClampNeg x23)))] := hD
            obtain ⟨x24, ex24⟩ : ∃ y : Int32, y = x12 + (1 : Int32) := ⟨_, rfl⟩
            replace hw := hw x24 ex24
            refine lv_iinc (v := x24) (lv' := [(3, .int x24), (0, .ref h), (2, .int p1), (4, .int x4), (5, .int x5), (6, .int x13)]) hx hb dX12_init_61 hl (k := 2) rfl (by rw [ex24]; rfl) (by decide) rfl (fun ls hl => ?_)
            obtain ⟨x25, ex25⟩ : ∃ y : Int32, y = x13 + (1 : Int32) := ⟨_, rfl⟩
            replace hw := hw x25 ex25
            refine lv_iinc (v := x25) (lv' := [(6, .int x25), (3, .int x24), (0, .ref h), (2, .int p1), (4, .int x4), (5, .int x5)]) hx hb dX12_init_64 hl (k := 5) rfl (by rw [ex25]; rfl) (by decide) rfl (fun ls hl => ?_)
            refine lv_goto (tgt := 30) hx hb dX12_init_67 (by decide) ?_
            exact hw H locs ls hP hD hS (lv_sub hl [2, 3, 1, 4, 5, 0] rfl)

abbrev StP0 : Type := (Nat → Int32) × (Nat) × (Nat → Nat → Int32) × (Nat → Nat → Int32) × (Nat → Nat → Option Nat)
abbrev W_P0 (adK : Nat → Nat) (adV : Nat → Nat) (cI : ClassId) (cB : ClassId) (cS : ClassId) (q : Nat → Nat) (qb : Nat → Nat) (n : Nat) (k : Nat) (f : Nat → Int32) (t : Nat) (a : Nat → Nat → Int32) (b : Nat → Nat → Int32) (sg : Nat → Nat → Option Nat) : va_W := [((q 0), .inr (7, [.int (nI n), .int (nI k), .ref (q 1), .ref (q 2), .ref (q 3), .ref (q 8), .int (f 0), .ref (q 13), .ref (q 14), .ref (q 15), .ref (q 18), .ref (q 21), .int (f 1), .ref (q 17), .int (f 2)])), ((q 1), .inl (cB, (5), .inr (.inr (.inr (.inr (fun i => (kAll i).map qb)))))), ((q 2), .inl (cI, k, .inl (a 0))), ((q 3), .inr (10, [.ref (q 4), .ref (q 5), .ref (q 6), .ref (q 7), .int (f 3), .int (f 4)])), ((q 4), .inl (cI, (k - n), .inl (b 0))), ((q 5), .inl (cI, n, .inl (a 1))), ((q 6), .inl (cI, k, .inl (a 2))), ((q 7), .inl (cS, (6), .inr (.inr (.inr (.inr (sg 0)))))), ((q 8), .inr (10, [.ref (q 9), .ref (q 10), .ref (q 11), .ref (q 12), .int (f 5), .int (f 6)])), ((q 9), .inl (cI, (k - n), .inl (b 1))), ((q 10), .inl (cI, n, .inl (a 3))), ((q 11), .inl (cI, k, .inl (a 4))), ((q 12), .inl (cS, (6), .inr (.inr (.inr (.inr (sg 1)))))), ((q 13), .inl (cI, k, .inl (a 5))), ((q 14), .inl (cI, k, .inl (a 6))), ((q 15), .inr (8, [.int (nI n), .ref (q 1), .ref (q 4), .ref (q 16), .ref t, .int (f 7)])), ((q 16), .inl (cI, k, .inl (a 8))), ((q 17), .inl (cI, (10 * n), .inl (a 7))), ((q 18), .inr (14, [.ref (q 19), .ref (q 20)])), ((q 19), .inl (cI, (k + 1), .inl (b 2))), ((q 20), .inl (cI, (toL n), .inl (b 3))), ((q 21), .inl (cI, k, .inl (b 4))), ((qb 0), .inr (2, [])), ((qb 1), .inr (3, [])), ((qb 2), .inr (5, [])), ((qb 3), .inr (11, [])), ((qb 4), .inr (4, []))]
abbrev W_P0u (adK : Nat → Nat) (adV : Nat → Nat) (cI : ClassId) (cB : ClassId) (cS : ClassId) (q : Nat → Nat) (qb : Nat → Nat) (n : Nat) (k : Nat) (u : StP0) : va_W := W_P0 adK adV cI cB cS q qb n k u.1 u.2.1 u.2.2.1 u.2.2.2.1 u.2.2.2.2

abbrev StPT : Type := (Nat → Int32) × (Nat) × (Nat → Nat → Int32) × (Nat → Nat → Int32) × (Nat → Nat → Option Nat)
abbrev W_PT (adK : Nat → Nat) (adV : Nat → Nat) (cI : ClassId) (cB : ClassId) (cS : ClassId) (q : Nat → Nat) (qb : Nat → Nat) (n : Nat) (k : Nat) (sq : Nat) (sv : Nat) (sm : Nat) (sb : Nat → Int32) (f : Nat → Int32) (t : Nat) (a : Nat → Nat → Int32) (b : Nat → Nat → Int32) (sg : Nat → Nat → Option Nat) : va_W := [((q 0), .inr (7, [.int (nI n), .int (nI k), .ref (q 1), .ref (q 2), .ref (q 3), .ref (q 8), .int (f 0), .ref (q 13), .ref (q 14), .ref (q 15), .ref (q 18), .ref (q 21), .int (f 1), .ref (q 17), .int (f 2)])), ((q 1), .inl (cB, (5), .inr (.inr (.inr (.inr (fun i => (kAll i).map qb)))))), ((q 2), .inl (cI, k, .inl (a 0))), ((q 3), .inr (10, [.ref (q 4), .ref (q 5), .ref (q 6), .ref (q 7), .int (f 3), .int (f 4)])), ((q 4), .inl (cI, (k - n), .inl (b 0))), ((q 5), .inl (cI, n, .inl (a 1))), ((q 6), .inl (cI, k, .inl (a 2))), ((q 7), .inl (cS, (6), .inr (.inr (.inr (.inr (sg 0)))))), ((q 8), .inr (10, [.ref (q 9), .ref (q 10), .ref (q 11), .ref (q 12), .int (f 5), .int (f 6)])), ((q 9), .inl (cI, (k - n), .inl (b 1))), ((q 10), .inl (cI, n, .inl (a 3))), ((q 11), .inl (cI, k, .inl (a 4))), ((q 12), .inl (cS, (6), .inr (.inr (.inr (.inr (sg 1)))))), ((q 13), .inl (cI, k, .inl (a 5))), ((q 14), .inl (cI, k, .inl (a 6))), ((q 15), .inr (8, [.int (nI n), .ref (q 1), .ref (q 4), .ref (q 16), .ref t, .int (f 7)])), ((q 16), .inl (cI, k, .inl (a 8))), ((q 17), .inl (cI, (10 * n), .inl (a 7))), ((q 18), .inr (14, [.ref (q 19), .ref (q 20)])), ((q 19), .inl (cI, (k + 1), .inl (b 2))), ((q 20), .inl (cI, (toL n), .inl (b 3))), ((q 21), .inl (cI, k, .inl (b 4))), ((qb 0), .inr (2, [])), ((qb 1), .inr (3, [])), ((qb 2), .inr (5, [])), ((qb 3), .inr (11, [])), ((qb 4), .inr (4, []))]
abbrev W_PTu (adK : Nat → Nat) (adV : Nat → Nat) (cI : ClassId) (cB : ClassId) (cS : ClassId) (q : Nat → Nat) (qb : Nat → Nat) (n : Nat) (k : Nat) (sq : Nat) (sv : Nat) (sm : Nat) (sb : Nat → Int32) (u : StPT) : va_W := W_PT adK adV cI cB cS q qb n k sq sv sm sb u.1 u.2.1 u.2.2.1 u.2.2.2.1 u.2.2.2.2
