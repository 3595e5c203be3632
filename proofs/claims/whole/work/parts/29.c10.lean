def w_J4_append_cf468  (bv : Nat) (bm : Nat) (ml : Int32) (cn : Int32) (bt : Nat → Int32)  (p0 : Int32) (Q : ((Nat) × (Nat) × (Int32) × (Nat → Int32)) → Prop) : Prop := w_J5_append_3fe6f bv bm ml cn bt  p0 (fun (kd1 : ((Nat) × (Nat) × (Int32) × (Nat → Int32))) => Q (kd1.1, kd1.2.1, kd1.2.2.1, kd1.2.2.2))
abbrev rmJ4_append_cf468 : Room := { frames := 5, cells := 1, slots := 40, locals := 131 }
set_option maxHeartbeats 4000000 in
set_option maxRecDepth 100000 in
theorem t_J4_append_cf468 (l : Launch) (dC : Nat → ClassId) (dI : Nat → Nat → Nat) (adK : Nat → Nat) (adV : Nat → Nat) (cY : ClassId) (h : Nat) (sz : Nat) (bv : Nat) (bm : Nat) (ml : Int32) (cn : Int32) (bt : Nat → Int32)   (p0 : Int32) (Q0 : ((Nat) × (Nat) × (Int32) × (Nat → Int32)) → Prop) (hw : w_J4_append_cf468  bv bm ml cn bt  p0 Q0) : Met l yJ4_append_cf468 wsJ4_append_cf468 rmJ4_append_cf468 (g_pre (cz adK adV) (dC, dI) vwCl [(cY, .byte)] (W_B adK adV cY h bv bm ml cn bt) sz [.ref h, .int p0]) (g_qr (dC, dI) vwCl [(cY, .byte)] (fun u : ((Nat) × (Nat) × (Int32) × (Nat → Int32)) => (W_B adK adV cY h (u.1) (u.2.1) ml (u.2.2.1) (u.2.2.2))) (fun _ => h) Q0 (va_A (W_B adK adV cY h bv bm ml cn bt) sz)) 1 40 (va_A (W_B adK adV cY h bv bm ml cn bt) sz) := by
  refine g_startr (Or.inl ⟨_, rfl⟩) (by decide) rfl (Nat.le_of_ble_eq_true rfl) ?_
  intro p e s m args below meth c A Q ls hx hb hml hown hts hin hK hP hD hA hS hZ hret hl
  obtain ⟨H, eH⟩ : ∃ H : Heap, H = s.heap := ⟨_, rfl⟩
  obtain ⟨locs, eL⟩ : ∃ L : List Loc, L = [] := ⟨_, rfl⟩
  have hS : va_S A s.heap H locs := by rw [eH, eL]; exact hS
  rw [← eH] at hP
  suffices hg : W p l e rmJ4_append_cf468 s m args below meth c H locs 0 0 Q (F0 m 0 ls []) by rw [eH, eL] at hg; exact hg
  clear eH eL
  replace hl : lv_has ls 2 [(0, .ref h), (1, .int p0)] := hl
  unfold w_J4_append_cf468 at hw
  refine lv_aload_n hx hb dJ4_append_cf468_0 rfl (lv_at hl 0 rfl) ?_
  refine lv_iload_n hx hb dJ4_append_cf468_1 rfl (lv_at hl 1 rfl) ?_
  refine g_cr (g_J.plain (W2 := fun kd1 : ((Nat) × (Nat) × (Int32) × (Nat → Int32)) => (W_B adK adV cY h (kd1.1) (kd1.2.1) ml (kd1.2.2.1) (kd1.2.2.2))) [] [0, 1] [] [0, 1] rfl (by decide) rfl (by decide) (by decide) (fun _ => rfl) (by decide)) [0] hK hP hD hS hA rfl (fun hPc hDc hKc hFc => va_runSU (As := [.int p0]) (rest := []) (hK.1 1 _ rfl).2 ⟨hx, hb, hml, hown, hts⟩ (t_J5_append_3fe6f l dC dI adK adV cY h H.size bv bm ml cn bt  p0 _ hw) (va_cwSU 1 hts gJ4_append_cf468_J5_append_3fe6f_s50 rfl rfl rfl (by decide +kernel) ⟨Nat.le_of_ble_eq_true rfl, Nat.le_of_ble_eq_true rfl⟩) (g_pV czb (q0 := 0) rfl rfl hPc hDc hKc (czc hZ hS hFc)) rfl rfl hl.1 rfl (lv_room (Nat.le_of_ble_eq_true rfl)) dJ4_append_cf468_2 ⟨Nat.le_of_ble_eq_true rfl, Nat.le_of_ble_eq_true rfl⟩) (fun kd1 H locs hw hP hD hS => ?_)
  refine W.widen (k := 1) (n := 40) (Nat.le_of_ble_eq_true rfl) (Nat.le_of_ble_eq_true rfl) ?_
  replace hP : va_P (dC, dI) vwCl (W_B adK adV cY h (kd1.1) (kd1.2.1) ml (kd1.2.2.1) (kd1.2.2.2)) H := hP
  replace hD : va_D A (W_B adK adV cY h (kd1.1) (kd1.2.1) ml (kd1.2.2.1) (kd1.2.2.2)) := hD
  refine lv_pop hx hb dJ4_append_cf468_5 rfl ?_
  refine lv_aload_n hx hb dJ4_append_cf468_6 rfl (lv_at hl 0 rfl) ?_
  exact hret (u := (kd1.1, kd1.2.1, kd1.2.2.1, kd1.2.2.2)) dJ4_append_cf468_7 hK hP hD hS hw

def w_J5_setLength_d00df  (bv : Nat) (bm : Nat) (ml : Int32) (cn : Int32) (bt : Nat → Int32)  (p0 : Int32) (Q : ((Nat) × (Nat) × (Int32) × (Int32) × (Nat → Int32)) → Prop) : Prop := (((0 ≤ p0) → w_J5_ensureCapacityInternal_d00df bv bm ml cn bt  p0 (fun (u2 : ((Nat) × (Nat) × (Nat → Int32))) => (((p0 ≤ cn) → (((cn ≤ p0) → Q (u2.1, u2.2.1, ml, p0, u2.2.2)) ∧ (¬ (cn ≤ p0) → Q (u2.1, u2.2.1, (1 : Int32), p0, u2.2.2)))) ∧ (¬ (p0 ≤ cn) → w_J5_isLatin1_aae02 (u2.1) (u2.2.1) ml cn (u2.2.2)   (fun (r6 : Int32) (u5 : Unit) => (((r6 = 0) → False) ∧ (¬ (r6 = 0) → False))))))) ∧ (¬ (0 ≤ p0) → False))
abbrev rmJ5_setLength_d00df : Room := { frames := 4, cells := 1, slots := 40, locals := 110 }
set_option maxHeartbeats 4000000 in
set_option maxRecDepth 100000 in
theorem t_J5_setLength_d00df (l : Launch) (dC : Nat → ClassId) (dI : Nat → Nat → Nat) (adK : Nat → Nat) (adV : Nat → Nat) (cY : ClassId) (h : Nat) (sz : Nat) (bv : Nat) (bm : Nat) (ml : Int32) (cn : Int32) (bt : Nat → Int32)   (p0 : Int32) (Q0 : ((Nat) × (Nat) × (Int32) × (Int32) × (Nat → Int32)) → Prop) (hw : w_J5_setLength_d00df  bv bm ml cn bt  p0 Q0) : Met l yJ5_setLength_d00df wsJ5_setLength_d00df rmJ5_setLength_d00df (g_pre (cz adK adV) (dC, dI) vwCl [(cY, .byte)] (W_B adK adV cY h bv bm ml cn bt) sz [.ref h, .int p0]) (g_qv (dC, dI) vwCl [(cY, .byte)] (fun u : ((Nat) × (Nat) × (Int32) × (Int32) × (Nat → Int32)) => (W_B adK adV cY h (u.1) (u.2.1) (u.2.2.1) (u.2.2.2.1) (u.2.2.2.2))) Q0 (va_A (W_B adK adV cY h bv bm ml cn bt) sz)) 1 40 (va_A (W_B adK adV cY h bv bm ml cn bt) sz) := by
  refine g_startv (by decide) rfl (Nat.le_of_ble_eq_true rfl) ?_
  intro p e s m args below meth c A Q ls hx hb hml hown hts hin hK hP hD hA hS hZ hret hl
  obtain ⟨H, eH⟩ : ∃ H : Heap, H = s.heap := ⟨_, rfl⟩
  obtain ⟨locs, eL⟩ : ∃ L : List Loc, L = [] := ⟨_, rfl⟩
  have hS : va_S A s.heap H locs := by rw [eH, eL]; exact hS
  rw [← eH] at hP
  suffices hg : W p l e rmJ5_setLength_d00df s m args below meth c H locs 0 0 Q (F0 m 0 ls []) by rw [eH, eL] at hg; exact hg
  clear eH eL
  replace hl : lv_has ls 2 [(0, .ref h), (1, .int p0)] := hl
  have hf79 := hts (.fieldLink RJ5 79 "java/lang/AbstractStringBuilder" "count" "I") (by decide +kernel)
  have hiJ4 : ∀ w ∈ u_ws RJ4 TJ4 4, w ∈ wsJ5_setLength_d00df := fun w h => List.mem_cons_of_mem _ (List.mem_append_right _ h)
  have hf73 := hts (.fieldLink RJ5 73 "java/lang/AbstractStringBuilder" "maybeLatin1" "Z") (by decide +kernel)
  have hf15 := hts (.fieldLink RJ5 15 "java/lang/AbstractStringBuilder" "value" "[B") (by decide +kernel)
  unfold w_J5_setLength_d00df at hw
  refine lv_iload_n hx hb dJ5_setLength_d00df_0 rfl (lv_at hl 1 rfl) ?_
  refine lv_if_ge (tgt := 13) hx hb dJ5_setLength_d00df_1 (by decide) (fun hc1 => ?_) (fun hc1 => ?_)
  · replace hw := hw.1 hc1
    refine lv_aload_n hx hb dJ5_setLength_d00df_13 rfl (lv_at hl 0 rfl) ?_
    refine lv_iload_n hx hb dJ5_setLength_d00df_14 rfl (lv_at hl 1 rfl) ?_
    refine g_cv (g_J.plain (W2 := fun u2 : ((Nat) × (Nat) × (Nat → Int32)) => (W_B adK adV cY h (u2.1) (u2.2.1) ml cn (u2.2.2))) [] [0, 1] [] [0, 1] rfl (by decide) rfl (by decide) (by decide) (fun _ => rfl) (by decide)) [0] hK hP hD hS hA rfl (fun hPc hDc hKc hFc => va_runU (As := [.int p0]) (rest := []) ⟨hx, hb, hml, hown, hts⟩ (t_J5_ensureCapacityInternal_d00df l dC dI adK adV cY h H.size bv bm ml cn bt  p0 _ hw) (va_cwU 1 hts gJ5_setLength_d00df_J5_ensureCapacityInternal_d00df_u100J4 rfl rfl rfl rfl (by decide +kernel) ⟨Nat.le_of_ble_eq_true rfl, Nat.le_of_ble_eq_true rfl⟩) (g_pV czb (q0 := 0) rfl rfl hPc hDc hKc (czc hZ hS hFc)) rfl rfl hl.1 rfl (lv_room (Nat.le_of_ble_eq_true rfl)) dJ5_setLength_d00df_15 ⟨Nat.le_of_ble_eq_true rfl, Nat.le_of_ble_eq_true rfl⟩) (fun u2 H locs hw hP hD hS => ?_)
    refine W.widen (k := 1) (n := 40) (Nat.le_of_ble_eq_true rfl) (Nat.le_of_ble_eq_true rfl) ?_
    replace hP : va_P (dC, dI) vwCl (W_B adK adV cY h (u2.1) (u2.2.1) ml cn (u2.2.2)) H := hP
    replace hD : va_D A (W_B adK adV cY h (u2.1) (u2.2.1) ml cn (u2.2.2)) := hD
    refine lv_aload_n hx hb dJ5_setLength_d00df_18 rfl (lv_at hl 0 rfl) ?_
    refine va_get (D := (dC, dI)) (ci := 1) (v := .int cn) (C := RJ4) (T := TJ4) (N := 4) hx hb hts hiJ4 hown hK hP 0 rfl rfl 3 (by decide) hf79 (fun _ h9 => h9) rfl dJ5_setLength_d00df_19 ?_
    refine lv_iload_n hx hb dJ5_setLength_d00df_22 rfl (lv_at hl 1 rfl) ?_
    refine lv_icmp_ge (tgt := 63) hx hb dJ5_setLength_d00df_23 (by decide) (fun hc3 => ?_) (fun hc3 => ?_)
    · replace hw := hw.1 hc3
      refine lv_aload_n hx hb dJ5_setLength_d00df_63 rfl (lv_at hl 0 rfl) ?_
      refine va_get (D := (dC, dI)) (ci := 1) (v := .int cn) (C := RJ4) (T := TJ4) (N := 4) hx hb hts hiJ4 hown hK hP 0 rfl rfl 3 (by decide) hf79 (fun _ h9 => h9) rfl dJ5_setLength_d00df_64 ?_
      refine lv_iload_n hx hb dJ5_setLength_d00df_67 rfl (lv_at hl 1 rfl) ?_
      refine lv_icmp_le (tgt := 76) hx hb dJ5_setLength_d00df_68 (by decide) (fun hc4 => ?_) (fun hc4 => ?_)
      · replace hw := hw.1 hc4
        refine lv_aload_n hx hb dJ5_setLength_d00df_76 rfl (lv_at hl 0 rfl) ?_
        refine lv_iload_n hx hb dJ5_setLength_d00df_77 rfl (lv_at hl 1 rfl) ?_
        refine va_put (D := (dC, dI)) (ci := 1) (v := .int p0) (ty := (.int)) (C := RJ4) (T := TJ4) (N := 4) hx hb hts hiJ4 tyJ4 tyJ4_ok nmJ4 hown hK hP hD hS 0 rfl rfl 3 (by decide) hf79 (fun _ h9 => h9) rfl (by decide +kernel) rfl rfl (Nat.le_of_ble_eq_true rfl) dJ5_setLength_d00df_78 (fun H locs hP hD hS => ?_)
        replace hP : va_P (dC, dI) vwCl (W_B adK adV cY h (u2.1) (u2.2.1) ml p0 (u2.2.2)) H := hP
        replace hD : va_D A (W_B adK adV cY h (u2.1) (u2.2.1) ml p0 (u2.2.2)) := hD
        exact hret dJ5_setLength_d00df_81 hK hP hD hS hw
      · replace hw := hw.2 hc4
        refine lv_aload_n hx hb dJ5_setLength_d00df_71 rfl (lv_at hl 0 rfl) ?_
        refine lv_iconst (v := 1) hx hb dJ5_setLength_d00df_72 (by decide) ?_
        refine va_put (D := (dC, dI)) (ci := 1) (v := .int (1 : Int32)) (ty := (.boolean)) (C := RJ4) (T := TJ4) (N := 4) hx hb hts hiJ4 tyJ4 tyJ4_ok nmJ4 hown hK hP hD hS 0 rfl rfl 2 (by decide) hf73 (fun _ h9 => h9) rfl (by decide +kernel) rfl rfl (Nat.le_of_ble_eq_true rfl) dJ5_setLength_d00df_73 (fun H locs hP hD hS => ?_)
        replace hP : va_P (dC, dI) vwCl (W_B adK adV cY h (u2.1) (u2.2.1) (1 : Int32) cn (u2.2.2)) H := hP
        replace hD : va_D A (W_B adK adV cY h (u2.1) (u2.2.1) (1 : Int32) cn (u2.2.2)) := hD
        refine lv_aload_n hx hb dJ5_setLength_d00df_76 rfl (lv_at hl 0 rfl) ?_
        refine lv_iload_n hx hb dJ5_setLength_d00df_77 rfl (lv_at hl 1 rfl) ?_
        refine va_put (D := (dC, dI)) (ci := 1) (v := .int p0) (ty := (.int)) (C := RJ4) (T := TJ4) (N := 4) hx hb hts hiJ4 tyJ4 tyJ4_ok nmJ4 hown hK hP hD hS 0 rfl rfl 3 (by decide) hf79 (fun _ h9 => h9) rfl (by decide +kernel) rfl rfl (Nat.le_of_ble_eq_true rfl) dJ5_setLength_d00df_78 (fun H locs hP hD hS => ?_)
        replace hP : va_P (dC, dI) vwCl (W_B adK adV cY h (u2.1) (u2.2.1) (1 : Int32) p0 (u2.2.2)) H := hP
        replace hD : va_D A (W_B adK adV cY h (u2.1) (u2.2.1) (1 : Int32) p0 (u2.2.2)) := hD
        exact hret dJ5_setLength_d00df_81 hK hP hD hS hw
    · replace hw := hw.2 hc3
      refine lv_aload_n hx hb dJ5_setLength_d00df_26 rfl (lv_at hl 0 rfl) ?_
      refine g_ci (g_J.plain (W2 := fun u5 : Unit => (W_B adK adV cY h (u2.1) (u2.2.1) ml cn (u2.2.2))) [] [0, 1] [] [0, 1] rfl (by decide) rfl (by decide) (by decide) (fun _ => rfl) (by decide)) [0] hK hP hD hS hA rfl (fun hPc hDc hKc hFc => va_runU (As := []) (rest := []) ⟨hx, hb, hml, hown, hts⟩ (t_J5_isLatin1_aae02 l dC dI adK adV cY h H.size (u2.1) (u2.2.1) ml cn (u2.2.2)   _ hw) (va_cwU 0 hts gJ5_setLength_d00df_J5_isLatin1_aae02_u83J4 rfl rfl rfl rfl (by decide +kernel) ⟨Nat.le_of_ble_eq_true rfl, Nat.le_of_ble_eq_true rfl⟩) (g_pV czb (q0 := 0) rfl rfl hPc hDc hKc (czc hZ hS hFc)) rfl rfl hl.1 rfl (lv_room (Nat.le_of_ble_eq_true rfl)) dJ5_setLength_d00df_27 ⟨Nat.le_of_ble_eq_true rfl, Nat.le_of_ble_eq_true rfl⟩) (fun r6 u5 H locs hw hP hD hS => ?_)
      replace hP : va_P (dC, dI) vwCl (W_B adK adV cY h (u2.1) (u2.2.1) ml cn (u2.2.2)) H := hP
      replace hD : va_D A (W_B adK adV cY h (u2.1) (u2.2.1) ml cn (u2.2.2)) := hD
      refine lv_if_eq (tgt := 48) hx hb dJ5_setLength_d00df_30 (by decide) (fun hc7 => ?_) (fun hc7 => ?_)
      · replace hw := hw.1 hc7
        refine lv_aload_n hx hb dJ5_setLength_d00df_48 rfl (lv_at hl 0 rfl) ?_
        refine va_get (D := (dC, dI)) (ci := 1) (v := .ref (u2.1)) (C := RJ4) (T := TJ4) (N := 4) hx hb hts hiJ4 hown hK hP 0 rfl rfl 0 (by decide) hf15 (fun _ h9 => h9) rfl dJ5_setLength_d00df_49 ?_
        refine lv_aload_n hx hb dJ5_setLength_d00df_52 rfl (lv_at hl 0 rfl) ?_
        refine va_get (D := (dC, dI)) (ci := 1) (v := .int cn) (C := RJ4) (T := TJ4) (N := 4) hx hb hts hiJ4 hown hK hP 0 rfl rfl 3 (by decide) hf79 (fun _ h9 => h9) rfl dJ5_setLength_d00df_53 ?_
        refine lv_iload_n hx hb dJ5_setLength_d00df_56 rfl (lv_at hl 1 rfl) ?_
        exact hw.elim
      · replace hw := hw.2 hc7
        refine lv_aload_n hx hb dJ5_setLength_d00df_33 rfl (lv_at hl 0 rfl) ?_
        refine va_get (D := (dC, dI)) (ci := 1) (v := .ref (u2.1)) (C := RJ4) (T := TJ4) (N := 4) hx hb hts hiJ4 hown hK hP 0 rfl rfl 0 (by decide) hf15 (fun _ h9 => h9) rfl dJ5_setLength_d00df_34 ?_
        refine lv_aload_n hx hb dJ5_setLength_d00df_37 rfl (lv_at hl 0 rfl) ?_
        refine va_get (D := (dC, dI)) (ci := 1) (v := .int cn) (C := RJ4) (T := TJ4) (N := 4) hx hb hts hiJ4 hown hK hP 0 rfl rfl 3 (by decide) hf79 (fun _ h9 => h9) rfl dJ5_setLength_d00df_38 ?_
        refine lv_iload_n hx hb dJ5_setLength_d00df_41 rfl (lv_at hl 1 rfl) ?_
        exact hw.elim
  · replace hw := hw.2 hc1
    exact hw.elim

def w_J4_setLength_d00df  (bv : Nat) (bm : Nat) (ml : Int32) (cn : Int32) (bt : Nat → Int32)  (p0 : Int32) (Q : ((Nat) × (Nat) × (Int32) × (Int32) × (Nat → Int32)) → Prop) : Prop := w_J5_setLength_d00df bv bm ml cn bt  p0 (fun (u1 : ((Nat) × (Nat) × (Int32) × (Int32) × (Nat → Int32))) => Q (u1.1, u1.2.1, u1.2.2.1, u1.2.2.2.1, u1.2.2.2.2))
abbrev rmJ4_setLength_d00df : Room := { frames := 5, cells := 1, slots := 40, locals := 131 }
set_option maxHeartbeats 4000000 in
set_option maxRecDepth 100000 in
theorem t_J4_setLength_d00df (l : Launch) (dC : Nat → ClassId) (dI : Nat → Nat → Nat) (adK : Nat → Nat) (adV : Nat → Nat) (cY : ClassId) (h : Nat) (sz : Nat) (bv : Nat) (bm : Nat) (ml : Int32) (cn : Int32) (bt : Nat → Int32)   (p0 : Int32) (Q0 : ((Nat) × (Nat) × (Int32) × (Int32) × (Nat → Int32)) → Prop) (hw : w_J4_setLength_d00df  bv bm ml cn bt  p0 Q0) : Met l yJ4_setLength_d00df wsJ4_setLength_d00df rmJ4_setLength_d00df (g_pre (cz adK adV) (dC, dI) vwCl [(cY, .byte)] (W_B adK adV cY h bv bm ml cn bt) sz [.ref h, .int p0]) (g_qv (dC, dI) vwCl [(cY, .byte)] (fun u : ((Nat) × (Nat) × (Int32) × (Int32) × (Nat → Int32)) => (W_B adK adV cY h (u.1) (u.2.1) (u.2.2.1) (u.2.2.2.1) (u.2.2.2.2))) Q0 (va_A (W_B adK adV cY h bv bm ml cn bt) sz)) 1 40 (va_A (W_B adK adV cY h bv bm ml cn bt) sz) := by
  refine g_startv (by decide) rfl (Nat.le_of_ble_eq_true rfl) ?_
  intro p e s m args below meth c A Q ls hx hb hml hown hts hin hK hP hD hA hS hZ hret hl
  obtain ⟨H, eH⟩ : ∃ H : Heap, H = s.heap := ⟨_, rfl⟩
  obtain ⟨locs, eL⟩ : ∃ L : List Loc, L = [] := ⟨_, rfl⟩
  have hS : va_S A s.heap H locs := by rw [eH, eL]; exact hS
  rw [← eH] at hP
  suffices hg : W p l e rmJ4_setLength_d00df s m args below meth c H locs 0 0 Q (F0 m 0 ls []) by rw [eH, eL] at hg; exact hg
  clear eH eL
  replace hl : lv_has ls 2 [(0, .ref h), (1, .int p0)] := hl
  unfold w_J4_setLength_d00df at hw
  refine lv_aload_n hx hb dJ4_setLength_d00df_0 rfl (lv_at hl 0 rfl) ?_
  refine lv_iload_n hx hb dJ4_setLength_d00df_1 rfl (lv_at hl 1 rfl) ?_
  refine g_cv (g_J.plain (W2 := fun u1 : ((Nat) × (Nat) × (Int32) × (Int32) × (Nat → Int32)) => (W_B adK adV cY h (u1.1) (u1.2.1) (u1.2.2.1) (u1.2.2.2.1) (u1.2.2.2.2))) [] [0, 1] [] [0, 1] rfl (by decide) rfl (by decide) (by decide) (fun _ => rfl) (by decide)) [0] hK hP hD hS hA rfl (fun hPc hDc hKc hFc => va_runSU (As := [.int p0]) (rest := []) (hK.1 1 _ rfl).2 ⟨hx, hb, hml, hown, hts⟩ (t_J5_setLength_d00df l dC dI adK adV cY h H.size bv bm ml cn bt  p0 _ hw) (va_cwSU 1 hts gJ4_setLength_d00df_J5_setLength_d00df_s333 rfl rfl rfl (by decide +kernel) ⟨Nat.le_of_ble_eq_true rfl, Nat.le_of_ble_eq_true rfl⟩) (g_pV czb (q0 := 0) rfl rfl hPc hDc hKc (czc hZ hS hFc)) rfl rfl hl.1 rfl (lv_room (Nat.le_of_ble_eq_true rfl)) dJ4_setLength_d00df_2 ⟨Nat.le_of_ble_eq_true rfl, Nat.le_of_ble_eq_true rfl⟩) (fun u1 H locs hw hP hD hS => ?_)
  refine W.widen (k := 1) (n := 40) (Nat.le_of_ble_eq_true rfl) (Nat.le_of_ble_eq_true rfl) ?_
  replace hP : va_P (dC, dI) vwCl (W_B adK adV cY h (u1.1) (u1.2.1) (u1.2.2.1) (u1.2.2.2.1) (u1.2.2.2.2)) H := hP
  replace hD : va_D A (W_B adK adV cY h (u1.1) (u1.2.1) (u1.2.2.1) (u1.2.2.2.1) (u1.2.2.2.2)) := hD
  exact hret dJ4_setLength_d00df_5 hK hP hD hS hw

def w_J7_checkLength_df160    (p0 : Int32) (p1 : Int32) (Q : Unit → Prop) : Prop := (((p0 ≤ p1) → Q ()) ∧ (¬ (p0 ≤ p1) → False))
abbrev rmJ7_checkLength_df160 : Room := { frames := 0, cells := 0, slots := 0, locals := 0 }
set_option maxHeartbeats 4000000 in
set_option maxRecDepth 100000 in
theorem t_J7_checkLength_df160 (l : Launch) (dC : Nat → ClassId) (dI : Nat → Nat → Nat)  (sz : Nat)    (p0 : Int32) (p1 : Int32) (Q0 : Unit → Prop) (hw : w_J7_checkLength_df160    p0 p1 Q0) : Met l yJ7_checkLength_df160 wsJ7_checkLength_df160 rmJ7_checkLength_df160 (g_pre g_T (dC, dI) vwCl [] (W_E  ) sz [.int p0, .int p1]) (g_qv (dC, dI) vwCl [] (fun u : Unit => (W_E  )) Q0 (va_A (W_E  ) sz)) 0 0 (va_A (W_E  ) sz) := by
  refine g_startv (by decide) rfl (Nat.le_of_ble_eq_true rfl) ?_
  intro p e s m args below meth c A Q ls hx hb hml hown hts hin hK hP hD hA hS hZ hret hl
  obtain ⟨H, eH⟩ : ∃ H : Heap, H = s.heap := ⟨_, rfl⟩
  obtain ⟨locs, eL⟩ : ∃ L : List Loc, L = [] := ⟨_, rfl⟩
  have hS : va_S A s.heap H locs := by rw [eH, eL]; exact hS
  rw [← eH] at hP
  suffices hg : W p l e rmJ7_checkLength_df160 s m args below meth c H locs 0 0 Q (F0 m 0 ls []) by rw [eH, eL] at hg; exact hg
  clear eH eL
  replace hl : lv_has ls 2 [(0, .int p0), (1, .int p1)] := hl
  unfold w_J7_checkLength_df160 at hw
  refine lv_iload_n hx hb dJ7_checkLength_df160_0 rfl (lv_at hl 1 rfl) ?_
  refine lv_iload_n hx hb dJ7_checkLength_df160_1 rfl (lv_at hl 0 rfl) ?_
  refine lv_icmp_ge (tgt := 37) hx hb dJ7_checkLength_df160_2 (by decide) (fun hc1 => ?_) (fun hc1 => ?_)
  · replace hw := hw.1 hc1
    exact hret dJ7_checkLength_df160_37 hK hP hD hS hw
  · replace hw := hw.2 hc1
    exact hw.elim

def w_J7_copyOfRangeByte_39247 (n : Nat) (x : Nat → Int32)  (p1 : Int32) (p2 : Int32) (Q : (Nat × (Nat → Int32) × Nat) → Prop) : Prop := w_J7_checkLength_df160   p1 p2 (fun (u1 : Unit) => ∀ x2 : Int32, x2 = (p2 - p1) → ∃ N3 : Nat, (x2 = nI N3) ∧ (N3 ≤ 40) ∧ ∀ q4 : Nat, ((¬ p1 < 0) ∧ (¬ (0 : Int32) < 0) ∧ (¬ (if x2 < ((nI n) - p1) then x2 else ((nI n) - p1)) < 0) ∧ (p1.toNatClampNeg + (if x2 < ((nI n) - p1) then x2 else ((nI n) - p1)).toNatClampNeg ≤ n) ∧ ((0 : Int32).toNatClampNeg + (if x2 < ((nI n) - p1) then x2 else ((nI n) - p1)).toNatClampNeg ≤ N3)) ∧ (∀ i : Nat, i < (if x2 < ((nI n) - p1) then x2 else ((nI n) - p1)).toNatClampNeg → fits .byte (.int (x (p1.toNatClampNeg + i))) = true) ∧ Q (q4, (va_cpy x (fun _ => 0) p1.toNatClampNeg (0 : Int32).toNatClampNeg (if x2 < ((nI n) - p1) then x2 else ((nI n) - p1)).toNatClampNeg), N3))
abbrev rmJ7_copyOfRangeByte_39247 : Room := { frames := 1, cells := 1, slots := 40, locals := 60 }
set_option maxHeartbeats 4000000 in
set_option maxRecDepth 100000 in
theorem t_J7_copyOfRangeByte_39247 (l : Launch) (dC : Nat → ClassId) (dI : Nat → Nat → Nat) (cY : ClassId) (b : Nat) (n : Nat) (sz : Nat) (x : Nat → Int32)   (p1 : Int32) (p2 : Int32) (Q0 : (Nat × (Nat → Int32) × Nat) → Prop) (hw : w_J7_copyOfRangeByte_39247 n x  p1 p2 Q0) : Met l yJ7_copyOfRangeByte_39247 wsJ7_copyOfRangeByte_39247 rmJ7_copyOfRangeByte_39247 (g_pre g_T (dC, dI) vwCl [(cY, .byte)] (W_Y cY b n x) sz [.ref b, .int p1, .int p2]) (g_qr (dC, dI) vwCl [(cY, .byte)] (fun u : (Nat × (Nat → Int32) × Nat) => (W_Y cY b n x) ++ [(u.1, .inl (cY, u.2.2, .inl u.2.1))]) (fun u : (Nat × (Nat → Int32) × Nat) => u.1) Q0 (va_A (W_Y cY b n x) sz)) 1 40 (va_A (W_Y cY b n x) sz) := by
  refine g_startr (Or.inr ⟨_, rfl⟩) (by decide) rfl (Nat.le_of_ble_eq_true rfl) ?_
  intro p e s m args below meth c A Q ls hx hb hml hown hts hin hK hP hD hA hS hZ hret hl
  obtain ⟨H, eH⟩ : ∃ H : Heap, H = s.heap := ⟨_, rfl⟩
  obtain ⟨locs, eL⟩ : ∃ L : List Loc, L = [] := ⟨_, rfl⟩
  have hS : va_S A s.heap H locs := by rw [eH, eL]; exact hS
  rw [← eH] at hP
  suffices hg : W p l e rmJ7_copyOfRangeByte_39247 s m args below meth c H locs 0 0 Q (F0 m 0 ls []) by rw [eH, eL] at hg; exact hg
  clear eH eL
  replace hl : lv_has ls 5 [(0, .ref b), (1, .int p1), (2, .int p2)] := hl
  have acB := hts (.arrayClass .byte) (by decide +kernel)
  have ml304 := hts (.methodLink RJ7 304 Lib.Math.min.name) (by decide +kernel)
  have msmin := hts (.static Lib.Math.min.name) (by decide +kernel)
  have miMath := hts (.initialized "java/lang/Math") (by decide +kernel)
  have mcmin := hts (.code Lib.Math.min.name Lib.Math.min.code 2 (some .int)) (by decide +kernel)
  have al150 := hts (.methodLink RJ7 150 arraycopyName) (by decide +kernel)
  have acn := hts (.native arraycopyName) (by decide +kernel)
  have acs := hts (.static arraycopyName) (by decide +kernel)
  have aci := hts (.initialized "java/lang/System") (by decide +kernel)
  unfold w_J7_copyOfRangeByte_39247 at hw
  refine lv_iload_n hx hb dJ7_copyOfRangeByte_39247_0 rfl (lv_at hl 1 rfl) ?_
  refine lv_iload_n hx hb dJ7_copyOfRangeByte_39247_1 rfl (lv_at hl 2 rfl) ?_
  refine g_cv (g_J.plain (W2 := fun u1 : Unit => (W_Y cY b n x)) [(b, .inl (cY, n, .inl x))] [] [0] [0] rfl (by decide) rfl (by decide) (by decide) (fun _ => rfl) (by decide)) [] hK hP hD hS hA rfl (fun hPc hDc hKc hFc => va_runS (As := [.int p1, .int p2]) (rest := []) ⟨hx, hb, hml, hown, hts⟩ (t_J7_checkLength_df160 l dC dI  H.size   p1 p2 _ hw) (va_cwS 2 hts gJ7_copyOfRangeByte_39247_J7_checkLength_df160 rfl rfl rfl (by decide +kernel) ⟨Nat.le_of_ble_eq_true rfl, Nat.le_of_ble_eq_true rfl⟩) (g_pS g_Tb hPc hDc hKc (fun _ _ _ => trivial)) rfl rfl hl.1 rfl (lv_room (Nat.le_of_ble_eq_true rfl)) dJ7_copyOfRangeByte_39247_2 ⟨Nat.le_of_ble_eq_true rfl, Nat.le_of_ble_eq_true rfl⟩) (fun u1 H locs hw hP hD hS => ?_)
  replace hP : va_P (dC, dI) vwCl (W_Y cY b n x) H := hP
  replace hD : va_D A (W_Y cY b n x) := hD
  refine lv_iload_n hx hb dJ7_copyOfRangeByte_39247_5 rfl (lv_at hl 2 rfl) ?_
  refine lv_iload_n hx hb dJ7_copyOfRangeByte_39247_6 rfl (lv_at hl 1 rfl) ?_
  refine lv_isub hx hb dJ7_copyOfRangeByte_39247_7 ?_
  refine lv_topi (fun x2 ex2 => ?_)
  replace hw := hw x2 ex2
  refine lv_istore_n (lv' := [(3, .int x2), (0, .ref b), (1, .int p1), (2, .int p2)]) hx hb dJ7_copyOfRangeByte_39247_8 rfl hl (by decide) rfl (fun ls hl => ?_)
  refine lv_iload_n hx hb dJ7_copyOfRangeByte_39247_9 rfl (lv_at hl 0 rfl) ?_
  obtain ⟨N3, eN3, bN3, hw⟩ := hw
  refine g_newB hx hb acB hK 0 rfl hP hD hS hA eN3 bN3 (Nat.le_of_ble_eq_true rfl) (Nat.le_of_ble_eq_true rfl) (Nat.le_of_ble_eq_true rfl) dJ7_copyOfRangeByte_39247_10 (fun q4 H hP hD hS => ?_)
  replace hw := hw q4
  refine W.widen (k := 1) (n := 40) (Nat.le_of_ble_eq_true rfl) (Nat.le_of_ble_eq_true rfl) ?_
  replace hP : va_P (dC, dI) vwCl ((W_Y cY b n x) ++ [(q4, .inl (cY, N3, .inl (fun _ => 0)))]) H := hP
  replace hD : va_D A ((W_Y cY b n x) ++ [(q4, .inl (cY, N3, .inl (fun _ => 0)))]) := hD
  refine lv_astore (lv' := [(4, .ref q4), (3, .int x2), (0, .ref b), (1, .int p1), (2, .int p2)]) hx hb dJ7_copyOfRangeByte_39247_12 hl (by decide) rfl (fun ls hl => ?_)
  refine lv_aload_n hx hb dJ7_copyOfRangeByte_39247_14 rfl (lv_at hl 2 rfl) ?_
  refine lv_iload_n hx hb dJ7_copyOfRangeByte_39247_15 rfl (lv_at hl 3 rfl) ?_
  refine lv_aload hx hb dJ7_copyOfRangeByte_39247_16 (lv_at hl 0 rfl) ?_
  refine lv_iconst (v := 0) hx hb dJ7_copyOfRangeByte_39247_18 (by decide) ?_
  refine lv_aload_n hx hb dJ7_copyOfRangeByte_39247_19 rfl (lv_at hl 2 rfl) ?_
  refine va_alen hx hb hK hP 0 0 rfl rfl (v := (nI n)) rfl dJ7_copyOfRangeByte_39247_20 ?_
  refine lv_iload_n hx hb dJ7_copyOfRangeByte_39247_21 rfl (lv_at hl 3 rfl) ?_
  refine lv_isub hx hb dJ7_copyOfRangeByte_39247_22 ?_
  refine lv_iload_n hx hb dJ7_copyOfRangeByte_39247_23 rfl (lv_at hl 1 rfl) ?_
  refine va_mmin hx hb (hml.trans hl.1.symm) hown ml304 msmin miMath mcmin (Nat.le_of_ble_eq_true rfl) (Nat.le_of_ble_eq_true rfl) (Nat.le_of_ble_eq_true rfl) (Nat.le_of_ble_eq_true rfl) dJ7_copyOfRangeByte_39247_24 ?_
  obtain ⟨⟨hc5, hc6, hc7, hc8, hc9⟩, hw⟩ := hw
  obtain ⟨hf10, hw⟩ := hw
  refine va_copyi hx hb (hml.trans hl.1.symm) hown al150 acn acs aci hK hP hD hS 0 1 0 0 rfl rfl rfl rfl rfl hc5 hc6 hc7 hc8 hc9 hf10 (Nat.le_of_ble_eq_true rfl) (Nat.le_of_ble_eq_true rfl) dJ7_copyOfRangeByte_39247_27 (fun H locs hP hD hS => ?_)
  replace hP : va_P (dC, dI) vwCl ((W_Y cY b n x) ++ [(q4, .inl (cY, N3, .inl (va_cpy x (fun _ => 0) p1.toNatClampNeg (0 : Int32).toNatClampNeg (if x2 < ((nI n) - p1) then x2 else ((nI n) - p1)).toNatClampNeg)))]) H := hP
  replace hD : va_D A ((W_Y cY b n x) ++ [(q4, .inl (cY, N3, .inl (va_cpy x (fun _ => 0) p1.toNatClampNeg (0 : Int32).toNatClampNeg (if x2 < ((nI n) - p1) then x2 else ((nI n) - p1)).toNatClampNeg)))]) := hD
  refine lv_aload hx hb dJ7_copyOfRangeByte_39247_30 (lv_at hl 0 rfl) ?_
  exact hret (u := (q4, (va_cpy x (fun _ => 0) p1.toNatClampNeg (0 : Int32).toNatClampNeg (if x2 < ((nI n) - p1) then x2 else ((nI n) - p1)).toNatClampNeg), N3)) dJ7_copyOfRangeByte_39247_32 hK hP hD hS hw

def w_J7_copyOfRange_39247 (n : Nat) (x : Nat → Int32)  (p1 : Int32) (p2 : Int32) (Q : (Nat × (Nat → Int32) × Nat) → Prop) : Prop := ∀ J1 : Prop, ((w_J7_copyOfRangeByte_39247 n x  p1 p2 (fun (kd2 : (Nat × (Nat → Int32) × Nat)) => Q (kd2.1, kd2.2.1, kd2.2.2))) → J1) → (((¬ p1 = 0) → J1) ∧ (p1 = 0 → (((p2 = (nI n)) → False) ∧ (¬ (p2 = (nI n)) → J1))))
abbrev rmJ7_copyOfRange_39247 : Room := { frames := 2, cells := 1, slots := 40, locals := 84 }
set_option maxHeartbeats 4000000 in
set_option maxRecDepth 100000 in
theorem t_J7_copyOfRange_39247 (l : Launch) (dC : Nat → ClassId) (dI : Nat → Nat → Nat) (cY : ClassId) (b : Nat) (n : Nat) (sz : Nat) (x : Nat → Int32)   (p1 : Int32) (p2 : Int32) (Q0 : (Nat × (Nat → Int32) × Nat) → Prop) (hw : w_J7_copyOfRange_39247 n x  p1 p2 Q0) : Met l yJ7_copyOfRange_39247 wsJ7_copyOfRange_39247 rmJ7_copyOfRange_39247 (g_pre g_T (dC, dI) vwCl [(cY, .byte)] (W_Y cY b n x) sz [.ref b, .int p1, .int p2]) (g_qr (dC, dI) vwCl [(cY, .byte)] (fun u : (Nat × (Nat → Int32) × Nat) => (W_Y cY b n x) ++ [(u.1, .inl (cY, u.2.2, .inl u.2.1))]) (fun u : (Nat × (Nat → Int32) × Nat) => u.1) Q0 (va_A (W_Y cY b n x) sz)) 1 40 (va_A (W_Y cY b n x) sz) := by
  refine g_startr (Or.inr ⟨_, rfl⟩) (by decide) rfl (Nat.le_of_ble_eq_true rfl) ?_
  intro p e s m args below meth c A Q ls hx hb hml hown hts hin hK hP hD hA hS hZ hret hl
  obtain ⟨H, eH⟩ : ∃ H : Heap, H = s.heap := ⟨_, rfl⟩
  obtain ⟨locs, eL⟩ : ∃ L : List Loc, L = [] := ⟨_, rfl⟩
  have hS : va_S A s.heap H locs := by rw [eH, eL]; exact hS
  rw [← eH] at hP
  suffices hg : W p l e rmJ7_copyOfRange_39247 s m args below meth c H locs 0 0 Q (F0 m 0 ls []) by rw [eH, eL] at hg; exact hg
  clear eH eL
  replace hl : lv_has ls 3 [(0, .ref b), (1, .int p1), (2, .int p2)] := hl
  unfold w_J7_copyOfRange_39247 at hw
  refine lv_iload_n hx hb dJ7_copyOfRange_39247_0 rfl (lv_at hl 1 rfl) ?_
  replace hw := hw (∀ (H : Heap) (locs : List Loc) (ls : Array Slot), va_P (dC, dI) vwCl (W_Y cY b n x) H → va_D A (W_Y cY b n x) → va_S A s.heap H locs → lv_has ls 3 [(0, .ref b), (1, .int p1), (2, .int p2)] → W p l e rmJ7_copyOfRange_39247 s m args below meth c H locs 0 0 Q (F0 m 10 ls [])) (by
    intro hw H locs ls hP hD hS hl
    refine lv_aload_n hx hb dJ7_copyOfRange_39247_10 rfl (lv_at hl 0 rfl) ?_
    refine lv_iload_n hx hb dJ7_copyOfRange_39247_11 rfl (lv_at hl 1 rfl) ?_
    refine lv_iload_n hx hb dJ7_copyOfRange_39247_12 rfl (lv_at hl 2 rfl) ?_
    refine g_cr (g_J.plain (W2 := fun kd2 : (Nat × (Nat → Int32) × Nat) => ((W_Y cY b n x) ++ [(kd2.1, .inl (cY, (kd2.2.2), .inl (kd2.2.1)))])) [] [0] [] [0, 1] rfl (by decide) rfl (by decide) (by decide) (fun _ => rfl) (by decide)) [0] hK hP hD hS hA rfl (fun hPc hDc hKc hFc => va_runS (As := [.ref b, .int p1, .int p2]) (rest := []) ⟨hx, hb, hml, hown, hts⟩ (t_J7_copyOfRangeByte_39247 l dC dI cY b n H.size x  p1 p2 _ hw) (va_cwS 3 hts gJ7_copyOfRange_39247_J7_copyOfRangeByte_39247 rfl rfl rfl (by decide +kernel) ⟨Nat.le_of_ble_eq_true rfl, Nat.le_of_ble_eq_true rfl⟩) (g_pS g_Tb hPc hDc hKc (fun _ _ _ => trivial)) rfl rfl hl.1 rfl (lv_room (Nat.le_of_ble_eq_true rfl)) dJ7_copyOfRange_39247_13 ⟨Nat.le_of_ble_eq_true rfl, Nat.le_of_ble_eq_true rfl⟩) (fun kd2 H locs hw hP hD hS => ?_)
    refine W.widen (k := 1) (n := 40) (Nat.le_of_ble_eq_true rfl) (Nat.le_of_ble_eq_true rfl) ?_
    replace hP : va_P (dC, dI) vwCl ((W_Y cY b n x) ++ [(kd2.1, .inl (cY, (kd2.2.2), .inl (kd2.2.1)))]) H := hP
    replace hD : va_D A ((W_Y cY b n x) ++ [(kd2.1, .inl (cY, (kd2.2.2), .inl (kd2.2.1)))]) := hD
    exact hret (u := (kd2.1, kd2.2.1, kd2.2.2)) dJ7_copyOfRange_39247_16 hK hP hD hS hw)
  refine lv_if_ne (tgt := 10) hx hb dJ7_copyOfRange_39247_1 (by decide) (fun hc4 => ?_) (fun hc4 => ?_)
  · replace hw := hw.1 hc4
    exact hw H locs ls hP hD hS (lv_sub hl [0, 1, 2] rfl)
  · replace hw := hw.2 hc4
    refine lv_iload_n hx hb dJ7_copyOfRange_39247_4 rfl (lv_at hl 2 rfl) ?_
    refine lv_aload_n hx hb dJ7_copyOfRange_39247_5 rfl (lv_at hl 0 rfl) ?_
    refine va_alen hx hb hK hP 0 0 rfl rfl (v := (nI n)) rfl dJ7_copyOfRange_39247_6 ?_
    refine lv_icmp_eq (tgt := 17) hx hb dJ7_copyOfRange_39247_7 (by decide) (fun hc5 => ?_) (fun hc5 => ?_)
    · replace hw := hw.1 hc5
      refine lv_aload_n hx hb dJ7_copyOfRange_39247_17 rfl (lv_at hl 0 rfl) ?_
      exact hw.elim
    · replace hw := hw.2 hc5
      exact hw H locs ls hP hD hS (lv_sub hl [0, 1, 2] rfl)

def w_J5_getValue_6d5f1  (bv : Nat) (bm : Nat) (ml : Int32) (cn : Int32) (bt : Nat → Int32)   (Q : Unit → Prop) : Prop := Q ()
abbrev rmJ5_getValue_6d5f1 : Room := { frames := 0, cells := 0, slots := 0, locals := 0 }
set_option maxHeartbeats 4000000 in
set_option maxRecDepth 100000 in
theorem t_J5_getValue_6d5f1 (l : Launch) (dC : Nat → ClassId) (dI : Nat → Nat → Nat) (adK : Nat → Nat) (adV : Nat → Nat) (cY : ClassId) (h : Nat) (sz : Nat) (bv : Nat) (bm : Nat) (ml : Int32) (cn : Int32) (bt : Nat → Int32)    (Q0 : Unit → Prop) (hw : w_J5_getValue_6d5f1  bv bm ml cn bt   Q0) : Met l yJ5_getValue_6d5f1 wsJ5_getValue_6d5f1 rmJ5_getValue_6d5f1 (g_pre (cz adK adV) (dC, dI) vwCl [(cY, .byte)] (W_B adK adV cY h bv bm ml cn bt) sz [.ref h]) (g_qr (dC, dI) vwCl [(cY, .byte)] (fun u : Unit => (W_B adK adV cY h bv bm ml cn bt)) (fun _ => bv) Q0 (va_A (W_B adK adV cY h bv bm ml cn bt) sz)) 0 0 (va_A (W_B adK adV cY h bv bm ml cn bt) sz) := by
  refine g_startr (Or.inr ⟨_, rfl⟩) (by decide) rfl (Nat.le_of_ble_eq_true rfl) ?_
  intro p e s m args below meth c A Q ls hx hb hml hown hts hin hK hP hD hA hS hZ hret hl
  obtain ⟨H, eH⟩ : ∃ H : Heap, H = s.heap := ⟨_, rfl⟩
  obtain ⟨locs, eL⟩ : ∃ L : List Loc, L = [] := ⟨_, rfl⟩
  have hS : va_S A s.heap H locs := by rw [eH, eL]; exact hS
  rw [← eH] at hP
  suffices hg : W p l e rmJ5_getValue_6d5f1 s m args below meth c H locs 0 0 Q (F0 m 0 ls []) by rw [eH, eL] at hg; exact hg
  clear eH eL
  replace hl : lv_has ls 1 [(0, .ref h)] := hl
  have hf15 := hts (.fieldLink RJ5 15 "java/lang/AbstractStringBuilder" "value" "[B") (by decide +kernel)
  have hiJ4 : ∀ w ∈ u_ws RJ4 TJ4 4, w ∈ wsJ5_getValue_6d5f1 := fun w h => List.mem_cons_of_mem _ (List.mem_append_right _ h)
  unfold w_J5_getValue_6d5f1 at hw
  refine lv_aload_n hx hb dJ5_getValue_6d5f1_0 rfl (lv_at hl 0 rfl) ?_
  refine va_get (D := (dC, dI)) (ci := 1) (v := .ref bv) (C := RJ4) (T := TJ4) (N := 4) hx hb hts hiJ4 hown hK hP 0 rfl rfl 0 (by decide) hf15 (fun _ h9 => h9) rfl dJ5_getValue_6d5f1_1 ?_
  exact hret (u := ()) dJ5_getValue_6d5f1_4 hK hP hD hS hw

def w_J0_init_db425  (bv : Nat) (bm : Nat) (ml : Int32) (cn : Int32) (bt : Nat → Int32)   (Q : (Nat × (Nat → Int32) × Nat) → Prop) : Prop := w_J5_getValue_6d5f1 bv bm ml cn bt   (fun (kd1 : Unit) => w_J4_length_8abf5 bv bm ml cn bt   (fun (r3 : Int32) (u2 : Unit) => w_J5_isLatin1_aae02 bv bm ml cn bt   (fun (r5 : Int32) (u4 : Unit) => (((r5 = 0) → False) ∧ (¬ (r5 = 0) → w_J7_copyOfRange_39247 bm bt  (0 : Int32) r3 (fun (kd7 : (Nat × (Nat → Int32) × Nat)) => Q ((kd7.1), kd7.2.1, kd7.2.2)))))))
abbrev rmJ0_init_db425 : Room := { frames := 3, cells := 1, slots := 40, locals := 106 }
set_option maxHeartbeats 4000000 in
set_option maxRecDepth 100000 in
theorem t_J0_init_db425 (l : Launch) (dC : Nat → ClassId) (dI : Nat → Nat → Nat) (adK : Nat → Nat) (adV : Nat → Nat) (cY : ClassId) (h : Nat) (g : Nat) (sz : Nat) (bv : Nat) (bm : Nat) (ml : Int32) (cn : Int32) (bt : Nat → Int32)    (Q0 : (Nat × (Nat → Int32) × Nat) → Prop) (hw : w_J0_init_db425  bv bm ml cn bt   Q0) : Met l yJ0_init_db425 wsJ0_init_db425 rmJ0_init_db425 (g_pre (cz adK adV) (dC, dI) vwCl [(cY, .byte)] [(h, .inr (0, [.null, .int 0, .int 0, .int 0])), (g, .inr (1, [.ref bv, .int (0 : Int32), .int ml, .int cn])), (bv, .inl (cY, bm, .inl bt))] sz [.ref h, .ref g, .null]) (g_qv (dC, dI) vwCl [(cY, .byte)] (fun u : (Nat × (Nat → Int32) × Nat) => [(h, .inr (0, [.ref u.1, .int 0, .int 0, .int 0])), (g, .inr (1, [.ref bv, .int (0 : Int32), .int ml, .int cn])), (bv, .inl (cY, bm, .inl bt)), (u.1, .inl (cY, u.2.2, .inl u.2.1))]) Q0 (va_A [(h, .inr (0, [.null, .int 0, .int 0, .int 0])), (g, .inr (1, [.ref bv, .int (0 : Int32), .int ml, .int cn])), (bv, .inl (cY, bm, .inl bt))] sz)) 1 40 (va_A [(h, .inr (0, [.null, .int 0, .int 0, .int 0])), (g, .inr (1, [.ref bv, .int (0 : Int32), .int ml, .int cn])), (bv, .inl (cY, bm, .inl bt))] sz) := by
  refine g_startv (by decide) rfl (Nat.le_of_ble_eq_true rfl) ?_
  intro p e s m args below meth c A Q ls hx hb hml hown hts hin hK hP hD hA hS hZ hret hl
  obtain ⟨H, eH⟩ : ∃ H : Heap, H = s.heap := ⟨_, rfl⟩
  obtain ⟨locs, eL⟩ : ∃ L : List Loc, L = [] := ⟨_, rfl⟩
  have hS : va_S A s.heap H locs := by rw [eH, eL]; exact hS
  rw [← eH] at hP
  suffices hg : W p l e rmJ0_init_db425 s m args below meth c H locs 0 0 Q (F0 m 0 ls []) by rw [eH, eL] at hg; exact hg
  clear eH eL
  replace hl : lv_has ls 5 [(0, .ref h), (1, .ref g), (2, .null)] := hl
  have ol1 := hts (.methodLink RJ0 1 objectInit) (by decide +kernel)
  have oiM := hts (.instanceMethod objectInit) (by decide +kernel)
  have oiC := hts (.code objectInit ⟨#[0xb1]⟩ 1 none) (by decide +kernel)
  have bo549 := (show Cond.code yJ5_length_8abf5 cJ5_length_8abf5 1 (some .int) ∈ wsJ0_init_db425 by decide +kernel)
  have hf15 := hts (.fieldLink RJ0 15 "java/lang/String" "coder" "B") (by decide +kernel)
  have hiJ0 : ∀ w ∈ u_ws RJ0 TJ0 4, w ∈ wsJ0_init_db425 := fun w h => List.mem_cons_of_mem _ (List.mem_append_left _ (List.mem_append_right _ h))
  have hf9 := hts (.fieldLink RJ0 9 "java/lang/String" "value" "[B") (by decide +kernel)
  unfold w_J0_init_db425 at hw
  refine lv_aload_n hx hb dJ0_init_db425_0 rfl (lv_at hl 0 rfl) ?_
  refine W.objInit hx hb hown ol1 oiM oiC rfl (by rw [hml]; exact hl.1) rfl dJ0_init_db425_1 (Nat.le_of_ble_eq_true rfl) (Nat.le_of_ble_eq_true rfl) ?_
  refine W.eq (g2 := F0 m 4 ls []) rfl ?_
  refine lv_aload_n hx hb dJ0_init_db425_4 rfl (lv_at hl 1 rfl) ?_
  refine g_cr (g_J.plain (W2 := fun kd1 : Unit => [(h, .inr (0, [.null, .int 0, .int 0, .int 0])), (g, .inr (1, [.ref bv, .int (0 : Int32), .int ml, .int cn])), (bv, .inl (cY, bm, .inl bt))]) [(h, .inr (0, [.null, .int 0, .int 0, .int 0]))] [1, 2] [0] [0, 1, 2] rfl (by decide) rfl (by decide) (by decide) (fun _ => rfl) (by decide)) [0] hK hP hD hS hA rfl (fun hPc hDc hKc hFc => va_runU (As := []) (rest := []) ⟨hx, hb, hml, hown, hts⟩ (t_J5_getValue_6d5f1 l dC dI adK adV cY g H.size bv bm ml cn bt   _ hw) (va_cwU 0 hts gJ0_init_db425_J5_getValue_6d5f1_u552J4 rfl rfl rfl rfl (by decide +kernel) ⟨Nat.le_of_ble_eq_true rfl, Nat.le_of_ble_eq_true rfl⟩) (g_pV czb (q0 := 0) rfl rfl hPc hDc hKc (czc hZ hS hFc)) rfl rfl hl.1 rfl (lv_room (Nat.le_of_ble_eq_true rfl)) dJ0_init_db425_5 ⟨Nat.le_of_ble_eq_true rfl, Nat.le_of_ble_eq_true rfl⟩) (fun kd1 H locs hw hP hD hS => ?_)
  replace hP : va_P (dC, dI) vwCl [(h, .inr (0, [.null, .int 0, .int 0, .int 0])), (g, .inr (1, [.ref bv, .int (0 : Int32), .int ml, .int cn])), (bv, .inl (cY, bm, .inl bt))] H := hP
  replace hD : va_D A [(h, .inr (0, [.null, .int 0, .int 0, .int 0])), (g, .inr (1, [.ref bv, .int (0 : Int32), .int ml, .int cn])), (bv, .inl (cY, bm, .inl bt))] := hD
  refine lv_astore_n (lv' := [(3, .ref bv), (0, .ref h), (1, .ref g), (2, .null)]) hx hb dJ0_init_db425_8 rfl hl (by decide) rfl (fun ls hl => ?_)
  refine lv_aload_n hx hb dJ0_init_db425_9 rfl (lv_at hl 2 rfl) ?_
  refine g_ci (g_J.plain (W2 := fun u2 : Unit => [(h, .inr (0, [.null, .int 0, .int 0, .int 0])), (g, .inr (1, [.ref bv, .int (0 : Int32), .int ml, .int cn])), (bv, .inl (cY, bm, .inl bt))]) [(h, .inr (0, [.null, .int 0, .int 0, .int 0]))] [1, 2] [0] [0, 1, 2] rfl (by decide) rfl (by decide) (by decide) (fun _ => rfl) (by decide)) [0] hK hP hD hS hA rfl (fun hPc hDc hKc hFc => va_runU (As := []) (rest := []) ⟨hx, hb, hml, hown, hts⟩ (t_J4_length_8abf5 l dC dI adK adV cY g H.size bv bm ml cn bt   _ hw) (va_cwO 0 hts gJ0_init_db425_J4_length_8abf5_u549J4 rfl rfl rfl bo549 (by decide +kernel) ⟨Nat.le_of_ble_eq_true rfl, Nat.le_of_ble_eq_true rfl⟩) (g_pV czb (q0 := 0) rfl rfl hPc hDc hKc (czc hZ hS hFc)) rfl rfl hl.1 rfl (lv_room (Nat.le_of_ble_eq_true rfl)) dJ0_init_db425_10 ⟨Nat.le_of_ble_eq_true rfl, Nat.le_of_ble_eq_true rfl⟩) (fun r3 u2 H locs hw hP hD hS => ?_)
  replace hP : va_P (dC, dI) vwCl [(h, .inr (0, [.null, .int 0, .int 0, .int 0])), (g, .inr (1, [.ref bv, .int (0 : Int32), .int ml, .int cn])), (bv, .inl (cY, bm, .inl bt))] H := hP
  replace hD : va_D A [(h, .inr (0, [.null, .int 0, .int 0, .int 0])), (g, .inr (1, [.ref bv, .int (0 : Int32), .int ml, .int cn])), (bv, .inl (cY, bm, .inl bt))] := hD
  refine lv_istore (lv' := [(4, .int r3), (3, .ref bv), (0, .ref h), (1, .ref g), (2, .null)]) hx hb dJ0_init_db425_13 hl (by decide) rfl (fun ls hl => ?_)
  refine lv_aload_n hx hb dJ0_init_db425_15 rfl (lv_at hl 3 rfl) ?_
  refine g_ci (g_J.plain (W2 := fun u4 : Unit => [(h, .inr (0, [.null, .int 0, .int 0, .int 0])), (g, .inr (1, [.ref bv, .int (0 : Int32), .int ml, .int cn])), (bv, .inl (cY, bm, .inl bt))]) [(h, .inr (0, [.null, .int 0, .int 0, .int 0]))] [1, 2] [0] [0, 1, 2] rfl (by decide) rfl (by decide) (by decide) (fun _ => rfl) (by decide)) [0] hK hP hD hS hA rfl (fun hPc hDc hKc hFc => va_runU (As := []) (rest := []) ⟨hx, hb, hml, hown, hts⟩ (t_J5_isLatin1_aae02 l dC dI adK adV cY g H.size bv bm ml cn bt   _ hw) (va_cwU 0 hts gJ0_init_db425_J5_isLatin1_aae02_u1047J4 rfl rfl rfl rfl (by decide +kernel) ⟨Nat.le_of_ble_eq_true rfl, Nat.le_of_ble_eq_true rfl⟩) (g_pV czb (q0 := 0) rfl rfl hPc hDc hKc (czc hZ hS hFc)) rfl rfl hl.1 rfl (lv_room (Nat.le_of_ble_eq_true rfl)) dJ0_init_db425_16 ⟨Nat.le_of_ble_eq_true rfl, Nat.le_of_ble_eq_true rfl⟩) (fun r5 u4 H locs hw hP hD hS => ?_)
  replace hP : va_P (dC, dI) vwCl [(h, .inr (0, [.null, .int 0, .int 0, .int 0])), (g, .inr (1, [.ref bv, .int (0 : Int32), .int ml, .int cn])), (bv, .inl (cY, bm, .inl bt))] H := hP
  replace hD : va_D A [(h, .inr (0, [.null, .int 0, .int 0, .int 0])), (g, .inr (1, [.ref bv, .int (0 : Int32), .int ml, .int cn])), (bv, .inl (cY, bm, .inl bt))] := hD
  refine lv_if_eq (tgt := 41) hx hb dJ0_init_db425_19 (by decide) (fun hc6 => ?_) (fun hc6 => ?_)
  · replace hw := hw.1 hc6
    exact hw.elim
  · replace hw := hw.2 hc6
    refine lv_aload_n hx hb dJ0_init_db425_22 rfl (lv_at hl 2 rfl) ?_
    refine lv_iconst (v := 0) hx hb dJ0_init_db425_23 (by decide) ?_
    refine va_putF (D := (dC, dI)) (ci := 0) (v := .int (0 : Int32)) (ty := (.byte)) (C := RJ0) (T := TJ0) (N := 4) hx hb hts hiJ0 tyJ0 tyJ0_ok nmJ0 hown hK hP hD hS 0 rfl rfl 1 (by decide) hf15 (fun _ h9 => h9) rfl hin rfl (by decide +kernel) rfl rfl (Nat.le_of_ble_eq_true rfl) dJ0_init_db425_24 (fun H locs hP hD hS => ?_)
    replace hP : va_P (dC, dI) vwCl [(h, .inr (0, [.null, .int (0 : Int32), .int 0, .int 0])), (g, .inr (1, [.ref bv, .int (0 : Int32), .int ml, .int cn])), (bv, .inl (cY, bm, .inl bt))] H := hP
    replace hD : va_D A [(h, .inr (0, [.null, .int (0 : Int32), .int 0, .int 0])), (g, .inr (1, [.ref bv, .int (0 : Int32), .int ml, .int cn])), (bv, .inl (cY, bm, .inl bt))] := hD
    refine lv_aload_n hx hb dJ0_init_db425_27 rfl (lv_at hl 2 rfl) ?_
    refine lv_aload_n hx hb dJ0_init_db425_28 rfl (lv_at hl 1 rfl) ?_
    refine lv_iconst (v := 0) hx hb dJ0_init_db425_29 (by decide) ?_
    refine lv_iload hx hb dJ0_init_db425_30 (lv_at hl 0 rfl) ?_
    refine g_cr (g_J.plain (W2 := fun kd7 : (Nat × (Nat → Int32) × Nat) => [(h, .inr (0, [.null, .int (0 : Int32), .int 0, .int 0])), (g, .inr (1, [.ref bv, .int (0 : Int32), .int ml, .int cn])), (bv, .inl (cY, bm, .inl bt)), (kd7.1, .inl (cY, (kd7.2.2), .inl (kd7.2.1)))]) [(h, .inr (0, [.null, .int (0 : Int32), .int 0, .int 0])), (g, .inr (1, [.ref bv, .int (0 : Int32), .int ml, .int cn]))] [2] [0, 1] [0, 1, 2, 3] rfl (by decide) rfl (by decide) (by decide) (fun _ => rfl) (by decide)) [0] hK hP hD hS hA rfl (fun hPc hDc hKc hFc => va_runS (As := [.ref bv, .int (0 : Int32), .int r3]) (rest := [.ref h]) ⟨hx, hb, hml, hown, hts⟩ (t_J7_copyOfRange_39247 l dC dI cY bv bm H.size bt  (0 : Int32) r3 _ hw) (va_cwS 3 hts gJ0_init_db425_J7_copyOfRange_39247 rfl rfl rfl (by decide +kernel) ⟨Nat.le_of_ble_eq_true rfl, Nat.le_of_ble_eq_true rfl⟩) (g_pS g_Tb hPc hDc hKc (fun _ _ _ => trivial)) rfl rfl hl.1 rfl (lv_room (Nat.le_of_ble_eq_true rfl)) dJ0_init_db425_32 ⟨Nat.le_of_ble_eq_true rfl, Nat.le_of_ble_eq_true rfl⟩) (fun kd7 H locs hw hP hD hS => ?_)
    refine W.widen (k := 1) (n := 40) (Nat.le_of_ble_eq_true rfl) (Nat.le_of_ble_eq_true rfl) ?_
    replace hP : va_P (dC, dI) vwCl [(h, .inr (0, [.null, .int (0 : Int32), .int 0, .int 0])), (g, .inr (1, [.ref bv, .int (0 : Int32), .int ml, .int cn])), (bv, .inl (cY, bm, .inl bt)), (kd7.1, .inl (cY, (kd7.2.2), .inl (kd7.2.1)))] H := hP
    replace hD : va_D A [(h, .inr (0, [.null, .int (0 : Int32), .int 0, .int 0])), (g, .inr (1, [.ref bv, .int (0 : Int32), .int ml, .int cn])), (bv, .inl (cY, bm, .inl bt)), (kd7.1, .inl (cY, (kd7.2.2), .inl (kd7.2.1)))] := hD
    refine va_putF (D := (dC, dI)) (ci := 0) (v := .ref (kd7.1)) (ty := (.array (.byte))) (C := RJ0) (T := TJ0) (N := 4) hx hb hts hiJ0 tyJ0 tyJ0_ok nmJ0 hown hK hP hD hS 0 rfl rfl 0 (by decide) hf9 (fun _ h9 => h9) rfl hin rfl (by decide +kernel) rfl rfl (Nat.le_of_ble_eq_true rfl) dJ0_init_db425_35 (fun H locs hP hD hS => ?_)
    replace hP : va_P (dC, dI) vwCl [(h, .inr (0, [.ref (kd7.1), .int (0 : Int32), .int 0, .int 0])), (g, .inr (1, [.ref bv, .int (0 : Int32), .int ml, .int cn])), (bv, .inl (cY, bm, .inl bt)), (kd7.1, .inl (cY, (kd7.2.2), .inl (kd7.2.1)))] H := hP
    replace hD : va_D A [(h, .inr (0, [.ref (kd7.1), .int (0 : Int32), .int 0, .int 0])), (g, .inr (1, [.ref bv, .int (0 : Int32), .int ml, .int cn])), (bv, .inl (cY, bm, .inl bt)), (kd7.1, .inl (cY, (kd7.2.2), .inl (kd7.2.1)))] := hD
    refine lv_goto (tgt := 97) hx hb dJ0_init_db425_38 (by decide) ?_
    exact hret dJ0_init_db425_97 hK hP hD hS hw

def w_J0_init_81219  (bv : Nat) (bm : Nat) (ml : Int32) (cn : Int32) (bt : Nat → Int32)   (Q : (Nat × (Nat → Int32) × Nat) → Prop) : Prop := w_J0_init_db425 bv bm ml cn bt   (fun (u1 : (Nat × (Nat → Int32) × Nat)) => Q ((u1.1), (u1.2.1), (u1.2.2)))
abbrev rmJ0_init_81219 : Room := { frames := 4, cells := 1, slots := 40, locals := 130 }
set_option maxHeartbeats 4000000 in
set_option maxRecDepth 100000 in
theorem t_J0_init_81219 (l : Launch) (dC : Nat → ClassId) (dI : Nat → Nat → Nat) (adK : Nat → Nat) (adV : Nat → Nat) (cY : ClassId) (h : Nat) (g : Nat) (sz : Nat) (bv : Nat) (bm : Nat) (ml : Int32) (cn : Int32) (bt : Nat → Int32)    (Q0 : (Nat × (Nat → Int32) × Nat) → Prop) (hw : w_J0_init_81219  bv bm ml cn bt   Q0) : Met l yJ0_init_81219 wsJ0_init_81219 rmJ0_init_81219 (g_pre (cz adK adV) (dC, dI) vwCl [(cY, .byte)] [(h, .inr (0, [.null, .int 0, .int 0, .int 0])), (g, .inr (1, [.ref bv, .int (0 : Int32), .int ml, .int cn])), (bv, .inl (cY, bm, .inl bt))] sz [.ref h, .ref g]) (g_qv (dC, dI) vwCl [(cY, .byte)] (fun u : (Nat × (Nat → Int32) × Nat) => [(h, .inr (0, [.ref u.1, .int 0, .int 0, .int 0])), (g, .inr (1, [.ref bv, .int (0 : Int32), .int ml, .int cn])), (bv, .inl (cY, bm, .inl bt)), (u.1, .inl (cY, u.2.2, .inl u.2.1))]) Q0 (va_A [(h, .inr (0, [.null, .int 0, .int 0, .int 0])), (g, .inr (1, [.ref bv, .int (0 : Int32), .int ml, .int cn])), (bv, .inl (cY, bm, .inl bt))] sz)) 1 40 (va_A [(h, .inr (0, [.null, .int 0, .int 0, .int 0])), (g, .inr (1, [.ref bv, .int (0 : Int32), .int ml, .int cn])), (bv, .inl (cY, bm, .inl bt))] sz) := by
  refine g_startv (by decide) rfl (Nat.le_of_ble_eq_true rfl) ?_
  intro p e s m args below meth c A Q ls hx hb hml hown hts hin hK hP hD hA hS hZ hret hl
  obtain ⟨H, eH⟩ : ∃ H : Heap, H = s.heap := ⟨_, rfl⟩
  obtain ⟨locs, eL⟩ : ∃ L : List Loc, L = [] := ⟨_, rfl⟩
  have hS : va_S A s.heap H locs := by rw [eH, eL]; exact hS
  rw [← eH] at hP
  suffices hg : W p l e rmJ0_init_81219 s m args below meth c H locs 0 0 Q (F0 m 0 ls []) by rw [eH, eL] at hg; exact hg
  clear eH eL
  replace hl : lv_has ls 2 [(0, .ref h), (1, .ref g)] := hl
  have iniRJ0 := hts (.initialized RJ0) (by decide +kernel)
  have mk489 := hts (.methodLink RJ0 489 yJ0_init_db425) (by decide +kernel)
  have imJ0_init_db425 := hts (.instanceMethod yJ0_init_db425) (by decide +kernel)
  unfold w_J0_init_81219 at hw
  refine lv_aload_n hx hb dJ0_init_81219_0 rfl (lv_at hl 0 rfl) ?_
  refine lv_aload_n hx hb dJ0_init_81219_1 rfl (lv_at hl 1 rfl) ?_
  refine lv_null hx hb dJ0_init_81219_2 ?_
  refine g_cv (g_J.plain (W2 := fun u1 : (Nat × (Nat → Int32) × Nat) => [(h, .inr (0, [.ref (u1.1), .int 0, .int 0, .int 0])), (g, .inr (1, [.ref bv, .int (0 : Int32), .int ml, .int cn])), (bv, .inl (cY, bm, .inl bt)), ((u1.1), .inl (cY, (u1.2.2), .inl (u1.2.1)))]) [] [0, 1, 2] [] [0, 1, 2, 3] rfl (by decide) rfl (by decide) (by decide) (fun _ => rfl) (by decide)) [0] hK hP hD hS hA rfl (fun hPc hDc hKc hFc => va_runI (As := [.ref g, .null]) (rest := []) ⟨hx, hb, hml, hown, hts⟩ (t_J0_init_db425 l dC dI adK adV cY h g H.size bv bm ml cn bt   _ hw) (cwI 2 hts gJ0_init_81219_J0_init_db425 rfl rfl rfl iniRJ0 mk489 imJ0_init_db425 rfl (by decide +kernel) ⟨Nat.le_of_ble_eq_true rfl, Nat.le_of_ble_eq_true rfl⟩) (g_pS czb (As := .ref h :: [.ref g, .null]) hPc hDc hKc (czc hZ hS hFc)) rfl rfl hl.1 rfl (lv_room (Nat.le_of_ble_eq_true rfl)) dJ0_init_81219_3 ⟨Nat.le_of_ble_eq_true rfl, Nat.le_of_ble_eq_true rfl⟩) (fun u1 H locs hw hP hD hS => ?_)
  refine W.widen (k := 1) (n := 40) (Nat.le_of_ble_eq_true rfl) (Nat.le_of_ble_eq_true rfl) ?_
  replace hP : va_P (dC, dI) vwCl [(h, .inr (0, [.ref (u1.1), .int 0, .int 0, .int 0])), (g, .inr (1, [.ref bv, .int (0 : Int32), .int ml, .int cn])), (bv, .inl (cY, bm, .inl bt)), ((u1.1), .inl (cY, (u1.2.2), .inl (u1.2.1)))] H := hP
  replace hD : va_D A [(h, .inr (0, [.ref (u1.1), .int 0, .int 0, .int 0])), (g, .inr (1, [.ref bv, .int (0 : Int32), .int ml, .int cn])), (bv, .inl (cY, bm, .inl bt)), ((u1.1), .inl (cY, (u1.2.2), .inl (u1.2.1)))] := hD
  exact hret dJ0_init_81219_6 hK hP hD hS hw

def w_J4_toString_0e30d  (bv : Nat) (bm : Nat) (ml : Int32) (cn : Int32) (bt : Nat → Int32)   (Q : (Nat × Nat × (Nat → Int32) × Nat) → Prop) : Prop := ∀ q1 : Nat, w_J0_init_81219 bv bm ml cn bt   (fun (u2 : (Nat × (Nat → Int32) × Nat)) => Q (q1, u2.1, (u2.2.1), (u2.2.2)))
abbrev rmJ4_toString_0e30d : Room := { frames := 5, cells := 2, slots := 44, locals := 151 }
set_option maxHeartbeats 4000000 in
set_option maxRecDepth 100000 in
theorem t_J4_toString_0e30d (l : Launch) (dC : Nat → ClassId) (dI : Nat → Nat → Nat) (adK : Nat → Nat) (adV : Nat → Nat) (cY : ClassId) (h : Nat) (sz : Nat) (bv : Nat) (bm : Nat) (ml : Int32) (cn : Int32) (bt : Nat → Int32)    (Q0 : (Nat × Nat × (Nat → Int32) × Nat) → Prop) (hw : w_J4_toString_0e30d  bv bm ml cn bt   Q0) : Met l yJ4_toString_0e30d wsJ4_toString_0e30d rmJ4_toString_0e30d (g_pre (cz adK adV) (dC, dI) vwCl [(cY, .byte)] (W_B adK adV cY h bv bm ml cn bt) sz [.ref h]) (g_qr (dC, dI) vwCl [(cY, .byte)] (fun u : (Nat × Nat × (Nat → Int32) × Nat) => (W_B adK adV cY h bv bm ml cn bt ++ [(u.1, .inr (0, [.ref u.2.1, .int 0, .int 0, .int 0]))]) ++ [(u.2.1, .inl (cY, u.2.2.2, .inl u.2.2.1))]) (fun u : (Nat × Nat × (Nat → Int32) × Nat) => u.1) Q0 (va_A (W_B adK adV cY h bv bm ml cn bt) sz)) 2 44 (va_A (W_B adK adV cY h bv bm ml cn bt) sz) := by
  refine g_startr (Or.inl ⟨_, rfl⟩) (by decide) rfl (Nat.le_of_ble_eq_true rfl) ?_
  intro p e s m args below meth c A Q ls hx hb hml hown hts hin hK hP hD hA hS hZ hret hl
  obtain ⟨H, eH⟩ : ∃ H : Heap, H = s.heap := ⟨_, rfl⟩
  obtain ⟨locs, eL⟩ : ∃ L : List Loc, L = [] := ⟨_, rfl⟩
  have hS : va_S A s.heap H locs := by rw [eH, eL]; exact hS
  rw [← eH] at hP
  suffices hg : W p l e rmJ4_toString_0e30d s m args below meth c H locs 0 0 Q (F0 m 0 ls []) by rw [eH, eL] at hg; exact hg
  clear eH eL
  replace hl : lv_has ls 1 [(0, .ref h)] := hl
  have hiJ0 : ∀ w ∈ u_ws RJ0 TJ0 4, w ∈ wsJ4_toString_0e30d := fun w h => List.mem_cons_of_mem _ (List.mem_append_left _ (List.mem_append_right _ h))
  have cl18 := hts (.classLink RJ4 18 RJ0) (by decide +kernel)
  have inJ0 := hts (.instantiable RJ0 4) (by decide +kernel)
  have iniRJ0 := hts (.initialized RJ0) (by decide +kernel)
  have mk137 := hts (.methodLink RJ4 137 yJ0_init_81219) (by decide +kernel)
  have imJ0_init_81219 := hts (.instanceMethod yJ0_init_81219) (by decide +kernel)
  unfold w_J4_toString_0e30d at hw
  refine va_new (ci := 0) (fs := [.null, .int 0, .int 0, .int 0]) (C := RJ0) (T := TJ0) (N := 4) hx hb hts hiJ0 tyJ0 tyJ0_ok hown cl18 inJ0 iniRJ0 hK hP hD hS hA rfl (fun j hj => by rcases (show j = 0 ∨ j = 1 ∨ j = 2 ∨ j = 3 by omega) with rfl | rfl | rfl | rfl <;> rfl) (Nat.le_of_ble_eq_true rfl) (Nat.le_of_ble_eq_true rfl) dJ4_toString_0e30d_0 (fun q1 H hP hD hS => ?_)
  replace hw := hw q1
  refine W.widen (k := 1) (n := 4) (Nat.le_of_ble_eq_true rfl) (Nat.le_of_ble_eq_true rfl) ?_
  replace hP : va_P (dC, dI) vwCl ((W_B adK adV cY h bv bm ml cn bt) ++ [(q1, .inr (0, [.null, .int 0, .int 0, .int 0]))]) H := hP
  replace hD : va_D A ((W_B adK adV cY h bv bm ml cn bt) ++ [(q1, .inr (0, [.null, .int 0, .int 0, .int 0]))]) := hD
  refine lv_dup hx hb dJ4_toString_0e30d_3 rfl ?_
  refine lv_aload_n hx hb dJ4_toString_0e30d_4 rfl (lv_at hl 0 rfl) ?_
  refine g_cv (g_J.plain (W2 := fun u2 : (Nat × (Nat → Int32) × Nat) => (((W_B adK adV cY h bv bm ml cn bt) ++ [(q1, .inr (0, [.ref (u2.1), .int 0, .int 0, .int 0]))]) ++ [((u2.1), .inl (cY, (u2.2.2), .inl (u2.2.1)))])) [] [2, 0, 1] [] [1, 2, 0, 3] rfl (by decide) rfl (by decide) (by decide) (fun _ => rfl) (by decide)) [0] hK hP hD hS hA rfl (fun hPc hDc hKc hFc => va_runI (As := [.ref h]) (rest := [.ref q1]) ⟨hx, hb, hml, hown, hts⟩ (t_J0_init_81219 l dC dI adK adV cY q1 h H.size bv bm ml cn bt   _ hw) (cwI 1 hts gJ4_toString_0e30d_J0_init_81219 rfl rfl rfl iniRJ0 mk137 imJ0_init_81219 rfl (by decide +kernel) ⟨Nat.le_of_ble_eq_true rfl, Nat.le_of_ble_eq_true rfl⟩) (g_pS czb (As := .ref q1 :: [.ref h]) hPc hDc hKc (czc hZ hS hFc)) rfl rfl hl.1 rfl (lv_room (Nat.le_of_ble_eq_true rfl)) dJ4_toString_0e30d_5 ⟨Nat.le_of_ble_eq_true rfl, Nat.le_of_ble_eq_true rfl⟩) (fun u2 H locs hw hP hD hS => ?_)
  refine W.widen (k := 2) (n := 44) (Nat.le_of_ble_eq_true rfl) (Nat.le_of_ble_eq_true rfl) ?_
  replace hP : va_P (dC, dI) vwCl (((W_B adK adV cY h bv bm ml cn bt) ++ [(q1, .inr (0, [.ref (u2.1), .int 0, .int 0, .int 0]))]) ++ [((u2.1), .inl (cY, (u2.2.2), .inl (u2.2.1)))]) H := hP
  replace hD : va_D A (((W_B adK adV cY h bv bm ml cn bt) ++ [(q1, .inr (0, [.ref (u2.1), .int 0, .int 0, .int 0]))]) ++ [((u2.1), .inl (cY, (u2.2.2), .inl (u2.2.1)))]) := hD
  exact hret (u := (q1, u2.1, (u2.2.1), (u2.2.2))) dJ4_toString_0e30d_8 hK hP hD hS hw

def w_X4_length  (bv : Nat) (bm : Nat) (ml : Int32) (cn : Int32) (bt : Nat → Int32)   (Q : Int32 → Unit → Prop) : Prop := w_J4_length_8abf5 bv bm ml cn bt   (fun (r2 : Int32) (u1 : Unit) => Q r2 ())
abbrev rmX4_length : Room := { frames := 2, cells := 0, slots := 0, locals := 40 }
set_option maxHeartbeats 4000000 in
set_option maxRecDepth 100000 in
theorem t_X4_length (l : Launch) (dC : Nat → ClassId) (dI : Nat → Nat → Nat) (adK : Nat → Nat) (adV : Nat → Nat) (cY : ClassId) (h : Nat) (g : Nat) (sz : Nat) (bv : Nat) (bm : Nat) (ml : Int32) (cn : Int32) (bt : Nat → Int32)    (Q0 : Int32 → Unit → Prop) (hw : w_X4_length  bv bm ml cn bt   Q0) : Met l yX4_length wsX4_length rmX4_length (g_pre (cz adK adV) (dC, dI) vwCl [(cY, .byte)] (W_PG adK adV cY h g bv bm ml cn bt) sz [.ref h]) (g_qi (dC, dI) vwCl [(cY, .byte)] (fun u : Unit => (W_PG adK adV cY h g bv bm ml cn bt)) Q0 (va_A (W_PG adK adV cY h g bv bm ml cn bt) sz)) 0 0 (va_A (W_PG adK adV cY h g bv bm ml cn bt) sz) := by
  refine g_starti (by decide) rfl (Nat.le_of_ble_eq_true rfl) ?_
  intro p e s m args below meth c A Q ls hx hb hml hown hts hin hK hP hD hA hS hZ hret hl
  obtain ⟨H, eH⟩ : ∃ H : Heap, H = s.heap := ⟨_, rfl⟩
  obtain ⟨locs, eL⟩ : ∃ L : List Loc, L = [] := ⟨_, rfl⟩
  have hS : va_S A s.heap H locs := by rw [eH, eL]; exact hS
  rw [← eH] at hP
  suffices hg : W p l e rmX4_length s m args below meth c H locs 0 0 Q (F0 m 0 ls []) by rw [eH, eL] at hg; exact hg
  clear eH eL
  replace hl : lv_has ls 1 [(0, .ref h)] := hl
  have hf12 := hts (.fieldLink RX4 12 "NumberPile$Page" "letters" "Ljava/lang/StringBuilder;") (by decide +kernel)
  have hiX4 : ∀ w ∈ u_ws RX4 TX4 1, w ∈ wsX4_length := fun w h => List.mem_cons_of_mem _ (List.mem_append_left _ (List.mem_append_right _ h))
  unfold w_X4_length at hw
  refine lv_aload_n hx hb dX4_length_0 rfl (lv_at hl 0 rfl) ?_
  refine va_get (D := (dC, dI)) (ci := 6) (v := .ref g) (C := RX4) (T := TX4) (N := 1) hx hb hts hiX4 hown hK hP 0 rfl rfl 0 (by decide) hf12 (fun _ h9 => h9) rfl dX4_length_1 ?_
  refine g_ci (g_J.plain (W2 := fun u1 : Unit => (W_PG adK adV cY h g bv bm ml cn bt)) [(h, .inr (6, [.ref g]))] [1, 2] [0] [0, 1, 2] rfl (by decide) rfl (by decide) (by decide) (fun _ => rfl) (by decide)) [0] hK hP hD hS hA rfl (fun hPc hDc hKc hFc => va_runV (As := []) (rest := []) ⟨hx, hb, hml, hown, hts⟩ (t_J4_length_8abf5 l dC dI adK adV cY g H.size bv bm ml cn bt   _ hw) (cwV 0 hts gX4_length_J4_length_8abf5 rfl rfl rfl (by decide +kernel) ⟨Nat.le_of_ble_eq_true rfl, Nat.le_of_ble_eq_true rfl⟩) (g_pV czb (q0 := 0) rfl rfl hPc hDc hKc (czc hZ hS hFc)) rfl rfl hl.1 rfl (lv_room (Nat.le_of_ble_eq_true rfl)) dX4_length_4 ⟨Nat.le_of_ble_eq_true rfl, Nat.le_of_ble_eq_true rfl⟩) (fun r2 u1 H locs hw hP hD hS => ?_)
  replace hP : va_P (dC, dI) vwCl (W_PG adK adV cY h g bv bm ml cn bt) H := hP
  replace hD : va_D A (W_PG adK adV cY h g bv bm ml cn bt) := hD
  exact hret dX4_length_7 hK hP hD hS hw

def w_X4_letterAt  (bv : Nat) (bm : Nat) (ml : Int32) (cn : Int32) (bt : Nat → Int32)  (p0 : Int32) (Q : Int32 → Unit → Prop) : Prop := w_J4_length_8abf5 bv bm ml cn bt   (fun (r2 : Int32) (u1 : Unit) => w_X10_isWithin p0 (0 : Int32) (r2 - (1 : Int32)) (fun (r3 : Int32) => (((r3 = 0) → Q (0 : Int32) ()) ∧ (¬ (r3 = 0) → w_J4_charAt_5068e bv bm ml cn bt  p0 (fun (r6 : Int32) (u5 : Unit) => Q r6 ())))))
abbrev rmX4_letterAt : Room := { frames := 4, cells := 0, slots := 0, locals := 88 }
set_option maxHeartbeats 4000000 in
set_option maxRecDepth 100000 in
theorem t_X4_letterAt (l : Launch) (dC : Nat → ClassId) (dI : Nat → Nat → Nat) (adK : Nat → Nat) (adV : Nat → Nat) (cY : ClassId) (h : Nat) (g : Nat) (sz : Nat) (bv : Nat) (bm : Nat) (ml : Int32) (cn : Int32) (bt : Nat → Int32)   (p0 : Int32) (Q0 : Int32 → Unit → Prop) (hw : w_X4_letterAt  bv bm ml cn bt  p0 Q0) : Met l yX4_letterAt wsX4_letterAt rmX4_letterAt (g_pre (cz adK adV) (dC, dI) vwCl [(cY, .byte)] (W_PG adK adV cY h g bv bm ml cn bt) sz [.ref h, .int p0]) (g_qi (dC, dI) vwCl [(cY, .byte)] (fun u : Unit => (W_PG adK adV cY h g bv bm ml cn bt)) Q0 (va_A (W_PG adK adV cY h g bv bm ml cn bt) sz)) 0 0 (va_A (W_PG adK adV cY h g bv bm ml cn bt) sz) := by
  refine g_starti (by decide) rfl (Nat.le_of_ble_eq_true rfl) ?_
  intro p e s m args below meth c A Q ls hx hb hml hown hts hin hK hP hD hA hS hZ hret hl
  obtain ⟨H, eH⟩ : ∃ H : Heap, H = s.heap := ⟨_, rfl⟩
  obtain ⟨locs, eL⟩ : ∃ L : List Loc, L = [] := ⟨_, rfl⟩
  have hS : va_S A s.heap H locs := by rw [eH, eL]; exact hS
  rw [← eH] at hP
  suffices hg : W p l e rmX4_letterAt s m args below meth c H locs 0 0 Q (F0 m 0 ls []) by rw [eH, eL] at hg; exact hg
  clear eH eL
  replace hl : lv_has ls 2 [(0, .ref h), (1, .int p0)] := hl
  have hf12 := hts (.fieldLink RX4 12 "NumberPile$Page" "letters" "Ljava/lang/StringBuilder;") (by decide +kernel)
  have hiX4 : ∀ w ∈ u_ws RX4 TX4 1, w ∈ wsX4_letterAt := fun w h => List.mem_cons_of_mem _ (List.mem_append_left _ (List.mem_append_right _ h))
  have nm22 := hZ.1 _ (List.mem_of_getElem? (i := 21) (rfl : cz_nest[21]? = some (.methodLinkNest RX4 22 yX10_isWithin "NumberPile")))
  have iniRX10 := hts (.initialized RX10) (by decide +kernel)
  have st22 := hts (.static yX10_isWithin) (by decide +kernel)
  unfold w_X4_letterAt at hw
  refine lv_iload_n hx hb dX4_letterAt_0 rfl (lv_at hl 1 rfl) ?_
  refine lv_iconst (v := 0) hx hb dX4_letterAt_1 (by decide) ?_
  refine lv_aload_n hx hb dX4_letterAt_2 rfl (lv_at hl 0 rfl) ?_
  refine va_get (D := (dC, dI)) (ci := 6) (v := .ref g) (C := RX4) (T := TX4) (N := 1) hx hb hts hiX4 hown hK hP 0 rfl rfl 0 (by decide) hf12 (fun _ h9 => h9) rfl dX4_letterAt_3 ?_
  refine g_ci (g_J.plain (W2 := fun u1 : Unit => (W_PG adK adV cY h g bv bm ml cn bt)) [(h, .inr (6, [.ref g]))] [1, 2] [0] [0, 1, 2] rfl (by decide) rfl (by decide) (by decide) (fun _ => rfl) (by decide)) [0] hK hP hD hS hA rfl (fun hPc hDc hKc hFc => va_runV (As := []) (rest := [.int (0 : Int32), .int p0]) ⟨hx, hb, hml, hown, hts⟩ (t_J4_length_8abf5 l dC dI adK adV cY g H.size bv bm ml cn bt   _ hw) (cwV 0 hts gX4_letterAt_J4_length_8abf5 rfl rfl rfl (by decide +kernel) ⟨Nat.le_of_ble_eq_true rfl, Nat.le_of_ble_eq_true rfl⟩) (g_pV czb (q0 := 0) rfl rfl hPc hDc hKc (czc hZ hS hFc)) rfl rfl hl.1 rfl (lv_room (Nat.le_of_ble_eq_true rfl)) dX4_letterAt_6 ⟨Nat.le_of_ble_eq_true rfl, Nat.le_of_ble_eq_true rfl⟩) (fun r2 u1 H locs hw hP hD hS => ?_)
  replace hP : va_P (dC, dI) vwCl (W_PG adK adV cY h g bv bm ml cn bt) H := hP
  replace hD : va_D A (W_PG adK adV cY h g bv bm ml cn bt) := hD
  refine lv_iconst (v := 1) hx hb dX4_letterAt_9 (by decide) ?_
  refine lv_isub hx hb dX4_letterAt_10 ?_
  refine g_c0 (rest := []) (va_runSN (As := [.int p0, .int (0 : Int32), .int (r2 - (1 : Int32))]) (rest := []) ⟨hx, hb, hml, hown, hts⟩ (t_X10_isWithin l  p0 (0 : Int32) (r2 - (1 : Int32)) _ hw) ⟨va_cnB 3 hts gX4_letterAt_X10_isWithin_n22 rfl rfl rfl nm22 iniRX10 (by decide +kernel) ⟨Nat.le_of_ble_eq_true rfl, Nat.le_of_ble_eq_true rfl⟩, st22, trivial⟩ g_p0S rfl rfl hl.1 rfl (lv_room (Nat.le_of_ble_eq_true rfl)) dX4_letterAt_11 ⟨Nat.le_of_ble_eq_true rfl, Nat.le_of_ble_eq_true rfl⟩) (fun r3 hw => ?_)
  refine lv_if_eq (tgt := 28) hx hb dX4_letterAt_14 (by decide) (fun hc4 => ?_) (fun hc4 => ?_)
  · replace hw := hw.1 hc4
    refine lv_iconst (v := 0) hx hb dX4_letterAt_28 (by decide) ?_
    exact hret dX4_letterAt_29 hK hP hD hS hw
  · replace hw := hw.2 hc4
    refine lv_aload_n hx hb dX4_letterAt_17 rfl (lv_at hl 0 rfl) ?_
    refine va_get (D := (dC, dI)) (ci := 6) (v := .ref g) (C := RX4) (T := TX4) (N := 1) hx hb hts hiX4 hown hK hP 0 rfl rfl 0 (by decide) hf12 (fun _ h9 => h9) rfl dX4_letterAt_18 ?_
    refine lv_iload_n hx hb dX4_letterAt_21 rfl (lv_at hl 1 rfl) ?_
    refine g_ci (g_J.plain (W2 := fun u5 : Unit => (W_PG adK adV cY h g bv bm ml cn bt)) [(h, .inr (6, [.ref g]))] [1, 2] [0] [0, 1, 2] rfl (by decide) rfl (by decide) (by decide) (fun _ => rfl) (by decide)) [0] hK hP hD hS hA rfl (fun hPc hDc hKc hFc => va_runV (As := [.int p0]) (rest := []) ⟨hx, hb, hml, hown, hts⟩ (t_J4_charAt_5068e l dC dI adK adV cY g H.size bv bm ml cn bt  p0 _ hw) (cwV 1 hts gX4_letterAt_J4_charAt_5068e rfl rfl rfl (by decide +kernel) ⟨Nat.le_of_ble_eq_true rfl, Nat.le_of_ble_eq_true rfl⟩) (g_pV czb (q0 := 0) rfl rfl hPc hDc hKc (czc hZ hS hFc)) rfl rfl hl.1 rfl (lv_room (Nat.le_of_ble_eq_true rfl)) dX4_letterAt_22 ⟨Nat.le_of_ble_eq_true rfl, Nat.le_of_ble_eq_true rfl⟩) (fun r6 u5 H locs hw hP hD hS => ?_)
    replace hP : va_P (dC, dI) vwCl (W_PG adK adV cY h g bv bm ml cn bt) H := hP
    replace hD : va_D A (W_PG adK adV cY h g bv bm ml cn bt) := hD
    refine lv_goto (tgt := 29) hx hb dX4_letterAt_25 (by decide) ?_
    exact hret dX4_letterAt_29 hK hP hD hS hw

def w_X4_add  (bv : Nat) (bm : Nat) (ml : Int32) (cn : Int32) (bt : Nat → Int32)  (p0 : Int32) (Q : ((Nat) × (Nat) × (Int32) × (Nat → Int32)) → Prop) : Prop := w_J4_append_cf468 bv bm ml cn bt  p0 (fun (kd1 : ((Nat) × (Nat) × (Int32) × (Nat → Int32))) => Q (kd1.1, kd1.2.1, kd1.2.2.1, kd1.2.2.2))
abbrev rmX4_add : Room := { frames := 6, cells := 1, slots := 40, locals := 152 }
set_option maxHeartbeats 4000000 in
set_option maxRecDepth 100000 in
theorem t_X4_add (l : Launch) (dC : Nat → ClassId) (dI : Nat → Nat → Nat) (adK : Nat → Nat) (adV : Nat → Nat) (cY : ClassId) (h : Nat) (g : Nat) (sz : Nat) (bv : Nat) (bm : Nat) (ml : Int32) (cn : Int32) (bt : Nat → Int32)   (p0 : Int32) (Q0 : ((Nat) × (Nat) × (Int32) × (Nat → Int32)) → Prop) (hw : w_X4_add  bv bm ml cn bt  p0 Q0) : Met l yX4_add wsX4_add rmX4_add (g_pre (cz adK adV) (dC, dI) vwCl [(cY, .byte)] (W_PG adK adV cY h g bv bm ml cn bt) sz [.ref h, .int p0]) (g_qv (dC, dI) vwCl [(cY, .byte)] (fun u : ((Nat) × (Nat) × (Int32) × (Nat → Int32)) => (W_PG adK adV cY h g (u.1) (u.2.1) ml (u.2.2.1) (u.2.2.2))) Q0 (va_A (W_PG adK adV cY h g bv bm ml cn bt) sz)) 1 40 (va_A (W_PG adK adV cY h g bv bm ml cn bt) sz) := by
  refine g_startv (by decide) rfl (Nat.le_of_ble_eq_true rfl) ?_
  intro p e s m args below meth c A Q ls hx hb hml hown hts hin hK hP hD hA hS hZ hret hl
  obtain ⟨H, eH⟩ : ∃ H : Heap, H = s.heap := ⟨_, rfl⟩
  obtain ⟨locs, eL⟩ : ∃ L : List Loc, L = [] := ⟨_, rfl⟩
  have hS : va_S A s.heap H locs := by rw [eH, eL]; exact hS
  rw [← eH] at hP
  suffices hg : W p l e rmX4_add s m args below meth c H locs 0 0 Q (F0 m 0 ls []) by rw [eH, eL] at hg; exact hg
  clear eH eL
  replace hl : lv_has ls 2 [(0, .ref h), (1, .int p0)] := hl
  have hf12 := hts (.fieldLink RX4 12 "NumberPile$Page" "letters" "Ljava/lang/StringBuilder;") (by decide +kernel)
  have hiX4 : ∀ w ∈ u_ws RX4 TX4 1, w ∈ wsX4_add := fun w h => List.mem_cons_of_mem _ (List.mem_append_left _ (List.mem_append_right _ h))
  unfold w_X4_add at hw
  refine lv_aload_n hx hb dX4_add_0 rfl (lv_at hl 0 rfl) ?_
  refine va_get (D := (dC, dI)) (ci := 6) (v := .ref g) (C := RX4) (T := TX4) (N := 1) hx hb hts hiX4 hown hK hP 0 rfl rfl 0 (by decide) hf12 (fun _ h9 => h9) rfl dX4_add_1 ?_
  refine lv_iload_n hx hb dX4_add_4 rfl (lv_at hl 1 rfl) ?_
  refine g_cr (g_J.plain (W2 := fun kd1 : ((Nat) × (Nat) × (Int32) × (Nat → Int32)) => (W_PG adK adV cY h g (kd1.1) (kd1.2.1) ml (kd1.2.2.1) (kd1.2.2.2))) [(h, .inr (6, [.ref g]))] [1, 2] [0] [0, 1, 2] rfl (by decide) rfl (by decide) (by decide) (fun _ => rfl) (by decide)) [0] hK hP hD hS hA rfl (fun hPc hDc hKc hFc => va_runV (As := [.int p0]) (rest := []) ⟨hx, hb, hml, hown, hts⟩ (t_J4_append_cf468 l dC dI adK adV cY g H.size bv bm ml cn bt  p0 _ hw) (cwV 1 hts gX4_add_J4_append_cf468 rfl rfl rfl (by decide +kernel) ⟨Nat.le_of_ble_eq_true rfl, Nat.le_of_ble_eq_true rfl⟩) (g_pV czb (q0 := 0) rfl rfl hPc hDc hKc (czc hZ hS hFc)) rfl rfl hl.1 rfl (lv_room (Nat.le_of_ble_eq_true rfl)) dX4_add_5 ⟨Nat.le_of_ble_eq_true rfl, Nat.le_of_ble_eq_true rfl⟩) (fun kd1 H locs hw hP hD hS => ?_)
  refine W.widen (k := 1) (n := 40) (Nat.le_of_ble_eq_true rfl) (Nat.le_of_ble_eq_true rfl) ?_
  replace hP : va_P (dC, dI) vwCl (W_PG adK adV cY h g (kd1.1) (kd1.2.1) ml (kd1.2.2.1) (kd1.2.2.2)) H := hP
  replace hD : va_D A (W_PG adK adV cY h g (kd1.1) (kd1.2.1) ml (kd1.2.2.1) (kd1.2.2.2)) := hD
  refine lv_pop hx hb dX4_add_8 rfl ?_
  exact hret dX4_add_9 hK hP hD hS hw

def w_X4_clear  (bv : Nat) (bm : Nat) (ml : Int32) (cn : Int32) (bt : Nat → Int32)   (Q : ((Nat) × (Nat) × (Int32) × (Int32) × (Nat → Int32)) → Prop) : Prop := w_J4_setLength_d00df bv bm ml cn bt  (0 : Int32) (fun (u1 : ((Nat) × (Nat) × (Int32) × (Int32) × (Nat → Int32))) => Q (u1.1, u1.2.1, u1.2.2.1, u1.2.2.2.1, u1.2.2.2.2))
abbrev rmX4_clear : Room := { frames := 6, cells := 1, slots := 40, locals := 152 }
set_option maxHeartbeats 4000000 in
set_option maxRecDepth 100000 in
theorem t_X4_clear (l : Launch) (dC : Nat → ClassId) (dI : Nat → Nat → Nat) (adK : Nat → Nat) (adV : Nat → Nat) (cY : ClassId) (h : Nat) (g : Nat) (sz : Nat) (bv : Nat) (bm : Nat) (ml : Int32) (cn : Int32) (bt : Nat → Int32)    (Q0 : ((Nat) × (Nat) × (Int32) × (Int32) × (Nat → Int32)) → Prop) (hw : w_X4_clear  bv bm ml cn bt   Q0) : Met l yX4_clear wsX4_clear rmX4_clear (g_pre (cz adK adV) (dC, dI) vwCl [(cY, .byte)] (W_PG adK adV cY h g bv bm ml cn bt) sz [.ref h]) (g_qv (dC, dI) vwCl [(cY, .byte)] (fun u : ((Nat) × (Nat) × (Int32) × (Int32) × (Nat → Int32)) => (W_PG adK adV cY h g (u.1) (u.2.1) (u.2.2.1) (u.2.2.2.1) (u.2.2.2.2))) Q0 (va_A (W_PG adK adV cY h g bv bm ml cn bt) sz)) 1 40 (va_A (W_PG adK adV cY h g bv bm ml cn bt) sz) := by
  refine g_startv (by decide) rfl (Nat.le_of_ble_eq_true rfl) ?_
  intro p e s m args below meth c A Q ls hx hb hml hown hts hin hK hP hD hA hS hZ hret hl
  obtain ⟨H, eH⟩ : ∃ H : Heap, H = s.heap := ⟨_, rfl⟩
  obtain ⟨locs, eL⟩ : ∃ L : List Loc, L = [] := ⟨_, rfl⟩
  have hS : va_S A s.heap H locs := by rw [eH, eL]; exact hS
  rw [← eH] at hP
  suffices hg : W p l e rmX4_clear s m args below meth c H locs 0 0 Q (F0 m 0 ls []) by rw [eH, eL] at hg; exact hg
  clear eH eL
  replace hl : lv_has ls 1 [(0, .ref h)] := hl
  have hf12 := hts (.fieldLink RX4 12 "NumberPile$Page" "letters" "Ljava/lang/StringBuilder;") (by decide +kernel)
  have hiX4 : ∀ w ∈ u_ws RX4 TX4 1, w ∈ wsX4_clear := fun w h => List.mem_cons_of_mem _ (List.mem_append_left _ (List.mem_append_right _ h))
  unfold w_X4_clear at hw
  refine lv_aload_n hx hb dX4_clear_0 rfl (lv_at hl 0 rfl) ?_
  refine va_get (D := (dC, dI)) (ci := 6) (v := .ref g) (C := RX4) (T := TX4) (N := 1) hx hb hts hiX4 hown hK hP 0 rfl rfl 0 (by decide) hf12 (fun _ h9 => h9) rfl dX4_clear_1 ?_
  refine lv_iconst (v := 0) hx hb dX4_clear_4 (by decide) ?_
  refine g_cv (g_J.plain (W2 := fun u1 : ((Nat) × (Nat) × (Int32) × (Int32) × (Nat → Int32)) => (W_PG adK adV cY h g (u1.1) (u1.2.1) (u1.2.2.1) (u1.2.2.2.1) (u1.2.2.2.2))) [(h, .inr (6, [.ref g]))] [1, 2] [0] [0, 1, 2] rfl (by decide) rfl (by decide) (by decide) (fun _ => rfl) (by decide)) [0] hK hP hD hS hA rfl (fun hPc hDc hKc hFc => va_runV (As := [.int (0 : Int32)]) (rest := []) ⟨hx, hb, hml, hown, hts⟩ (t_J4_setLength_d00df l dC dI adK adV cY g H.size bv bm ml cn bt  (0 : Int32) _ hw) (cwV 1 hts gX4_clear_J4_setLength_d00df rfl rfl rfl (by decide +kernel) ⟨Nat.le_of_ble_eq_true rfl, Nat.le_of_ble_eq_true rfl⟩) (g_pV czb (q0 := 0) rfl rfl hPc hDc hKc (czc hZ hS hFc)) rfl rfl hl.1 rfl (lv_room (Nat.le_of_ble_eq_true rfl)) dX4_clear_5 ⟨Nat.le_of_ble_eq_true rfl, Nat.le_of_ble_eq_true rfl⟩) (fun u1 H locs hw hP hD hS => ?_)
  refine W.widen (k := 1) (n := 40) (Nat.le_of_ble_eq_true rfl) (Nat.le_of_ble_eq_true rfl) ?_
  replace hP : va_P (dC, dI) vwCl (W_PG adK adV cY h g (u1.1) (u1.2.1) (u1.2.2.1) (u1.2.2.2.1) (u1.2.2.2.2)) H := hP
  replace hD : va_D A (W_PG adK adV cY h g (u1.1) (u1.2.1) (u1.2.2.1) (u1.2.2.2.1) (u1.2.2.2.2)) := hD
  exact hret dX4_clear_8 hK hP hD hS hw
