def w_X6_isOtherThanTold (n : Nat) (k : Nat) (ka : Nat) (kd : Nat → Int32) (T : Nat → Int32) (at_ : Int32) (rv : Nat → Int32)  (p0 : Int32) (Q : Int32 → Unit → Prop) : Prop := (vp_in p0 k) ∧ ((((T p0.toNatClampNeg) = (-1 : Int32)) → Q (0 : Int32) ()) ∧ (¬ ((T p0.toNatClampNeg) = (-1 : Int32)) → (vp_in p0 k) ∧ (vp_in p0 k) ∧ ((((T p0.toNatClampNeg) = (rv p0.toNatClampNeg)) → Q (0 : Int32) ()) ∧ (¬ ((T p0.toNatClampNeg) = (rv p0.toNatClampNeg)) → Q (1 : Int32) ()))))
abbrev rmX6_isOtherThanTold : Room := { frames := 0, cells := 0, slots := 0, locals := 0 }
set_option maxHeartbeats 4000000 in
set_option maxRecDepth 100000 in
theorem t_X6_isOtherThanTold (l : Launch) (dC : Nat → ClassId) (dI : Nat → Nat → Nat) (adK : Nat → Nat) (adV : Nat → Nat) (cI : ClassId) (cB : ClassId) (h : Nat) (qK : Nat) (qA : Nat) (qV : Nat) (qT : Nat) (qb : Nat → Nat) (n : Nat) (k : Nat) (ka : Nat) (kd : Nat → Int32) (T : Nat → Int32) (sz : Nat) (at_ : Int32) (rv : Nat → Int32)   (p0 : Int32) (Q0 : Int32 → Unit → Prop) (hw : w_X6_isOtherThanTold n k ka kd T at_ rv  p0 Q0) : Met l yX6_isOtherThanTold wsX6_isOtherThanTold rmX6_isOtherThanTold (g_pre (cz adK adV) (dC, dI) vwCl [(cI, .int), (cB, .object RX0)] (W_R adK adV cI cB h qK qA qV qT qb n k ka kd T at_ rv) sz [.ref h, .int p0]) (g_qi (dC, dI) vwCl [(cI, .int), (cB, .object RX0)] (fun u : Unit => (W_R adK adV cI cB h qK qA qV qT qb n k ka kd T at_ rv)) Q0 (va_A (W_R adK adV cI cB h qK qA qV qT qb n k ka kd T at_ rv) sz)) 0 0 (va_A (W_R adK adV cI cB h qK qA qV qT qb n k ka kd T at_ rv) sz) := by
  refine g_startz (by decide) rfl (Nat.le_of_ble_eq_true rfl) ?_
  intro p e s m args below meth c A Q ls hx hb hml hown hts hin hK hP hD hA hS hZ hret hl
  obtain ⟨H, eH⟩ : ∃ H : Heap, H = s.heap := ⟨_, rfl⟩
  obtain ⟨locs, eL⟩ : ∃ L : List Loc, L = [] := ⟨_, rfl⟩
  have hS : va_S A s.heap H locs := by rw [eH, eL]; exact hS
  rw [← eH] at hP
  suffices hg : W p l e rmX6_isOtherThanTold s m args below meth c H locs 0 0 Q (F0 m 0 ls []) by rw [eH, eL] at hg; exact hg
  clear eH eL
  replace hl : lv_has ls 2 [(0, .ref h), (1, .int p0)] := hl
  have hf26 := hts (.fieldLink RX6 26 "NumberPile$Rows" "told" "[I") (by decide +kernel)
  have hiX6 : ∀ w ∈ u_ws RX6 TX6 6, w ∈ wsX6_isOtherThanTold := fun w h => List.mem_cons_of_mem _ (List.mem_append_right _ h)
  have hf23 := hts (.fieldLink RX6 23 "NumberPile$Rows" "values" "[I") (by decide +kernel)
  unfold w_X6_isOtherThanTold at hw
  refine lv_aload_n hx hb dX6_isOtherThanTold_0 rfl (lv_at hl 0 rfl) ?_
  refine va_get (D := (dC, dI)) (ci := 8) (v := .ref qT) (C := RX6) (T := TX6) (N := 6) hx hb hts hiX6 hown hK hP 0 rfl rfl 4 (by decide) hf26 (fun _ h9 => h9) rfl dX6_isOtherThanTold_1 ?_
  refine lv_iload_n hx hb dX6_isOtherThanTold_4 rfl (lv_at hl 1 rfl) ?_
  obtain ⟨hb1, hw⟩ := hw
  refine va_iald hx hb hK hP 2 0 rfl rfl hb1 dX6_isOtherThanTold_5 ?_
  refine lv_iconst (v := -1) hx hb dX6_isOtherThanTold_6 (by decide) ?_
  refine lv_icmp_eq (tgt := 29) hx hb dX6_isOtherThanTold_7 (by decide) (fun hc2 => ?_) (fun hc2 => ?_)
  · replace hw := hw.1 hc2
    refine lv_iconst (v := 0) hx hb dX6_isOtherThanTold_29 (by decide) ?_
    exact hret dX6_isOtherThanTold_30 hK hP hD hS isB_0 hw
  · replace hw := hw.2 hc2
    refine lv_aload_n hx hb dX6_isOtherThanTold_10 rfl (lv_at hl 0 rfl) ?_
    refine va_get (D := (dC, dI)) (ci := 8) (v := .ref qT) (C := RX6) (T := TX6) (N := 6) hx hb hts hiX6 hown hK hP 0 rfl rfl 4 (by decide) hf26 (fun _ h9 => h9) rfl dX6_isOtherThanTold_11 ?_
    refine lv_iload_n hx hb dX6_isOtherThanTold_14 rfl (lv_at hl 1 rfl) ?_
    obtain ⟨hb3, hw⟩ := hw
    refine va_iald hx hb hK hP 2 0 rfl rfl hb3 dX6_isOtherThanTold_15 ?_
    refine lv_aload_n hx hb dX6_isOtherThanTold_16 rfl (lv_at hl 0 rfl) ?_
    refine va_get (D := (dC, dI)) (ci := 8) (v := .ref qV) (C := RX6) (T := TX6) (N := 6) hx hb hts hiX6 hown hK hP 0 rfl rfl 3 (by decide) hf23 (fun _ h9 => h9) rfl dX6_isOtherThanTold_17 ?_
    refine lv_iload_n hx hb dX6_isOtherThanTold_20 rfl (lv_at hl 1 rfl) ?_
    obtain ⟨hb4, hw⟩ := hw
    refine va_iald hx hb hK hP 1 0 rfl rfl hb4 dX6_isOtherThanTold_21 ?_
    refine lv_icmp_eq (tgt := 29) hx hb dX6_isOtherThanTold_22 (by decide) (fun hc5 => ?_) (fun hc5 => ?_)
    · replace hw := hw.1 hc5
      refine lv_iconst (v := 0) hx hb dX6_isOtherThanTold_29 (by decide) ?_
      exact hret dX6_isOtherThanTold_30 hK hP hD hS isB_0 hw
    · replace hw := hw.2 hc5
      refine lv_iconst (v := 1) hx hb dX6_isOtherThanTold_25 (by decide) ?_
      refine lv_goto (tgt := 30) hx hb dX6_isOtherThanTold_26 (by decide) ?_
      exact hret dX6_isOtherThanTold_30 hK hP hD hS isB_1 hw

def w_X6_holds (n : Nat) (k : Nat) (ka : Nat) (kd : Nat → Int32) (T : Nat → Int32) (at_ : Int32) (rv : Nat → Int32)   (Q : Int32 → ((Nat → Int32)) → Prop) : Prop := w_X6_isOtherThanTold n k ka kd T at_ rv  at_ (fun (r2 : Int32) (u1 : Unit) => (((r2 = 0) → (∀ X7 : Int32 → Int32 → (Nat → Int32) → Prop, (∀ (x4 : Int32) (x5 : Int32) (rvv6 : (Nat → Int32)), ((((at_ ≤ x5) → Q (1 : Int32) rvv6) ∧ (¬ (at_ ≤ x5) → ∀ x9 : Int32, x9 = (((x4 + (nI n)) - x5) - (1 : Int32)) → (vp_in (x9 - (nI n)) ka) ∧ (vp_in (kd (x9 - (nI n)).toNatClampNeg) (5)) ∧ ∃ kd12 : Nat, (kAll (kd (x9 - (nI n)).toNatClampNeg).toNatClampNeg = some kd12) ∧ (kd12 < 5) ∧ (vp_in (x4 - (1 : Int32)) k) ∧ (vp_in x4 k) ∧ wk_made kd12 (rvv6 (x4 - (1 : Int32)).toNatClampNeg) (rvv6 x4.toNatClampNeg) (fun (r15 : Int32) => (vp_in x9 k) ∧ w_X6_isOtherThanTold n k ka kd T at_ (upd rvv6 x9.toNatClampNeg r15)  x9 (fun (r18 : Int32) (u17 : Unit) => (((r18 = 0) → ∀ x20 : Int32, x20 = x5 + (1 : Int32) → X7 x9 x20 (upd rvv6 x9.toNatClampNeg r15)) ∧ (¬ (r18 = 0) → Q (0 : Int32) (upd rvv6 x9.toNatClampNeg r15)))))))) → X7 x4 x5 rvv6) → X7 at_ (0 : Int32) rv)) ∧ (¬ (r2 = 0) → Q (0 : Int32) rv)))
abbrev rmX6_holds : Room := { frames := 2, cells := 0, slots := 0, locals := 62 }
set_option maxHeartbeats 4000000 in
set_option maxRecDepth 100000 in
theorem t_X6_holds (l : Launch) (dC : Nat → ClassId) (dI : Nat → Nat → Nat) (adK : Nat → Nat) (adV : Nat → Nat) (cI : ClassId) (cB : ClassId) (h : Nat) (qK : Nat) (qA : Nat) (qV : Nat) (qT : Nat) (qb : Nat → Nat) (n : Nat) (k : Nat) (ka : Nat) (kd : Nat → Int32) (T : Nat → Int32) (sz : Nat) (at_ : Int32) (rv : Nat → Int32)    (Q0 : Int32 → ((Nat → Int32)) → Prop) (hw : w_X6_holds n k ka kd T at_ rv   Q0) : Met l yX6_holds wsX6_holds rmX6_holds (g_pre (cz adK adV) (dC, dI) vwCl [(cI, .int), (cB, .object RX0)] (W_R adK adV cI cB h qK qA qV qT qb n k ka kd T at_ rv) sz [.ref h]) (g_qi (dC, dI) vwCl [(cI, .int), (cB, .object RX0)] (fun u : ((Nat → Int32)) => (W_R adK adV cI cB h qK qA qV qT qb n k ka kd T at_ u)) Q0 (va_A (W_R adK adV cI cB h qK qA qV qT qb n k ka kd T at_ rv) sz)) 0 0 (va_A (W_R adK adV cI cB h qK qA qV qT qb n k ka kd T at_ rv) sz) := by
  refine g_startz (by decide) rfl (Nat.le_of_ble_eq_true rfl) ?_
  intro p e s m args below meth c A Q ls hx hb hml hown hts hin hK hP hD hA hS hZ hret hl
  obtain ⟨H, eH⟩ : ∃ H : Heap, H = s.heap := ⟨_, rfl⟩
  obtain ⟨locs, eL⟩ : ∃ L : List Loc, L = [] := ⟨_, rfl⟩
  have hS : va_S A s.heap H locs := by rw [eH, eL]; exact hS
  rw [← eH] at hP
  suffices hg : W p l e rmX6_holds s m args below meth c H locs 0 0 Q (F0 m 0 ls []) by rw [eH, eL] at hg; exact hg
  clear eH eL
  replace hl : lv_has ls 4 [(0, .ref h)] := hl
  have hf29 := hts (.fieldLink RX6 29 "NumberPile$Rows" "at" "I") (by decide +kernel)
  have hiX6 : ∀ w ∈ u_ws RX6 TX6 6, w ∈ wsX6_holds := fun w h => List.mem_cons_of_mem _ (List.mem_append_right _ h)
  have hf9 := hts (.fieldLink RX6 9 "NumberPile$Rows" "wide" "I") (by decide +kernel)
  have hf23 := hts (.fieldLink RX6 23 "NumberPile$Rows" "values" "[I") (by decide +kernel)
  have hf15 := hts (.fieldLink RX6 15 "NumberPile$Rows" "kinds" "[LNumberPile$Brick;") (by decide +kernel)
  have hf19 := hts (.fieldLink RX6 19 "NumberPile$Rows" "above" "[I") (by decide +kernel)
  have bcmade := (show Cond.code yX0_made cX0_made 3 (some .int) ∈ wsX6_holds by decide +kernel)
  unfold w_X6_holds at hw
  refine lv_aload_n hx hb dX6_holds_0 rfl (lv_at hl 0 rfl) ?_
  refine lv_aload_n hx hb dX6_holds_1 rfl (lv_at hl 0 rfl) ?_
  refine va_get (D := (dC, dI)) (ci := 8) (v := .int at_) (C := RX6) (T := TX6) (N := 6) hx hb hts hiX6 hown hK hP 0 rfl rfl 5 (by decide) hf29 (fun _ h9 => h9) rfl dX6_holds_2 ?_
  refine g_ci (g_J.plain (W2 := fun u1 : Unit => (W_R adK adV cI cB h qK qA qV qT qb n k ka kd T at_ rv)) [] [0, 1, 2, 3, 4, 5, 6, 7, 8, 9] [] [0, 1, 2, 3, 4, 5, 6, 7, 8, 9] rfl (by decide) rfl (by decide) (by decide) (fun _ => rfl) (by decide)) [0, 1] hK hP hD hS hA rfl (fun hPc hDc hKc hFc => va_runV (As := [.int at_]) (rest := []) ⟨hx, hb, hml, hown, hts⟩ (t_X6_isOtherThanTold l dC dI adK adV cI cB h qK qA qV qT qb n k ka kd T H.size at_ rv  at_ _ hw) (cwV 1 hts gX6_holds_X6_isOtherThanTold rfl rfl rfl (by decide +kernel) ⟨Nat.le_of_ble_eq_true rfl, Nat.le_of_ble_eq_true rfl⟩) (g_pV czb (q0 := 0) rfl rfl hPc hDc hKc (czc hZ hS hFc)) rfl rfl hl.1 rfl (lv_room (Nat.le_of_ble_eq_true rfl)) dX6_holds_5 ⟨Nat.le_of_ble_eq_true rfl, Nat.le_of_ble_eq_true rfl⟩) (fun r2 u1 H locs hw hP hD hS => ?_)
  replace hP : va_P (dC, dI) vwCl (W_R adK adV cI cB h qK qA qV qT qb n k ka kd T at_ rv) H := hP
  replace hD : va_D A (W_R adK adV cI cB h qK qA qV qT qb n k ka kd T at_ rv) := hD
  refine lv_if_eq (tgt := 13) hx hb dX6_holds_8 (by decide) (fun hc3 => ?_) (fun hc3 => ?_)
  · replace hw := hw.1 hc3
    refine lv_aload_n hx hb dX6_holds_13 rfl (lv_at hl 0 rfl) ?_
    refine va_get (D := (dC, dI)) (ci := 8) (v := .int at_) (C := RX6) (T := TX6) (N := 6) hx hb hts hiX6 hown hK hP 0 rfl rfl 5 (by decide) hf29 (fun _ h9 => h9) rfl dX6_holds_14 ?_
    refine lv_istore_n (lv' := [(1, .int at_), (0, .ref h)]) hx hb dX6_holds_17 rfl hl (by decide) rfl (fun ls hl => ?_)
    refine lv_iconst (v := 0) hx hb dX6_holds_18 (by decide) ?_
    refine lv_istore_n (lv' := [(2, .int (0 : Int32)), (1, .int at_), (0, .ref h)]) hx hb dX6_holds_19 rfl hl (by decide) rfl (fun ls hl => ?_)
    refine hw (fun (x4 : Int32) (x5 : Int32) (rvv6 : (Nat → Int32)) => ∀ (H : Heap) (locs : List Loc) (ls : Array Slot), va_P (dC, dI) vwCl (W_R adK adV cI cB h qK qA qV qT qb n k ka kd T at_ rvv6) H → va_D A (W_R adK adV cI cB h qK qA qV qT qb n k ka kd T at_ rvv6) → va_S A s.heap H locs → lv_has ls 4 [(0, .ref h), (1, .int x4), (2, .int x5)] → W p l e rmX6_holds s m args below meth c H locs 0 0 Q (F0 m 20 ls [])) ?_ H locs ls hP hD hS (lv_sub hl [2, 1, 0] rfl)
    · intro x4 x5 rvv6 hw H locs ls hP hD hS hl
      refine lv_iload_n hx hb dX6_holds_20 rfl (lv_at hl 2 rfl) ?_
      refine lv_aload_n hx hb dX6_holds_21 rfl (lv_at hl 0 rfl) ?_
      refine va_get (D := (dC, dI)) (ci := 8) (v := .int at_) (C := RX6) (T := TX6) (N := 6) hx hb hts hiX6 hown hK hP 0 rfl rfl 5 (by decide) hf29 (fun _ h9 => h9) rfl dX6_holds_22 ?_
      refine lv_icmp_ge (tgt := 96) hx hb dX6_holds_25 (by decide) (fun hc8 => ?_) (fun hc8 => ?_)
      · replace hw := hw.1 hc8
        refine lv_iconst (v := 1) hx hb dX6_holds_96 (by decide) ?_
        exact hret dX6_holds_97 hK hP hD hS isB_1 hw
      · replace hw := hw.2 hc8
        refine lv_iload_n hx hb dX6_holds_28 rfl (lv_at hl 1 rfl) ?_
        refine lv_aload_n hx hb dX6_holds_29 rfl (lv_at hl 0 rfl) ?_
        refine va_get (D := (dC, dI)) (ci := 8) (v := .int (nI n)) (C := RX6) (T := TX6) (N := 6) hx hb hts hiX6 hown hK hP 0 rfl rfl 0 (by decide) hf9 (fun _ h9 => h9) rfl dX6_holds_30 ?_
        refine lv_iadd hx hb dX6_holds_33 ?_
        refine lv_iload_n hx hb dX6_holds_34 rfl (lv_at hl 2 rfl) ?_
        refine lv_isub hx hb dX6_holds_35 ?_
        refine lv_iconst (v := 1) hx hb dX6_holds_36 (by decide) ?_
        refine lv_isub hx hb dX6_holds_37 ?_
        refine lv_topi (fun x9 ex9 => ?_)
        replace hw := hw x9 ex9
        refine lv_istore_n (lv' := [(3, .int x9), (0, .ref h), (1, .int x4), (2, .int x5)]) hx hb dX6_holds_38 rfl hl (by decide) rfl (fun ls hl => ?_)
        refine lv_aload_n hx hb dX6_holds_39 rfl (lv_at hl 1 rfl) ?_
        refine va_get (D := (dC, dI)) (ci := 8) (v := .ref qV) (C := RX6) (T := TX6) (N := 6) hx hb hts hiX6 hown hK hP 0 rfl rfl 3 (by decide) hf23 (fun _ h9 => h9) rfl dX6_holds_40 ?_
        refine lv_iload_n hx hb dX6_holds_43 rfl (lv_at hl 0 rfl) ?_
        refine lv_aload_n hx hb dX6_holds_44 rfl (lv_at hl 1 rfl) ?_
        refine va_get (D := (dC, dI)) (ci := 8) (v := .ref qK) (C := RX6) (T := TX6) (N := 6) hx hb hts hiX6 hown hK hP 0 rfl rfl 1 (by decide) hf15 (fun _ h9 => h9) rfl dX6_holds_45 ?_
        refine lv_aload_n hx hb dX6_holds_48 rfl (lv_at hl 1 rfl) ?_
        refine va_get (D := (dC, dI)) (ci := 8) (v := .ref qA) (C := RX6) (T := TX6) (N := 6) hx hb hts hiX6 hown hK hP 0 rfl rfl 2 (by decide) hf19 (fun _ h9 => h9) rfl dX6_holds_49 ?_
        refine lv_iload_n hx hb dX6_holds_52 rfl (lv_at hl 0 rfl) ?_
        refine lv_aload_n hx hb dX6_holds_53 rfl (lv_at hl 1 rfl) ?_
        refine va_get (D := (dC, dI)) (ci := 8) (v := .int (nI n)) (C := RX6) (T := TX6) (N := 6) hx hb hts hiX6 hown hK hP 0 rfl rfl 0 (by decide) hf9 (fun _ h9 => h9) rfl dX6_holds_54 ?_
        refine lv_isub hx hb dX6_holds_57 ?_
        obtain ⟨hb10, hw⟩ := hw
        refine va_iald hx hb hK hP 3 0 rfl rfl hb10 dX6_holds_58 ?_
        obtain ⟨hb11, hw⟩ := hw
        refine va_aldq hx hb hK hP 4 1 rfl rfl hb11 dX6_holds_59 ?_
        obtain ⟨kd12, hkd12, gkd12, hw⟩ := hw
        refine W.eq (congrArg (fun v => F0 m 60 ls (v :: [.int x9, .ref qV])) (bk_rf (qb := qb) hkd12)) ?_
        refine lv_aload_n hx hb dX6_holds_60 rfl (lv_at hl 1 rfl) ?_
        refine va_get (D := (dC, dI)) (ci := 8) (v := .ref qV) (C := RX6) (T := TX6) (N := 6) hx hb hts hiX6 hown hK hP 0 rfl rfl 3 (by decide) hf23 (fun _ h9 => h9) rfl dX6_holds_61 ?_
        refine lv_iload_n hx hb dX6_holds_64 rfl (lv_at hl 2 rfl) ?_
        refine lv_iconst (v := 1) hx hb dX6_holds_65 (by decide) ?_
        refine lv_isub hx hb dX6_holds_66 ?_
        obtain ⟨hb13, hw⟩ := hw
        refine va_iald hx hb hK hP 1 0 rfl rfl hb13 dX6_holds_67 ?_
        refine lv_aload_n hx hb dX6_holds_68 rfl (lv_at hl 1 rfl) ?_
        refine va_get (D := (dC, dI)) (ci := 8) (v := .ref qV) (C := RX6) (T := TX6) (N := 6) hx hb hts hiX6 hown hK hP 0 rfl rfl 3 (by decide) hf23 (fun _ h9 => h9) rfl dX6_holds_69 ?_
        refine lv_iload_n hx hb dX6_holds_72 rfl (lv_at hl 2 rfl) ?_
        obtain ⟨hb14, hw⟩ := hw
        refine va_iald hx hb hK hP 1 0 rfl rfl hb14 dX6_holds_73 ?_
        refine bk_made (rest := [.int x9, .ref qV]) gkd12 hw (fun hw => va_runV (As := [.int (rvv6 (x4 - (1 : Int32)).toNatClampNeg), .int (rvv6 x4.toNatClampNeg)]) (rest := [.int x9, .ref qV]) ⟨hx, hb, hml, hown, hts⟩ (t_X0_made l (qb 0) (rvv6 (x4 - (1 : Int32)).toNatClampNeg) (rvv6 x4.toNatClampNeg) _ hw) (cwV 2 hts gX6_holds_X0_made rfl rfl rfl (by decide +kernel) ⟨Nat.le_of_ble_eq_true rfl, Nat.le_of_ble_eq_true rfl⟩) (g_p0V hK hP (q0 := 5) rfl rfl) rfl rfl hl.1 rfl (lv_room (Nat.le_of_ble_eq_true rfl)) dX6_holds_74 ⟨Nat.le_of_ble_eq_true rfl, Nat.le_of_ble_eq_true rfl⟩) (fun hw => va_runU (As := [.int (rvv6 (x4 - (1 : Int32)).toNatClampNeg), .int (rvv6 x4.toNatClampNeg)]) (rest := [.int x9, .ref qV]) ⟨hx, hb, hml, hown, hts⟩ (t_X1_made l (qb 1) (rvv6 (x4 - (1 : Int32)).toNatClampNeg) (rvv6 x4.toNatClampNeg) _ hw) (va_cwO 2 hts gX6_holds_X1_made_u45X1 rfl rfl rfl bcmade (by decide +kernel) ⟨Nat.le_of_ble_eq_true rfl, Nat.le_of_ble_eq_true rfl⟩) (g_p0V hK hP (q0 := 6) rfl rfl) rfl rfl hl.1 rfl (lv_room (Nat.le_of_ble_eq_true rfl)) dX6_holds_74 ⟨Nat.le_of_ble_eq_true rfl, Nat.le_of_ble_eq_true rfl⟩) (fun hw => va_runU (As := [.int (rvv6 (x4 - (1 : Int32)).toNatClampNeg), .int (rvv6 x4.toNatClampNeg)]) (rest := [.int x9, .ref qV]) ⟨hx, hb, hml, hown, hts⟩ (t_X3_made l (qb 2) (rvv6 (x4 - (1 : Int32)).toNatClampNeg) (rvv6 x4.toNatClampNeg) _ hw) (va_cwO 2 hts gX6_holds_X3_made_u45X3 rfl rfl rfl bcmade (by decide +kernel) ⟨Nat.le_of_ble_eq_true rfl, Nat.le_of_ble_eq_true rfl⟩) (g_p0V hK hP (q0 := 7) rfl rfl) rfl rfl hl.1 rfl (lv_room (Nat.le_of_ble_eq_true rfl)) dX6_holds_74 ⟨Nat.le_of_ble_eq_true rfl, Nat.le_of_ble_eq_true rfl⟩) (fun hw => va_runU (As := [.int (rvv6 (x4 - (1 : Int32)).toNatClampNeg), .int (rvv6 x4.toNatClampNeg)]) (rest := [.int x9, .ref qV]) ⟨hx, hb, hml, hown, hts⟩ (t_X9_made l (qb 3) (rvv6 (x4 - (1 : Int32)).toNatClampNeg) (rvv6 x4.toNatClampNeg) _ hw) (va_cwO 2 hts gX6_holds_X9_made_u45X9 rfl rfl rfl bcmade (by decide +kernel) ⟨Nat.le_of_ble_eq_true rfl, Nat.le_of_ble_eq_true rfl⟩) (g_p0V hK hP (q0 := 8) rfl rfl) rfl rfl hl.1 rfl (lv_room (Nat.le_of_ble_eq_true rfl)) dX6_holds_74 ⟨Nat.le_of_ble_eq_true rfl, Nat.le_of_ble_eq_true rfl⟩) (fun hw => va_runU (As := [.int (rvv6 (x4 - (1 : Int32)).toNatClampNeg), .int (rvv6 x4.toNatClampNeg)]) (rest := [.int x9, .ref qV]) ⟨hx, hb, hml, hown, hts⟩ (t_X2_made l (qb 4) (rvv6 (x4 - (1 : Int32)).toNatClampNeg) (rvv6 x4.toNatClampNeg) _ hw) (va_cwO 2 hts gX6_holds_X2_made_u45X2 rfl rfl rfl bcmade (by decide +kernel) ⟨Nat.le_of_ble_eq_true rfl, Nat.le_of_ble_eq_true rfl⟩) (bk_pR hK hP (q0 := 9) rfl rfl) rfl rfl hl.1 rfl (lv_room (Nat.le_of_ble_eq_true rfl)) dX6_holds_74 ⟨Nat.le_of_ble_eq_true rfl, Nat.le_of_ble_eq_true rfl⟩) (fun r15 hw => ?_)
        obtain ⟨hb16, hw⟩ := hw
        refine va_iast hx hb hK hP hD hS 1 0 rfl rfl hb16 dX6_holds_77 (fun H locs hP hD hS => ?_)
        replace hP : va_P (dC, dI) vwCl (W_R adK adV cI cB h qK qA qV qT qb n k ka kd T at_ (upd rvv6 x9.toNatClampNeg r15)) H := hP
        replace hD : va_D A (W_R adK adV cI cB h qK qA qV qT qb n k ka kd T at_ (upd rvv6 x9.toNatClampNeg r15)) := hD
        refine lv_aload_n hx hb dX6_holds_78 rfl (lv_at hl 1 rfl) ?_
        refine lv_iload_n hx hb dX6_holds_79 rfl (lv_at hl 0 rfl) ?_
        refine g_ci (g_J.plain (W2 := fun u17 : Unit => (W_R adK adV cI cB h qK qA qV qT qb n k ka kd T at_ (upd rvv6 x9.toNatClampNeg r15))) [] [0, 1, 2, 3, 4, 5, 6, 7, 8, 9] [] [0, 1, 2, 3, 4, 5, 6, 7, 8, 9] rfl (by decide) rfl (by decide) (by decide) (fun _ => rfl) (by decide)) [0, 1] hK hP hD hS hA rfl (fun hPc hDc hKc hFc => va_runV (As := [.int x9]) (rest := []) ⟨hx, hb, hml, hown, hts⟩ (t_X6_isOtherThanTold l dC dI adK adV cI cB h qK qA qV qT qb n k ka kd T H.size at_ (upd rvv6 x9.toNatClampNeg r15)  x9 _ hw) (cwV 1 hts gX6_holds_X6_isOtherThanTold rfl rfl rfl (by decide +kernel) ⟨Nat.le_of_ble_eq_true rfl, Nat.le_of_ble_eq_true rfl⟩) (g_pV czb (q0 := 0) rfl rfl hPc hDc hKc (czc hZ hS hFc)) rfl rfl hl.1 rfl (lv_room (Nat.le_of_ble_eq_true rfl)) dX6_holds_80 ⟨Nat.le_of_ble_eq_true rfl, Nat.le_of_ble_eq_true rfl⟩) (fun r18 u17 H locs hw hP hD hS => ?_)
        replace hP : va_P (dC, dI) vwCl (W_R adK adV cI cB h qK qA qV qT qb n k ka kd T at_ (upd rvv6 x9.toNatClampNeg r15)) H := hP
        replace hD : va_D A (W_R adK adV cI cB h qK qA qV qT qb n k ka kd T at_ (upd rvv6 x9.toNatClampNeg r15)) := hD
        refine lv_if_eq (tgt := 88) hx hb dX6_holds_83 (by decide) (fun hc19 => ?_) (fun hc19 => ?_)
        · replace hw := hw.1 hc19
          refine lv_iload_n hx hb dX6_holds_88 rfl (lv_at hl 0 rfl) ?_
          refine lv_istore_n (lv' := [(1, .int x9), (3, .int x9), (0, .ref h), (2, .int x5)]) hx hb dX6_holds_89 rfl hl (by decide) rfl (fun ls hl => ?_)
          obtain ⟨x20, ex20⟩ : ∃ y : Int32, y = x5 + (1 : Int32) := ⟨_, rfl⟩
          replace hw := hw x20 ex20
          refine lv_iinc (v := x20) (lv' := [(2, .int x20), (1, .int x9), (3, .int x9), (0, .ref h)]) hx hb dX6_holds_90 hl (k := 3) rfl (by rw [ex20]; rfl) (by decide) rfl (fun ls hl => ?_)
          refine lv_goto (tgt := 20) hx hb dX6_holds_93 (by decide) ?_
          exact hw H locs ls hP hD hS (lv_sub hl [3, 1, 0] rfl)
        · replace hw := hw.2 hc19
          refine lv_iconst (v := 0) hx hb dX6_holds_86 (by decide) ?_
          exact hret dX6_holds_87 hK hP hD hS isB_0 hw
  · replace hw := hw.2 hc3
    refine lv_iconst (v := 0) hx hb dX6_holds_11 (by decide) ?_
    exact hret dX6_holds_12 hK hP hD hS isB_0 hw

def w_X6_next (n : Nat) (k : Nat) (ka : Nat) (kd : Nat → Int32) (T : Nat → Int32) (at_ : Int32) (rv : Nat → Int32)   (Q : Int32 → ((Int32) × (Nat → Int32)) → Prop) : Prop := (∀ X4 : Int32 → (Int32) → (Nat → Int32) → Prop, (∀ (x1 : Int32) (atv2 : (Int32)) (rvv3 : (Nat → Int32)), (((((100000 : Int32) ≤ x1) → Q (0 : Int32) (atv2, rvv3)) ∧ (¬ ((100000 : Int32) ≤ x1) → (((atv2 < 0) → Q (0 : Int32) (atv2, rvv3)) ∧ (¬ (atv2 < 0) → (vp_in atv2 k) ∧ ∀ J10 : (Int32) → (Nat → Int32) → Prop, (∀ (atv8 : (Int32)) (rvv9 : (Nat → Int32)), (∀ x11 : Int32, x11 = x1 + (1 : Int32) → X4 x11 atv8 rvv9) → J10 atv8 rvv9) → ((((rvv3 atv2.toNatClampNeg) < (9 : Int32)) → (vp_in atv2 k) ∧ ∀ x15 : Int32, x15 = ((rvv3 atv2.toNatClampNeg) + (1 : Int32)) → (vp_in atv2 k) ∧ w_X6_holds n k ka kd T atv2 (upd rvv3 atv2.toNatClampNeg x15)   (fun (r17 : Int32) (u16 : ((Nat → Int32))) => (((¬ r17 = 0) → (((¬ atv2 = ((nI n) - (1 : Int32))) → ∀ x20 : Int32, x20 = (atv2 + (1 : Int32)) → (vp_in x20 k) ∧ J10 x20 (upd u16 x20.toNatClampNeg (-1 : Int32))) ∧ (atv2 = ((nI n) - (1 : Int32)) → Q (1 : Int32) (atv2, u16)))) ∧ (r17 = 0 → J10 atv2 u16)))) ∧ (¬ ((rvv3 atv2.toNatClampNeg) < (9 : Int32)) → ∀ x22 : Int32, x22 = (atv2 - (1 : Int32)) → J10 x22 rvv3))))))) → X4 x1 atv2 rvv3) → X4 (0 : Int32) at_ rv)
abbrev rmX6_next : Room := { frames := 3, cells := 0, slots := 0, locals := 85 }
set_option maxHeartbeats 4000000 in
set_option maxRecDepth 100000 in
theorem t_X6_next (l : Launch) (dC : Nat → ClassId) (dI : Nat → Nat → Nat) (adK : Nat → Nat) (adV : Nat → Nat) (cI : ClassId) (cB : ClassId) (h : Nat) (qK : Nat) (qA : Nat) (qV : Nat) (qT : Nat) (qb : Nat → Nat) (n : Nat) (k : Nat) (ka : Nat) (kd : Nat → Int32) (T : Nat → Int32) (sz : Nat) (at_ : Int32) (rv : Nat → Int32)    (Q0 : Int32 → ((Int32) × (Nat → Int32)) → Prop) (hw : w_X6_next n k ka kd T at_ rv   Q0) : Met l yX6_next wsX6_next rmX6_next (g_pre (cz adK adV) (dC, dI) vwCl [(cI, .int), (cB, .object RX0)] (W_R adK adV cI cB h qK qA qV qT qb n k ka kd T at_ rv) sz [.ref h]) (g_qi (dC, dI) vwCl [(cI, .int), (cB, .object RX0)] (fun u : ((Int32) × (Nat → Int32)) => (W_R adK adV cI cB h qK qA qV qT qb n k ka kd T (u.1) (u.2))) Q0 (va_A (W_R adK adV cI cB h qK qA qV qT qb n k ka kd T at_ rv) sz)) 0 0 (va_A (W_R adK adV cI cB h qK qA qV qT qb n k ka kd T at_ rv) sz) := by
  refine g_startz (by decide) rfl (Nat.le_of_ble_eq_true rfl) ?_
  intro p e s m args below meth c A Q ls hx hb hml hown hts hin hK hP hD hA hS hZ hret hl
  obtain ⟨H, eH⟩ : ∃ H : Heap, H = s.heap := ⟨_, rfl⟩
  obtain ⟨locs, eL⟩ : ∃ L : List Loc, L = [] := ⟨_, rfl⟩
  have hS : va_S A s.heap H locs := by rw [eH, eL]; exact hS
  rw [← eH] at hP
  suffices hg : W p l e rmX6_next s m args below meth c H locs 0 0 Q (F0 m 0 ls []) by rw [eH, eL] at hg; exact hg
  clear eH eL
  replace hl : lv_has ls 2 [(0, .ref h)] := hl
  have kc32 := hts (.constant RX6 32 (100000)) (by decide +kernel)
  have hf29 := hts (.fieldLink RX6 29 "NumberPile$Rows" "at" "I") (by decide +kernel)
  have hiX6 : ∀ w ∈ u_ws RX6 TX6 6, w ∈ wsX6_next := fun w h => List.mem_cons_of_mem _ (List.mem_append_right _ h)
  have hf23 := hts (.fieldLink RX6 23 "NumberPile$Rows" "values" "[I") (by decide +kernel)
  have hf9 := hts (.fieldLink RX6 9 "NumberPile$Rows" "wide" "I") (by decide +kernel)
  unfold w_X6_next at hw
  refine lv_iconst (v := 0) hx hb dX6_next_0 (by decide) ?_
  refine lv_istore_n (lv' := [(1, .int (0 : Int32)), (0, .ref h)]) hx hb dX6_next_1 rfl hl (by decide) rfl (fun ls hl => ?_)
  refine hw (fun (x1 : Int32) (atv2 : (Int32)) (rvv3 : (Nat → Int32)) => ∀ (H : Heap) (locs : List Loc) (ls : Array Slot), va_P (dC, dI) vwCl (W_R adK adV cI cB h qK qA qV qT qb n k ka kd T atv2 rvv3) H → va_D A (W_R adK adV cI cB h qK qA qV qT qb n k ka kd T atv2 rvv3) → va_S A s.heap H locs → lv_has ls 2 [(0, .ref h), (1, .int x1)] → W p l e rmX6_next s m args below meth c H locs 0 0 Q (F0 m 2 ls [])) ?_ H locs ls hP hD hS (lv_sub hl [1, 0] rfl)
  · intro x1 atv2 rvv3 hw H locs ls hP hD hS hl
    refine lv_iload_n hx hb dX6_next_2 rfl (lv_at hl 1 rfl) ?_
    refine lv_ldc hx hb hown kc32 dX6_next_3 ?_
    refine lv_icmp_ge (tgt := 106) hx hb dX6_next_5 (by decide) (fun hc5 => ?_) (fun hc5 => ?_)
    · replace hw := hw.1 hc5
      refine lv_iconst (v := 0) hx hb dX6_next_106 (by decide) ?_
      exact hret dX6_next_107 hK hP hD hS isB_0 hw
    · replace hw := hw.2 hc5
      refine lv_aload_n hx hb dX6_next_8 rfl (lv_at hl 0 rfl) ?_
      refine va_get (D := (dC, dI)) (ci := 8) (v := .int atv2) (C := RX6) (T := TX6) (N := 6) hx hb hts hiX6 hown hK hP 0 rfl rfl 5 (by decide) hf29 (fun _ h9 => h9) rfl dX6_next_9 ?_
      refine lv_if_lt (tgt := 106) hx hb dX6_next_12 (by decide) (fun hc6 => ?_) (fun hc6 => ?_)
      · replace hw := hw.1 hc6
        refine lv_iconst (v := 0) hx hb dX6_next_106 (by decide) ?_
        exact hret dX6_next_107 hK hP hD hS isB_0 hw
      · replace hw := hw.2 hc6
        refine lv_aload_n hx hb dX6_next_15 rfl (lv_at hl 0 rfl) ?_
        refine va_get (D := (dC, dI)) (ci := 8) (v := .ref qV) (C := RX6) (T := TX6) (N := 6) hx hb hts hiX6 hown hK hP 0 rfl rfl 3 (by decide) hf23 (fun _ h9 => h9) rfl dX6_next_16 ?_
        refine lv_aload_n hx hb dX6_next_19 rfl (lv_at hl 0 rfl) ?_
        refine va_get (D := (dC, dI)) (ci := 8) (v := .int atv2) (C := RX6) (T := TX6) (N := 6) hx hb hts hiX6 hown hK hP 0 rfl rfl 5 (by decide) hf29 (fun _ h9 => h9) rfl dX6_next_20 ?_
        obtain ⟨hb7, hw⟩ := hw
        refine va_iald hx hb hK hP 1 0 rfl rfl hb7 dX6_next_23 ?_
        refine lv_bipush (v := 9) hx hb dX6_next_24 (by decide) ?_
        replace hw := hw (fun (atv8 : (Int32)) (rvv9 : (Nat → Int32)) => ∀ (H : Heap) (locs : List Loc) (ls : Array Slot), va_P (dC, dI) vwCl (W_R adK adV cI cB h qK qA qV qT qb n k ka kd T atv8 rvv9) H → va_D A (W_R adK adV cI cB h qK qA qV qT qb n k ka kd T atv8 rvv9) → va_S A s.heap H locs → lv_has ls 2 [(0, .ref h), (1, .int x1)] → W p l e rmX6_next s m args below meth c H locs 0 0 Q (F0 m 100 ls [])) (by
          intro atv8 rvv9 hw H locs ls hP hD hS hl
          obtain ⟨x11, ex11⟩ : ∃ y : Int32, y = x1 + (1 : Int32) := ⟨_, rfl⟩
          replace hw := hw x11 ex11
          refine lv_iinc (v := x11) (lv' := [(1, .int x11), (0, .ref h)]) hx hb dX6_next_100 hl (k := 1) rfl (by rw [ex11]; rfl) (by decide) rfl (fun ls hl => ?_)
          refine lv_goto (tgt := 2) hx hb dX6_next_103 (by decide) ?_
          exact hw H locs ls hP hD hS (lv_sub hl [1, 0] rfl))
        refine lv_icmp_lt (tgt := 42) hx hb dX6_next_26 (by decide) (fun hc12 => ?_) (fun hc12 => ?_)
        · replace hw := hw.1 hc12
          refine lv_aload_n hx hb dX6_next_42 rfl (lv_at hl 0 rfl) ?_
          refine va_get (D := (dC, dI)) (ci := 8) (v := .ref qV) (C := RX6) (T := TX6) (N := 6) hx hb hts hiX6 hown hK hP 0 rfl rfl 3 (by decide) hf23 (fun _ h9 => h9) rfl dX6_next_43 ?_
          refine lv_aload_n hx hb dX6_next_46 rfl (lv_at hl 0 rfl) ?_
          refine va_get (D := (dC, dI)) (ci := 8) (v := .int atv2) (C := RX6) (T := TX6) (N := 6) hx hb hts hiX6 hown hK hP 0 rfl rfl 5 (by decide) hf29 (fun _ h9 => h9) rfl dX6_next_47 ?_
          refine lv_dup2_11 hx hb dX6_next_50 rfl rfl ?_
          obtain ⟨hb13, hw⟩ := hw
          refine va_iald hx hb hK hP 1 0 rfl rfl hb13 dX6_next_51 ?_
          refine lv_iconst (v := 1) hx hb dX6_next_52 (by decide) ?_
          refine lv_iadd hx hb dX6_next_53 ?_
          refine lv_topi (fun x15 ex15 => ?_)
          replace hw := hw x15 ex15
          obtain ⟨hb14, hw⟩ := hw
          refine va_iast hx hb hK hP hD hS 1 0 rfl rfl hb14 dX6_next_54 (fun H locs hP hD hS => ?_)
          replace hP : va_P (dC, dI) vwCl (W_R adK adV cI cB h qK qA qV qT qb n k ka kd T atv2 (upd rvv3 atv2.toNatClampNeg x15)) H := hP
          replace hD : va_D A (W_R adK adV cI cB h qK qA qV qT qb n k ka kd T atv2 (upd rvv3 atv2.toNatClampNeg x15)) := hD
          refine lv_aload_n hx hb dX6_next_55 rfl (lv_at hl 0 rfl) ?_
          refine g_ci (g_J.plain (W2 := fun u16 : ((Nat → Int32)) => (W_R adK adV cI cB h qK qA qV qT qb n k ka kd T atv2 u16)) [] [0, 1, 2, 3, 4, 5, 6, 7, 8, 9] [] [0, 1, 2, 3, 4, 5, 6, 7, 8, 9] rfl (by decide) rfl (by decide) (by decide) (fun _ => rfl) (by decide)) [0, 1] hK hP hD hS hA rfl (fun hPc hDc hKc hFc => va_runV (As := []) (rest := []) ⟨hx, hb, hml, hown, hts⟩ (t_X6_holds l dC dI adK adV cI cB h qK qA qV qT qb n k ka kd T H.size atv2 (upd rvv3 atv2.toNatClampNeg x15)   _ hw) (cwV 0 hts gX6_next_X6_holds rfl rfl rfl (by decide +kernel) ⟨Nat.le_of_ble_eq_true rfl, Nat.le_of_ble_eq_true rfl⟩) (g_pV czb (q0 := 0) rfl rfl hPc hDc hKc (czc hZ hS hFc)) rfl rfl hl.1 rfl (lv_room (Nat.le_of_ble_eq_true rfl)) dX6_next_56 ⟨Nat.le_of_ble_eq_true rfl, Nat.le_of_ble_eq_true rfl⟩) (fun r17 u16 H locs hw hP hD hS => ?_)
          replace hP : va_P (dC, dI) vwCl (W_R adK adV cI cB h qK qA qV qT qb n k ka kd T atv2 u16) H := hP
          replace hD : va_D A (W_R adK adV cI cB h qK qA qV qT qb n k ka kd T atv2 u16) := hD
          refine lv_if_ne (tgt := 65) hx hb dX6_next_59 (by decide) (fun hc18 => ?_) (fun hc18 => ?_)
          · replace hw := hw.1 hc18
            refine lv_aload_n hx hb dX6_next_65 rfl (lv_at hl 0 rfl) ?_
            refine va_get (D := (dC, dI)) (ci := 8) (v := .int atv2) (C := RX6) (T := TX6) (N := 6) hx hb hts hiX6 hown hK hP 0 rfl rfl 5 (by decide) hf29 (fun _ h9 => h9) rfl dX6_next_66 ?_
            refine lv_aload_n hx hb dX6_next_69 rfl (lv_at hl 0 rfl) ?_
            refine va_get (D := (dC, dI)) (ci := 8) (v := .int (nI n)) (C := RX6) (T := TX6) (N := 6) hx hb hts hiX6 hown hK hP 0 rfl rfl 0 (by decide) hf9 (fun _ h9 => h9) rfl dX6_next_70 ?_
            refine lv_iconst (v := 1) hx hb dX6_next_73 (by decide) ?_
            refine lv_isub hx hb dX6_next_74 ?_
            refine lv_icmp_ne (tgt := 80) hx hb dX6_next_75 (by decide) (fun hc19 => ?_) (fun hc19 => ?_)
            · replace hw := hw.1 hc19
              refine lv_aload_n hx hb dX6_next_80 rfl (lv_at hl 0 rfl) ?_
              refine lv_dup hx hb dX6_next_81 rfl ?_
              refine va_get (D := (dC, dI)) (ci := 8) (v := .int atv2) (C := RX6) (T := TX6) (N := 6) hx hb hts hiX6 hown hK hP 0 rfl rfl 5 (by decide) hf29 (fun _ h9 => h9) rfl dX6_next_82 ?_
              refine lv_iconst (v := 1) hx hb dX6_next_85 (by decide) ?_
              refine lv_iadd hx hb dX6_next_86 ?_
              refine lv_topi (fun x20 ex20 => ?_)
              replace hw := hw x20 ex20
              refine va_put (D := (dC, dI)) (ci := 8) (v := .int x20) (ty := (.int)) (C := RX6) (T := TX6) (N := 6) hx hb hts hiX6 tyX6 tyX6_ok nmX6 hown hK hP hD hS 0 rfl rfl 5 (by decide) hf29 (fun _ h9 => h9) rfl (by decide +kernel) rfl rfl (Nat.le_of_ble_eq_true rfl) dX6_next_87 (fun H locs hP hD hS => ?_)
              replace hP : va_P (dC, dI) vwCl (W_R adK adV cI cB h qK qA qV qT qb n k ka kd T x20 u16) H := hP
              replace hD : va_D A (W_R adK adV cI cB h qK qA qV qT qb n k ka kd T x20 u16) := hD
              refine lv_aload_n hx hb dX6_next_90 rfl (lv_at hl 0 rfl) ?_
              refine va_get (D := (dC, dI)) (ci := 8) (v := .ref qV) (C := RX6) (T := TX6) (N := 6) hx hb hts hiX6 hown hK hP 0 rfl rfl 3 (by decide) hf23 (fun _ h9 => h9) rfl dX6_next_91 ?_
              refine lv_aload_n hx hb dX6_next_94 rfl (lv_at hl 0 rfl) ?_
              refine va_get (D := (dC, dI)) (ci := 8) (v := .int x20) (C := RX6) (T := TX6) (N := 6) hx hb hts hiX6 hown hK hP 0 rfl rfl 5 (by decide) hf29 (fun _ h9 => h9) rfl dX6_next_95 ?_
              refine lv_iconst (v := -1) hx hb dX6_next_98 (by decide) ?_
              obtain ⟨hb21, hw⟩ := hw
              refine va_iast hx hb hK hP hD hS 1 0 rfl rfl hb21 dX6_next_99 (fun H locs hP hD hS => ?_)
              replace hP : va_P (dC, dI) vwCl (W_R adK adV cI cB h qK qA qV qT qb n k ka kd T x20 (upd u16 x20.toNatClampNeg (-1 : Int32))) H := hP
              replace hD : va_D A (W_R adK adV cI cB h qK qA qV qT qb n k ka kd T x20 (upd u16 x20.toNatClampNeg (-1 : Int32))) := hD
              exact hw H locs ls hP hD hS (lv_sub hl [0, 1] rfl)
            · replace hw := hw.2 hc19
              refine lv_iconst (v := 1) hx hb dX6_next_78 (by decide) ?_
              exact hret dX6_next_79 hK hP hD hS isB_1 hw
          · replace hw := hw.2 hc18
            refine lv_goto (tgt := 100) hx hb dX6_next_62 (by decide) ?_
            exact hw H locs ls hP hD hS (lv_sub hl [0, 1] rfl)
        · replace hw := hw.2 hc12
          refine lv_aload_n hx hb dX6_next_29 rfl (lv_at hl 0 rfl) ?_
          refine lv_dup hx hb dX6_next_30 rfl ?_
          refine va_get (D := (dC, dI)) (ci := 8) (v := .int atv2) (C := RX6) (T := TX6) (N := 6) hx hb hts hiX6 hown hK hP 0 rfl rfl 5 (by decide) hf29 (fun _ h9 => h9) rfl dX6_next_31 ?_
          refine lv_iconst (v := 1) hx hb dX6_next_34 (by decide) ?_
          refine lv_isub hx hb dX6_next_35 ?_
          refine lv_topi (fun x22 ex22 => ?_)
          replace hw := hw x22 ex22
          refine va_put (D := (dC, dI)) (ci := 8) (v := .int x22) (ty := (.int)) (C := RX6) (T := TX6) (N := 6) hx hb hts hiX6 tyX6 tyX6_ok nmX6 hown hK hP hD hS 0 rfl rfl 5 (by decide) hf29 (fun _ h9 => h9) rfl (by decide +kernel) rfl rfl (Nat.le_of_ble_eq_true rfl) dX6_next_36 (fun H locs hP hD hS => ?_)
          replace hP : va_P (dC, dI) vwCl (W_R adK adV cI cB h qK qA qV qT qb n k ka kd T x22 rvv3) H := hP
          replace hD : va_D A (W_R adK adV cI cB h qK qA qV qT qb n k ka kd T x22 rvv3) := hD
          refine lv_goto (tgt := 100) hx hb dX6_next_39 (by decide) ?_
          exact hw H locs ls hP hD hS (lv_sub hl [0, 1] rfl)

def w_X6_number (n : Nat) (k : Nat) (ka : Nat) (kd : Nat → Int32) (T : Nat → Int32) (at_ : Int32) (rv : Nat → Int32)   (Q : Int32 → Unit → Prop) : Prop := w_X10_asNumber k rv  (nI n) (fun (r2 : Int32) (u1 : Unit) => Q r2 ())
abbrev rmX6_number : Room := { frames := 1, cells := 0, slots := 0, locals := 23 }
set_option maxHeartbeats 4000000 in
set_option maxRecDepth 100000 in
theorem t_X6_number (l : Launch) (dC : Nat → ClassId) (dI : Nat → Nat → Nat) (adK : Nat → Nat) (adV : Nat → Nat) (cI : ClassId) (cB : ClassId) (h : Nat) (qK : Nat) (qA : Nat) (qV : Nat) (qT : Nat) (qb : Nat → Nat) (n : Nat) (k : Nat) (ka : Nat) (kd : Nat → Int32) (T : Nat → Int32) (sz : Nat) (at_ : Int32) (rv : Nat → Int32)    (Q0 : Int32 → Unit → Prop) (hw : w_X6_number n k ka kd T at_ rv   Q0) : Met l yX6_number wsX6_number rmX6_number (g_pre (cz adK adV) (dC, dI) vwCl [(cI, .int), (cB, .object RX0)] (W_R adK adV cI cB h qK qA qV qT qb n k ka kd T at_ rv) sz [.ref h]) (g_qi (dC, dI) vwCl [(cI, .int), (cB, .object RX0)] (fun u : Unit => (W_R adK adV cI cB h qK qA qV qT qb n k ka kd T at_ rv)) Q0 (va_A (W_R adK adV cI cB h qK qA qV qT qb n k ka kd T at_ rv) sz)) 0 0 (va_A (W_R adK adV cI cB h qK qA qV qT qb n k ka kd T at_ rv) sz) := by
  refine g_starti (by decide) rfl (Nat.le_of_ble_eq_true rfl) ?_
  intro p e s m args below meth c A Q ls hx hb hml hown hts hin hK hP hD hA hS hZ hret hl
  obtain ⟨H, eH⟩ : ∃ H : Heap, H = s.heap := ⟨_, rfl⟩
  obtain ⟨locs, eL⟩ : ∃ L : List Loc, L = [] := ⟨_, rfl⟩
  have hS : va_S A s.heap H locs := by rw [eH, eL]; exact hS
  rw [← eH] at hP
  suffices hg : W p l e rmX6_number s m args below meth c H locs 0 0 Q (F0 m 0 ls []) by rw [eH, eL] at hg; exact hg
  clear eH eL
  replace hl : lv_has ls 1 [(0, .ref h)] := hl
  have hf23 := hts (.fieldLink RX6 23 "NumberPile$Rows" "values" "[I") (by decide +kernel)
  have hiX6 : ∀ w ∈ u_ws RX6 TX6 6, w ∈ wsX6_number := fun w h => List.mem_cons_of_mem _ (List.mem_append_right _ h)
  have hf9 := hts (.fieldLink RX6 9 "NumberPile$Rows" "wide" "I") (by decide +kernel)
  have nm37 := hZ.1 _ (List.mem_of_getElem? (i := 33) (rfl : cz_nest[33]? = some (.methodLinkNest RX6 37 yX10_asNumber "NumberPile")))
  have iniRX10 := hts (.initialized RX10) (by decide +kernel)
  have st37 := hts (.static yX10_asNumber) (by decide +kernel)
  unfold w_X6_number at hw
  refine lv_aload_n hx hb dX6_number_0 rfl (lv_at hl 0 rfl) ?_
  refine va_get (D := (dC, dI)) (ci := 8) (v := .ref qV) (C := RX6) (T := TX6) (N := 6) hx hb hts hiX6 hown hK hP 0 rfl rfl 3 (by decide) hf23 (fun _ h9 => h9) rfl dX6_number_1 ?_
  refine lv_aload_n hx hb dX6_number_4 rfl (lv_at hl 0 rfl) ?_
  refine va_get (D := (dC, dI)) (ci := 8) (v := .int (nI n)) (C := RX6) (T := TX6) (N := 6) hx hb hts hiX6 hown hK hP 0 rfl rfl 0 (by decide) hf9 (fun _ h9 => h9) rfl dX6_number_5 ?_
  refine g_ci (g_J.plain (W2 := fun u1 : Unit => (W_R adK adV cI cB h qK qA qV qT qb n k ka kd T at_ rv)) [(h, .inr (8, [.int (nI n), .ref qK, .ref qA, .ref qV, .ref qT, .int at_])), (qT, .inl (cI, k, .inl T)), (qA, .inl (cI, ka, .inl kd)), (qK, .inl (cB, (5), .inr (.inr (.inr (.inr (fun i => (kAll i).map qb)))))), ((qb 0), .inr (2, [])), ((qb 1), .inr (3, [])), ((qb 2), .inr (5, [])), ((qb 3), .inr (11, [])), ((qb 4), .inr (4, []))] [1] [0, 2, 3, 4, 5, 6, 7, 8, 9] [0, 9, 1, 2, 3, 4, 5, 6, 7, 8] rfl (by decide) rfl (by decide) (by decide) (fun _ => rfl) (by decide)) [0] hK hP hD hS hA rfl (fun hPc hDc hKc hFc => va_runSN (As := [.ref qV, .int (nI n)]) (rest := []) ⟨hx, hb, hml, hown, hts⟩ (t_X10_asNumber l dC dI cI qV k H.size rv  (nI n) _ hw) ⟨va_cnB 2 hts gX6_number_X10_asNumber_n37 rfl rfl rfl nm37 iniRX10 (by decide +kernel) ⟨Nat.le_of_ble_eq_true rfl, Nat.le_of_ble_eq_true rfl⟩, st37, trivial⟩ (g_pS g_Tb hPc hDc hKc (fun _ _ _ => trivial)) rfl rfl hl.1 rfl (lv_room (Nat.le_of_ble_eq_true rfl)) dX6_number_8 ⟨Nat.le_of_ble_eq_true rfl, Nat.le_of_ble_eq_true rfl⟩) (fun r2 u1 H locs hw hP hD hS => ?_)
  replace hP : va_P (dC, dI) vwCl (W_R adK adV cI cB h qK qA qV qT qb n k ka kd T at_ rv) H := hP
  replace hD : va_D A (W_R adK adV cI cB h qK qA qV qT qb n k ka kd T at_ rv) := hD
  exact hret dX6_number_11 hK hP hD hS hw

def w_X7_isOf   (sL : List Nat) (sf : Nat → Nat → Int32) (y : Nat) (p0 : Int32) (Q : Int32 → Unit → Prop) : Prop := (((¬ (sf y 0) = p0) → Q (0 : Int32) ()) ∧ ((sf y 0) = p0 → Q (1 : Int32) ()))
abbrev rmX7_isOf : Room := { frames := 0, cells := 0, slots := 0, locals := 0 }
set_option maxHeartbeats 4000000 in
set_option maxRecDepth 100000 in
theorem t_X7_isOf (l : Launch) (dC : Nat → ClassId) (dI : Nat → Nat → Nat) (adK : Nat → Nat) (adV : Nat → Nat) (qb : Nat → Nat) (sz : Nat)  (sL : List Nat) (sf : Nat → Nat → Int32) (y : Nat) (hy : y ∈ sL) (p0 : Int32) (Q0 : Int32 → Unit → Prop) (hw : w_X7_isOf   sL sf y p0 Q0) : Met l yX7_isOf wsX7_isOf rmX7_isOf (g_pre (cz adK adV) (dC, dI) vwCl [] ((W_G adK adV qb ) ++ va_pl sL (sgF sf)) sz [.ref y, .int p0]) (g_qi (dC, dI) vwCl [] (fun u : Unit => ((W_G adK adV qb ) ++ va_pl sL (sgF sf))) Q0 (va_A ((W_G adK adV qb ) ++ va_pl sL (sgF sf)) sz)) 0 0 (va_A ((W_G adK adV qb ) ++ va_pl sL (sgF sf)) sz) := by
  refine g_startz (by decide) rfl (Nat.le_of_ble_eq_true rfl) ?_
  intro p e s m args below meth c A Q ls hx hb hml hown hts hin hK hP hD hA hS hZ hret hl
  obtain ⟨H, eH⟩ : ∃ H : Heap, H = s.heap := ⟨_, rfl⟩
  obtain ⟨locs, eL⟩ : ∃ L : List Loc, L = [] := ⟨_, rfl⟩
  have hS : va_S A s.heap H locs := by rw [eH, eL]; exact hS
  rw [← eH] at hP
  suffices hg : W p l e rmX7_isOf s m args below meth c H locs 0 0 Q (F0 m 0 ls []) by rw [eH, eL] at hg; exact hg
  clear eH eL
  replace hl : lv_has ls 2 [(0, .ref y), (1, .int p0)] := hl
  have hf7 := hts (.fieldLink RX7 7 "NumberPile$Sight" "brick" "I") (by decide +kernel)
  have hiX7 : ∀ w ∈ u_ws RX7 TX7 4, w ∈ wsX7_isOf := fun w h => List.mem_cons_of_mem _ (List.mem_append_right _ h)
  unfold w_X7_isOf at hw
  refine lv_aload_n hx hb dX7_isOf_0 rfl (lv_at hl 0 rfl) ?_
  obtain ⟨k1, hk1⟩ := va_pl_get (X := (W_G adK adV qb )) (f := sgF sf) hy
  refine va_get (D := (dC, dI)) (ci := 9) (v := .int (sf y 0)) (C := RX7) (T := TX7) (N := 4) hx hb hts hiX7 hown hK hP k1 hk1 rfl 0 (by decide) hf7 (fun _ h9 => h9) rfl dX7_isOf_1 ?_
  refine lv_iload_n hx hb dX7_isOf_4 rfl (lv_at hl 1 rfl) ?_
  refine lv_icmp_ne (tgt := 12) hx hb dX7_isOf_5 (by decide) (fun hc2 => ?_) (fun hc2 => ?_)
  · replace hw := hw.1 hc2
    refine lv_iconst (v := 0) hx hb dX7_isOf_12 (by decide) ?_
    exact hret dX7_isOf_13 hK hP hD hS isB_0 hw
  · replace hw := hw.2 hc2
    refine lv_iconst (v := 1) hx hb dX7_isOf_8 (by decide) ?_
    refine lv_goto (tgt := 13) hx hb dX7_isOf_9 (by decide) ?_
    exact hret dX7_isOf_13 hK hP hD hS isB_1 hw

def w_X7_allows   (sL : List Nat) (sf : Nat → Nat → Int32) (y : Nat) (kd : Nat)  (Q : Int32 → Unit → Prop) : Prop := wk_made kd (sf y 1) (sf y 2) (fun (r3 : Int32) => (((¬ r3 = (sf y 3)) → Q (0 : Int32) ()) ∧ (r3 = (sf y 3) → Q (1 : Int32) ())))
abbrev rmX7_allows : Room := { frames := 2, cells := 0, slots := 0, locals := 62 }
set_option maxHeartbeats 4000000 in
set_option maxRecDepth 100000 in
theorem t_X7_allows (l : Launch) (dC : Nat → ClassId) (dI : Nat → Nat → Nat) (adK : Nat → Nat) (adV : Nat → Nat) (qb : Nat → Nat) (sz : Nat)  (sL : List Nat) (sf : Nat → Nat → Int32) (y : Nat) (kd : Nat) (hy : y ∈ sL) (hkd : kd < 5)  (Q0 : Int32 → Unit → Prop) (hw : w_X7_allows   sL sf y kd  Q0) : Met l yX7_allows wsX7_allows rmX7_allows (g_pre (cz adK adV) (dC, dI) vwCl [] ((W_G adK adV qb ) ++ va_pl sL (sgF sf)) sz [.ref y, .ref (qb kd)]) (g_qi (dC, dI) vwCl [] (fun u : Unit => ((W_G adK adV qb ) ++ va_pl sL (sgF sf))) Q0 (va_A ((W_G adK adV qb ) ++ va_pl sL (sgF sf)) sz)) 0 0 (va_A ((W_G adK adV qb ) ++ va_pl sL (sgF sf)) sz) := by
  refine g_startz (by decide) rfl (Nat.le_of_ble_eq_true rfl) ?_
  intro p e s m args below meth c A Q ls hx hb hml hown hts hin hK hP hD hA hS hZ hret hl
  obtain ⟨H, eH⟩ : ∃ H : Heap, H = s.heap := ⟨_, rfl⟩
  obtain ⟨locs, eL⟩ : ∃ L : List Loc, L = [] := ⟨_, rfl⟩
  have hS : va_S A s.heap H locs := by rw [eH, eL]; exact hS
  rw [← eH] at hP
  suffices hg : W p l e rmX7_allows s m args below meth c H locs 0 0 Q (F0 m 0 ls []) by rw [eH, eL] at hg; exact hg
  clear eH eL
  replace hl : lv_has ls 2 [(0, .ref y), (1, .ref (qb kd))] := hl
  have hf13 := hts (.fieldLink RX7 13 "NumberPile$Sight" "left" "I") (by decide +kernel)
  have hiX7 : ∀ w ∈ u_ws RX7 TX7 4, w ∈ wsX7_allows := fun w h => List.mem_cons_of_mem _ (List.mem_append_right _ h)
  have hf16 := hts (.fieldLink RX7 16 "NumberPile$Sight" "right" "I") (by decide +kernel)
  have bcmade := (show Cond.code yX0_made cX0_made 3 (some .int) ∈ wsX7_allows by decide +kernel)
  have hf19 := hts (.fieldLink RX7 19 "NumberPile$Sight" "number" "I") (by decide +kernel)
  unfold w_X7_allows at hw
  refine lv_aload_n hx hb dX7_allows_0 rfl (lv_at hl 1 rfl) ?_
  refine lv_aload_n hx hb dX7_allows_1 rfl (lv_at hl 0 rfl) ?_
  obtain ⟨k1, hk1⟩ := va_pl_get (X := (W_G adK adV qb )) (f := sgF sf) hy
  refine va_get (D := (dC, dI)) (ci := 9) (v := .int (sf y 1)) (C := RX7) (T := TX7) (N := 4) hx hb hts hiX7 hown hK hP k1 hk1 rfl 1 (by decide) hf13 (fun _ h9 => h9) rfl dX7_allows_2 ?_
  refine lv_aload_n hx hb dX7_allows_5 rfl (lv_at hl 0 rfl) ?_
  obtain ⟨k2, hk2⟩ := va_pl_get (X := (W_G adK adV qb )) (f := sgF sf) hy
  refine va_get (D := (dC, dI)) (ci := 9) (v := .int (sf y 2)) (C := RX7) (T := TX7) (N := 4) hx hb hts hiX7 hown hK hP k2 hk2 rfl 2 (by decide) hf16 (fun _ h9 => h9) rfl dX7_allows_6 ?_
  refine bk_made (rest := []) hkd hw (fun hw => va_runV (As := [.int (sf y 1), .int (sf y 2)]) (rest := []) ⟨hx, hb, hml, hown, hts⟩ (t_X0_made l (qb 0) (sf y 1) (sf y 2) _ hw) (cwV 2 hts gX7_allows_X0_made rfl rfl rfl (by decide +kernel) ⟨Nat.le_of_ble_eq_true rfl, Nat.le_of_ble_eq_true rfl⟩) (g_p0V hK hP (q0 := 0) rfl rfl) rfl rfl hl.1 rfl (lv_room (Nat.le_of_ble_eq_true rfl)) dX7_allows_9 ⟨Nat.le_of_ble_eq_true rfl, Nat.le_of_ble_eq_true rfl⟩) (fun hw => va_runU (As := [.int (sf y 1), .int (sf y 2)]) (rest := []) ⟨hx, hb, hml, hown, hts⟩ (t_X1_made l (qb 1) (sf y 1) (sf y 2) _ hw) (va_cwO 2 hts gX7_allows_X1_made_u22X1 rfl rfl rfl bcmade (by decide +kernel) ⟨Nat.le_of_ble_eq_true rfl, Nat.le_of_ble_eq_true rfl⟩) (g_p0V hK hP (q0 := 1) rfl rfl) rfl rfl hl.1 rfl (lv_room (Nat.le_of_ble_eq_true rfl)) dX7_allows_9 ⟨Nat.le_of_ble_eq_true rfl, Nat.le_of_ble_eq_true rfl⟩) (fun hw => va_runU (As := [.int (sf y 1), .int (sf y 2)]) (rest := []) ⟨hx, hb, hml, hown, hts⟩ (t_X3_made l (qb 2) (sf y 1) (sf y 2) _ hw) (va_cwO 2 hts gX7_allows_X3_made_u22X3 rfl rfl rfl bcmade (by decide +kernel) ⟨Nat.le_of_ble_eq_true rfl, Nat.le_of_ble_eq_true rfl⟩) (g_p0V hK hP (q0 := 2) rfl rfl) rfl rfl hl.1 rfl (lv_room (Nat.le_of_ble_eq_true rfl)) dX7_allows_9 ⟨Nat.le_of_ble_eq_true rfl, Nat.le_of_ble_eq_true rfl⟩) (fun hw => va_runU (As := [.int (sf y 1), .int (sf y 2)]) (rest := []) ⟨hx, hb, hml, hown, hts⟩ (t_X9_made l (qb 3) (sf y 1) (sf y 2) _ hw) (va_cwO 2 hts gX7_allows_X9_made_u22X9 rfl rfl rfl bcmade (by decide +kernel) ⟨Nat.le_of_ble_eq_true rfl, Nat.le_of_ble_eq_true rfl⟩) (g_p0V hK hP (q0 := 3) rfl rfl) rfl rfl hl.1 rfl (lv_room (Nat.le_of_ble_eq_true rfl)) dX7_allows_9 ⟨Nat.le_of_ble_eq_true rfl, Nat.le_of_ble_eq_true rfl⟩) (fun hw => va_runU (As := [.int (sf y 1), .int (sf y 2)]) (rest := []) ⟨hx, hb, hml, hown, hts⟩ (t_X2_made l (qb 4) (sf y 1) (sf y 2) _ hw) (va_cwO 2 hts gX7_allows_X2_made_u22X2 rfl rfl rfl bcmade (by decide +kernel) ⟨Nat.le_of_ble_eq_true rfl, Nat.le_of_ble_eq_true rfl⟩) (bk_pR hK hP (q0 := 4) rfl rfl) rfl rfl hl.1 rfl (lv_room (Nat.le_of_ble_eq_true rfl)) dX7_allows_9 ⟨Nat.le_of_ble_eq_true rfl, Nat.le_of_ble_eq_true rfl⟩) (fun r3 hw => ?_)
  refine lv_aload_n hx hb dX7_allows_12 rfl (lv_at hl 0 rfl) ?_
  obtain ⟨k4, hk4⟩ := va_pl_get (X := (W_G adK adV qb )) (f := sgF sf) hy
  refine va_get (D := (dC, dI)) (ci := 9) (v := .int (sf y 3)) (C := RX7) (T := TX7) (N := 4) hx hb hts hiX7 hown hK hP k4 hk4 rfl 3 (by decide) hf19 (fun _ h9 => h9) rfl dX7_allows_13 ?_
  refine lv_icmp_ne (tgt := 23) hx hb dX7_allows_16 (by decide) (fun hc5 => ?_) (fun hc5 => ?_)
  · replace hw := hw.1 hc5
    refine lv_iconst (v := 0) hx hb dX7_allows_23 (by decide) ?_
    exact hret dX7_allows_24 hK hP hD hS isB_0 hw
  · replace hw := hw.2 hc5
    refine lv_iconst (v := 1) hx hb dX7_allows_19 (by decide) ?_
    refine lv_goto (tgt := 24) hx hb dX7_allows_20 (by decide) ?_
    exact hret dX7_allows_24 hK hP hD hS isB_1 hw

def w_X5_raise_v (n : Nat) (k : Nat) (q : Nat → Nat) (f : Nat → Int32) (t : Nat) (a : Nat → Nat → Int32) (b : Nat → Nat → Int32) (sg : Nat → Nat → Option Nat) (sL : List Nat) (sf : Nat → Nat → Int32)   (Q : ((Nat → Nat → Int32)) → Prop) : Prop := ∀ x1 : Int32, x1 = (nI n) → (∀ X4 : Int32 → (Nat → Nat → Int32) → Prop, (∀ (x2 : Int32) (av3 : (Nat → Nat → Int32)), (((((nI k) ≤ x2) → Q av3) ∧ (¬ ((nI k) ≤ x2) → (vp_in x2 k) ∧ ∀ x7 : Int32, x7 = ((av3 0) x2.toNatClampNeg) → (vp_in (x2 - (nI n)) (k - n)) ∧ (vp_in ((b 0) (x2 - (nI n)).toNatClampNeg) (5)) ∧ ∃ kd10 : Nat, (kAll ((b 0) (x2 - (nI n)).toNatClampNeg).toNatClampNeg = some kd10) ∧ (kd10 < 5) ∧ (vp_in x7 k) ∧ (vp_in (x7 + (1 : Int32)) k) ∧ wk_made kd10 ((av3 5) x7.toNatClampNeg) ((av3 5) (x7 + (1 : Int32)).toNatClampNeg) (fun (r13 : Int32) => (vp_in x2 k) ∧ ∀ x15 : Int32, x15 = x2 + (1 : Int32) → X4 x15 (va_up av3 5 (upd (av3 5) x2.toNatClampNeg r13)))))) → X4 x2 av3) → X4 x1 a)
abbrev rmX5_raise_v : Room := { frames := 2, cells := 0, slots := 0, locals := 62 }
set_option maxHeartbeats 4000000 in
set_option maxRecDepth 100000 in
theorem t_X5_raise_v (l : Launch) (dC : Nat → ClassId) (dI : Nat → Nat → Nat) (adK : Nat → Nat) (adV : Nat → Nat) (cI : ClassId) (cB : ClassId) (cS : ClassId) (q : Nat → Nat) (qb : Nat → Nat) (n : Nat) (k : Nat) (sz : Nat) (f : Nat → Int32) (t : Nat) (a : Nat → Nat → Int32) (b : Nat → Nat → Int32) (sg : Nat → Nat → Option Nat) (sL : List Nat) (sf : Nat → Nat → Int32)    (Q0 : ((Nat → Nat → Int32)) → Prop) (hw : w_X5_raise_v n k q f t a b sg sL sf   Q0) : Met l yX5_raise wsX5_raise rmX5_raise_v (g_pre (cz adK adV) (dC, dI) vwCl [(cI, .int), (cB, .object RX0), (cS, .object RX7)] ((W_P adK adV cI cB cS q qb n k f t a b sg) ++ va_pl sL (sgF sf)) sz [.ref (q 0), .ref (q 13)]) (g_qv (dC, dI) vwCl [(cI, .int), (cB, .object RX0), (cS, .object RX7)] (fun u : ((Nat → Nat → Int32)) => ((W_P adK adV cI cB cS q qb n k f t u b sg) ++ va_pl sL (sgF sf))) Q0 (va_A ((W_P adK adV cI cB cS q qb n k f t a b sg) ++ va_pl sL (sgF sf)) sz)) 0 0 (va_A ((W_P adK adV cI cB cS q qb n k f t a b sg) ++ va_pl sL (sgF sf)) sz) := by
  refine g_startv (by decide) rfl (Nat.le_of_ble_eq_true rfl) ?_
  intro p e s m args below meth c A Q ls hx hb hml hown hts hin hK hP hD hA hS hZ hret hl
  obtain ⟨H, eH⟩ : ∃ H : Heap, H = s.heap := ⟨_, rfl⟩
  obtain ⟨locs, eL⟩ : ∃ L : List Loc, L = [] := ⟨_, rfl⟩
  have hS : va_S A s.heap H locs := by rw [eH, eL]; exact hS
  rw [← eH] at hP
  suffices hg : W p l e rmX5_raise_v s m args below meth c H locs 0 0 Q (F0 m 0 ls []) by rw [eH, eL] at hg; exact hg
  clear eH eL
  replace hl : lv_has ls 4 [(0, .ref (q 0)), (1, .ref (q 13))] := hl
  have hf15 := hts (.fieldLink RX5 15 "NumberPile$Pile" "wide" "I") (by decide +kernel)
  have hiX5 : ∀ w ∈ u_ws RX5 TX5 15, w ∈ wsX5_raise := fun w h => List.mem_cons_of_mem _ (List.mem_append_left _ (List.mem_append_right _ h))
  have hf19 := hts (.fieldLink RX5 19 "NumberPile$Pile" "size" "I") (by decide +kernel)
  have hf22 := hts (.fieldLink RX5 22 "NumberPile$Pile" "leftBelow" "[I") (by decide +kernel)
  have hf9 := hts (.fieldLink RX5 9 "NumberPile$Pile" "kinds" "[LNumberPile$Brick;") (by decide +kernel)
  have hf31 := hts (.fieldLink RX5 31 "NumberPile$Pile" "now" "LNumberPile$State;") (by decide +kernel)
  have nf49 := va_Nw.use (A := args) rfl (hZ.1 _ (List.mem_of_getElem? (i := 23) (rfl : cz_nest[23]? = some (.fieldLinkNest RX5 49 "NumberPile$State" "above" "[I" "NumberPile"))))
  have hiX8 : ∀ w ∈ u_ws RX8 TX8 6, w ∈ wsX5_raise := fun w h => List.mem_cons_of_mem _ (List.mem_append_right _ h)
  have bcmade := (show Cond.code yX0_made cX0_made 3 (some .int) ∈ wsX5_raise by decide +kernel)
  unfold w_X5_raise_v at hw
  refine lv_aload_n hx hb dX5_raise_0 rfl (lv_at hl 0 rfl) ?_
  refine va_get (D := (dC, dI)) (ci := 7) (v := .int (nI n)) (C := RX5) (T := TX5) (N := 15) hx hb hts hiX5 hown hK hP 0 rfl rfl 0 (by decide) hf15 (fun _ h9 => h9) rfl dX5_raise_1 ?_
  refine lv_topi (fun x1 ex1 => ?_)
  replace hw := hw x1 ex1
  refine lv_istore_n (lv' := [(2, .int x1), (0, .ref (q 0)), (1, .ref (q 13))]) hx hb dX5_raise_4 rfl hl (by decide) rfl (fun ls hl => ?_)
  refine hw (fun (x2 : Int32) (av3 : (Nat → Nat → Int32)) => ∀ (H : Heap) (locs : List Loc) (ls : Array Slot), va_P (dC, dI) vwCl ((W_P adK adV cI cB cS q qb n k f t av3 b sg) ++ va_pl sL (sgF sf)) H → va_D A ((W_P adK adV cI cB cS q qb n k f t av3 b sg) ++ va_pl sL (sgF sf)) → va_S A s.heap H locs → lv_has ls 4 [(0, .ref (q 0)), (1, .ref (q 13)), (2, .int x2)] → W p l e rmX5_raise_v s m args below meth c H locs 0 0 Q (F0 m 5 ls [])) ?_ H locs ls hP hD hS (lv_sub hl [1, 2, 0] rfl)
  · intro x2 av3 hw H locs ls hP hD hS hl
    refine lv_iload_n hx hb dX5_raise_5 rfl (lv_at hl 2 rfl) ?_
    refine lv_aload_n hx hb dX5_raise_6 rfl (lv_at hl 0 rfl) ?_
    refine va_get (D := (dC, dI)) (ci := 7) (v := .int (nI k)) (C := RX5) (T := TX5) (N := 15) hx hb hts hiX5 hown hK hP 0 rfl rfl 1 (by decide) hf19 (fun _ h9 => h9) rfl dX5_raise_7 ?_
    refine lv_icmp_ge (tgt := 59) hx hb dX5_raise_10 (by decide) (fun hc5 => ?_) (fun hc5 => ?_)
    · replace hw := hw.1 hc5
      exact hret dX5_raise_59 hK hP hD hS hw
    · replace hw := hw.2 hc5
      refine lv_aload_n hx hb dX5_raise_13 rfl (lv_at hl 0 rfl) ?_
      refine va_get (D := (dC, dI)) (ci := 7) (v := .ref (q 2)) (C := RX5) (T := TX5) (N := 15) hx hb hts hiX5 hown hK hP 0 rfl rfl 3 (by decide) hf22 (fun _ h9 => h9) rfl dX5_raise_14 ?_
      refine lv_iload_n hx hb dX5_raise_17 rfl (lv_at hl 2 rfl) ?_
      obtain ⟨hb6, hw⟩ := hw
      refine va_iald hx hb hK hP 2 0 rfl rfl hb6 dX5_raise_18 ?_
      refine lv_topi (fun x7 ex7 => ?_)
      replace hw := hw x7 ex7
      refine lv_istore_n (lv' := [(3, .int x7), (0, .ref (q 0)), (1, .ref (q 13)), (2, .int x2)]) hx hb dX5_raise_19 rfl hl (by decide) rfl (fun ls hl => ?_)
      refine lv_aload_n hx hb dX5_raise_20 rfl (lv_at hl 2 rfl) ?_
      refine lv_iload_n hx hb dX5_raise_21 rfl (lv_at hl 3 rfl) ?_
      refine lv_aload_n hx hb dX5_raise_22 rfl (lv_at hl 1 rfl) ?_
      refine va_get (D := (dC, dI)) (ci := 7) (v := .ref (q 1)) (C := RX5) (T := TX5) (N := 15) hx hb hts hiX5 hown hK hP 0 rfl rfl 2 (by decide) hf9 (fun _ h9 => h9) rfl dX5_raise_23 ?_
      refine lv_aload_n hx hb dX5_raise_26 rfl (lv_at hl 1 rfl) ?_
      refine va_get (D := (dC, dI)) (ci := 7) (v := .ref (q 3)) (C := RX5) (T := TX5) (N := 15) hx hb hts hiX5 hown hK hP 0 rfl rfl 4 (by decide) hf31 (fun _ h9 => h9) rfl dX5_raise_27 ?_
      refine va_getN (D := (dC, dI)) (ci := 10) (v := .ref (q 4)) (C := RX8) (T := TX8) (N := 6) hx hb hts hiX8 hown hK hP 3 rfl rfl 0 (by decide) nf49 (fun _ h9 => h9) rfl dX5_raise_30 ?_
      refine lv_iload_n hx hb dX5_raise_33 rfl (lv_at hl 3 rfl) ?_
      refine lv_aload_n hx hb dX5_raise_34 rfl (lv_at hl 1 rfl) ?_
      refine va_get (D := (dC, dI)) (ci := 7) (v := .int (nI n)) (C := RX5) (T := TX5) (N := 15) hx hb hts hiX5 hown hK hP 0 rfl rfl 0 (by decide) hf15 (fun _ h9 => h9) rfl dX5_raise_35 ?_
      refine lv_isub hx hb dX5_raise_38 ?_
      obtain ⟨hb8, hw⟩ := hw
      refine va_iald hx hb hK hP 4 0 rfl rfl hb8 dX5_raise_39 ?_
      obtain ⟨hb9, hw⟩ := hw
      refine va_aldq hx hb hK hP 1 1 rfl rfl hb9 dX5_raise_40 ?_
      obtain ⟨kd10, hkd10, gkd10, hw⟩ := hw
      refine W.eq (congrArg (fun v => F0 m 41 ls (v :: [.int x2, .ref (q 13)])) (bk_rf (qb := qb) hkd10)) ?_
      refine lv_aload_n hx hb dX5_raise_41 rfl (lv_at hl 2 rfl) ?_
      refine lv_iload_n hx hb dX5_raise_42 rfl (lv_at hl 0 rfl) ?_
      obtain ⟨hb11, hw⟩ := hw
      refine va_iald hx hb hK hP 13 0 rfl rfl hb11 dX5_raise_43 ?_
      refine lv_aload_n hx hb dX5_raise_44 rfl (lv_at hl 2 rfl) ?_
      refine lv_iload_n hx hb dX5_raise_45 rfl (lv_at hl 0 rfl) ?_
      refine lv_iconst (v := 1) hx hb dX5_raise_46 (by decide) ?_
      refine lv_iadd hx hb dX5_raise_47 ?_
      obtain ⟨hb12, hw⟩ := hw
      refine va_iald hx hb hK hP 13 0 rfl rfl hb12 dX5_raise_48 ?_
      refine bk_made (rest := [.int x2, .ref (q 13)]) gkd10 hw (fun hw => va_runV (As := [.int ((av3 5) x7.toNatClampNeg), .int ((av3 5) (x7 + (1 : Int32)).toNatClampNeg)]) (rest := [.int x2, .ref (q 13)]) ⟨hx, hb, hml, hown, hts⟩ (t_X0_made l (qb 0) ((av3 5) x7.toNatClampNeg) ((av3 5) (x7 + (1 : Int32)).toNatClampNeg) _ hw) (cwV 2 hts gX5_raise_X0_made rfl rfl rfl (by decide +kernel) ⟨Nat.le_of_ble_eq_true rfl, Nat.le_of_ble_eq_true rfl⟩) (g_p0V hK hP (q0 := 22) rfl rfl) rfl rfl hl.1 rfl (lv_room (Nat.le_of_ble_eq_true rfl)) dX5_raise_49 ⟨Nat.le_of_ble_eq_true rfl, Nat.le_of_ble_eq_true rfl⟩) (fun hw => va_runU (As := [.int ((av3 5) x7.toNatClampNeg), .int ((av3 5) (x7 + (1 : Int32)).toNatClampNeg)]) (rest := [.int x2, .ref (q 13)]) ⟨hx, hb, hml, hown, hts⟩ (t_X1_made l (qb 1) ((av3 5) x7.toNatClampNeg) ((av3 5) (x7 + (1 : Int32)).toNatClampNeg) _ hw) (va_cwO 2 hts gX5_raise_X1_made_u112X1 rfl rfl rfl bcmade (by decide +kernel) ⟨Nat.le_of_ble_eq_true rfl, Nat.le_of_ble_eq_true rfl⟩) (g_p0V hK hP (q0 := 23) rfl rfl) rfl rfl hl.1 rfl (lv_room (Nat.le_of_ble_eq_true rfl)) dX5_raise_49 ⟨Nat.le_of_ble_eq_true rfl, Nat.le_of_ble_eq_true rfl⟩) (fun hw => va_runU (As := [.int ((av3 5) x7.toNatClampNeg), .int ((av3 5) (x7 + (1 : Int32)).toNatClampNeg)]) (rest := [.int x2, .ref (q 13)]) ⟨hx, hb, hml, hown, hts⟩ (t_X3_made l (qb 2) ((av3 5) x7.toNatClampNeg) ((av3 5) (x7 + (1 : Int32)).toNatClampNeg) _ hw) (va_cwO 2 hts gX5_raise_X3_made_u112X3 rfl rfl rfl bcmade (by decide +kernel) ⟨Nat.le_of_ble_eq_true rfl, Nat.le_of_ble_eq_true rfl⟩) (g_p0V hK hP (q0 := 24) rfl rfl) rfl rfl hl.1 rfl (lv_room (Nat.le_of_ble_eq_true rfl)) dX5_raise_49 ⟨Nat.le_of_ble_eq_true rfl, Nat.le_of_ble_eq_true rfl⟩) (fun hw => va_runU (As := [.int ((av3 5) x7.toNatClampNeg), .int ((av3 5) (x7 + (1 : Int32)).toNatClampNeg)]) (rest := [.int x2, .ref (q 13)]) ⟨hx, hb, hml, hown, hts⟩ (t_X9_made l (qb 3) ((av3 5) x7.toNatClampNeg) ((av3 5) (x7 + (1 : Int32)).toNatClampNeg) _ hw) (va_cwO 2 hts gX5_raise_X9_made_u112X9 rfl rfl rfl bcmade (by decide +kernel) ⟨Nat.le_of_ble_eq_true rfl, Nat.le_of_ble_eq_true rfl⟩) (g_p0V hK hP (q0 := 25) rfl rfl) rfl rfl hl.1 rfl (lv_room (Nat.le_of_ble_eq_true rfl)) dX5_raise_49 ⟨Nat.le_of_ble_eq_true rfl, Nat.le_of_ble_eq_true rfl⟩) (fun hw => va_runU (As := [.int ((av3 5) x7.toNatClampNeg), .int ((av3 5) (x7 + (1 : Int32)).toNatClampNeg)]) (rest := [.int x2, .ref (q 13)]) ⟨hx, hb, hml, hown, hts⟩ (t_X2_made l (qb 4) ((av3 5) x7.toNatClampNeg) ((av3 5) (x7 + (1 : Int32)).toNatClampNeg) _ hw) (va_cwO 2 hts gX5_raise_X2_made_u112X2 rfl rfl rfl bcmade (by decide +kernel) ⟨Nat.le_of_ble_eq_true rfl, Nat.le_of_ble_eq_true rfl⟩) (bk_pR hK hP (q0 := 26) rfl rfl) rfl rfl hl.1 rfl (lv_room (Nat.le_of_ble_eq_true rfl)) dX5_raise_49 ⟨Nat.le_of_ble_eq_true rfl, Nat.le_of_ble_eq_true rfl⟩) (fun r13 hw => ?_)
      obtain ⟨hb14, hw⟩ := hw
      refine va_iast hx hb hK hP hD hS 13 0 rfl rfl hb14 dX5_raise_52 (fun H locs hP hD hS => ?_)
      replace hP : va_P (dC, dI) vwCl ((W_P adK adV cI cB cS q qb n k f t (va_up av3 5 (upd (av3 5) x2.toNatClampNeg r13)) b sg) ++ va_pl sL (sgF sf)) H := hP
      replace hD : va_D A ((W_P adK adV cI cB cS q qb n k f t (va_up av3 5 (upd (av3 5) x2.toNatClampNeg r13)) b sg) ++ va_pl sL (sgF sf)) := hD
      obtain ⟨x15, ex15⟩ : ∃ y : Int32, y = x2 + (1 : Int32) := ⟨_, rfl⟩
      replace hw := hw x15 ex15
      refine lv_iinc (v := x15) (lv' := [(2, .int x15), (3, .int x7), (0, .ref (q 0)), (1, .ref (q 13))]) hx hb dX5_raise_53 hl (k := 3) rfl (by rw [ex15]; rfl) (by decide) rfl (fun ls hl => ?_)
      refine lv_goto (tgt := 5) hx hb dX5_raise_56 (by decide) ?_
      exact hw H locs ls hP hD hS (lv_sub hl [2, 3, 0] rfl)

def w_X5_raise_g (n : Nat) (k : Nat) (q : Nat → Nat) (f : Nat → Int32) (t : Nat) (a : Nat → Nat → Int32) (b : Nat → Nat → Int32) (sg : Nat → Nat → Option Nat) (sL : List Nat) (sf : Nat → Nat → Int32)   (Q : ((Nat → Nat → Int32)) → Prop) : Prop := ∀ x1 : Int32, x1 = (nI n) → (∀ X4 : Int32 → (Nat → Nat → Int32) → Prop, (∀ (x2 : Int32) (av3 : (Nat → Nat → Int32)), (((((nI k) ≤ x2) → Q av3) ∧ (¬ ((nI k) ≤ x2) → (vp_in x2 k) ∧ ∀ x7 : Int32, x7 = ((av3 0) x2.toNatClampNeg) → (vp_in (x2 - (nI n)) (k - n)) ∧ (vp_in ((b 0) (x2 - (nI n)).toNatClampNeg) (5)) ∧ ∃ kd10 : Nat, (kAll ((b 0) (x2 - (nI n)).toNatClampNeg).toNatClampNeg = some kd10) ∧ (kd10 < 5) ∧ (vp_in x7 k) ∧ (vp_in (x7 + (1 : Int32)) k) ∧ wk_made kd10 ((av3 6) x7.toNatClampNeg) ((av3 6) (x7 + (1 : Int32)).toNatClampNeg) (fun (r13 : Int32) => (vp_in x2 k) ∧ ∀ x15 : Int32, x15 = x2 + (1 : Int32) → X4 x15 (va_up av3 6 (upd (av3 6) x2.toNatClampNeg r13)))))) → X4 x2 av3) → X4 x1 a)
abbrev rmX5_raise_g : Room := { frames := 2, cells := 0, slots := 0, locals := 62 }
set_option maxHeartbeats 4000000 in
set_option maxRecDepth 100000 in
theorem t_X5_raise_g (l : Launch) (dC : Nat → ClassId) (dI : Nat → Nat → Nat) (adK : Nat → Nat) (adV : Nat → Nat) (cI : ClassId) (cB : ClassId) (cS : ClassId) (q : Nat → Nat) (qb : Nat → Nat) (n : Nat) (k : Nat) (sz : Nat) (f : Nat → Int32) (t : Nat) (a : Nat → Nat → Int32) (b : Nat → Nat → Int32) (sg : Nat → Nat → Option Nat) (sL : List Nat) (sf : Nat → Nat → Int32)    (Q0 : ((Nat → Nat → Int32)) → Prop) (hw : w_X5_raise_g n k q f t a b sg sL sf   Q0) : Met l yX5_raise wsX5_raise rmX5_raise_g (g_pre (cz adK adV) (dC, dI) vwCl [(cI, .int), (cB, .object RX0), (cS, .object RX7)] ((W_P adK adV cI cB cS q qb n k f t a b sg) ++ va_pl sL (sgF sf)) sz [.ref (q 0), .ref (q 14)]) (g_qv (dC, dI) vwCl [(cI, .int), (cB, .object RX0), (cS, .object RX7)] (fun u : ((Nat → Nat → Int32)) => ((W_P adK adV cI cB cS q qb n k f t u b sg) ++ va_pl sL (sgF sf))) Q0 (va_A ((W_P adK adV cI cB cS q qb n k f t a b sg) ++ va_pl sL (sgF sf)) sz)) 0 0 (va_A ((W_P adK adV cI cB cS q qb n k f t a b sg) ++ va_pl sL (sgF sf)) sz) := by
  refine g_startv (by decide) rfl (Nat.le_of_ble_eq_true rfl) ?_
  intro p e s m args below meth c A Q ls hx hb hml hown hts hin hK hP hD hA hS hZ hret hl
  obtain ⟨H, eH⟩ : ∃ H : Heap, H = s.heap := ⟨_, rfl⟩
  obtain ⟨locs, eL⟩ : ∃ L : List Loc, L = [] := ⟨_, rfl⟩
  have hS : va_S A s.heap H locs := by rw [eH, eL]; exact hS
  rw [← eH] at hP
  suffices hg : W p l e rmX5_raise_g s m args below meth c H locs 0 0 Q (F0 m 0 ls []) by rw [eH, eL] at hg; exact hg
  clear eH eL
  replace hl : lv_has ls 4 [(0, .ref (q 0)), (1, .ref (q 14))] := hl
  have hf15 := hts (.fieldLink RX5 15 "NumberPile$Pile" "wide" "I") (by decide +kernel)
  have hiX5 : ∀ w ∈ u_ws RX5 TX5 15, w ∈ wsX5_raise := fun w h => List.mem_cons_of_mem _ (List.mem_append_left _ (List.mem_append_right _ h))
  have hf19 := hts (.fieldLink RX5 19 "NumberPile$Pile" "size" "I") (by decide +kernel)
  have hf22 := hts (.fieldLink RX5 22 "NumberPile$Pile" "leftBelow" "[I") (by decide +kernel)
  have hf9 := hts (.fieldLink RX5 9 "NumberPile$Pile" "kinds" "[LNumberPile$Brick;") (by decide +kernel)
  have hf31 := hts (.fieldLink RX5 31 "NumberPile$Pile" "now" "LNumberPile$State;") (by decide +kernel)
  have nf49 := va_Nw.use (A := args) rfl (hZ.1 _ (List.mem_of_getElem? (i := 23) (rfl : cz_nest[23]? = some (.fieldLinkNest RX5 49 "NumberPile$State" "above" "[I" "NumberPile"))))
  have hiX8 : ∀ w ∈ u_ws RX8 TX8 6, w ∈ wsX5_raise := fun w h => List.mem_cons_of_mem _ (List.mem_append_right _ h)
  have bcmade := (show Cond.code yX0_made cX0_made 3 (some .int) ∈ wsX5_raise by decide +kernel)
  unfold w_X5_raise_g at hw
  refine lv_aload_n hx hb dX5_raise_0 rfl (lv_at hl 0 rfl) ?_
  refine va_get (D := (dC, dI)) (ci := 7) (v := .int (nI n)) (C := RX5) (T := TX5) (N := 15) hx hb hts hiX5 hown hK hP 0 rfl rfl 0 (by decide) hf15 (fun _ h9 => h9) rfl dX5_raise_1 ?_
  refine lv_topi (fun x1 ex1 => ?_)
  replace hw := hw x1 ex1
  refine lv_istore_n (lv' := [(2, .int x1), (0, .ref (q 0)), (1, .ref (q 14))]) hx hb dX5_raise_4 rfl hl (by decide) rfl (fun ls hl => ?_)
  refine hw (fun (x2 : Int32) (av3 : (Nat → Nat → Int32)) => ∀ (H : Heap) (locs : List Loc) (ls : Array Slot), va_P (dC, dI) vwCl ((W_P adK adV cI cB cS q qb n k f t av3 b sg) ++ va_pl sL (sgF sf)) H → va_D A ((W_P adK adV cI cB cS q qb n k f t av3 b sg) ++ va_pl sL (sgF sf)) → va_S A s.heap H locs → lv_has ls 4 [(0, .ref (q 0)), (1, .ref (q 14)), (2, .int x2)] → W p l e rmX5_raise_g s m args below meth c H locs 0 0 Q (F0 m 5 ls [])) ?_ H locs ls hP hD hS (lv_sub hl [1, 2, 0] rfl)
  · intro x2 av3 hw H locs ls hP hD hS hl
    refine lv_iload_n hx hb dX5_raise_5 rfl (lv_at hl 2 rfl) ?_
    refine lv_aload_n hx hb dX5_raise_6 rfl (lv_at hl 0 rfl) ?_
    refine va_get (D := (dC, dI)) (ci := 7) (v := .int (nI k)) (C := RX5) (T := TX5) (N := 15) hx hb hts hiX5 hown hK hP 0 rfl rfl 1 (by decide) hf19 (fun _ h9 => h9) rfl dX5_raise_7 ?_
    refine lv_icmp_ge (tgt := 59) hx hb dX5_raise_10 (by decide) (fun hc5 => ?_) (fun hc5 => ?_)
    · replace hw := hw.1 hc5
      exact hret dX5_raise_59 hK hP hD hS hw
    · replace hw := hw.2 hc5
      refine lv_aload_n hx hb dX5_raise_13 rfl (lv_at hl 0 rfl) ?_
      refine va_get (D := (dC, dI)) (ci := 7) (v := .ref (q 2)) (C := RX5) (T := TX5) (N := 15) hx hb hts hiX5 hown hK hP 0 rfl rfl 3 (by decide) hf22 (fun _ h9 => h9) rfl dX5_raise_14 ?_
      refine lv_iload_n hx hb dX5_raise_17 rfl (lv_at hl 2 rfl) ?_
      obtain ⟨hb6, hw⟩ := hw
      refine va_iald hx hb hK hP 2 0 rfl rfl hb6 dX5_raise_18 ?_
      refine lv_topi (fun x7 ex7 => ?_)
      replace hw := hw x7 ex7
      refine lv_istore_n (lv' := [(3, .int x7), (0, .ref (q 0)), (1, .ref (q 14)), (2, .int x2)]) hx hb dX5_raise_19 rfl hl (by decide) rfl (fun ls hl => ?_)
      refine lv_aload_n hx hb dX5_raise_20 rfl (lv_at hl 2 rfl) ?_
      refine lv_iload_n hx hb dX5_raise_21 rfl (lv_at hl 3 rfl) ?_
      refine lv_aload_n hx hb dX5_raise_22 rfl (lv_at hl 1 rfl) ?_
      refine va_get (D := (dC, dI)) (ci := 7) (v := .ref (q 1)) (C := RX5) (T := TX5) (N := 15) hx hb hts hiX5 hown hK hP 0 rfl rfl 2 (by decide) hf9 (fun _ h9 => h9) rfl dX5_raise_23 ?_
      refine lv_aload_n hx hb dX5_raise_26 rfl (lv_at hl 1 rfl) ?_
      refine va_get (D := (dC, dI)) (ci := 7) (v := .ref (q 3)) (C := RX5) (T := TX5) (N := 15) hx hb hts hiX5 hown hK hP 0 rfl rfl 4 (by decide) hf31 (fun _ h9 => h9) rfl dX5_raise_27 ?_
      refine va_getN (D := (dC, dI)) (ci := 10) (v := .ref (q 4)) (C := RX8) (T := TX8) (N := 6) hx hb hts hiX8 hown hK hP 3 rfl rfl 0 (by decide) nf49 (fun _ h9 => h9) rfl dX5_raise_30 ?_
      refine lv_iload_n hx hb dX5_raise_33 rfl (lv_at hl 3 rfl) ?_
      refine lv_aload_n hx hb dX5_raise_34 rfl (lv_at hl 1 rfl) ?_
      refine va_get (D := (dC, dI)) (ci := 7) (v := .int (nI n)) (C := RX5) (T := TX5) (N := 15) hx hb hts hiX5 hown hK hP 0 rfl rfl 0 (by decide) hf15 (fun _ h9 => h9) rfl dX5_raise_35 ?_
      refine lv_isub hx hb dX5_raise_38 ?_
      obtain ⟨hb8, hw⟩ := hw
      refine va_iald hx hb hK hP 4 0 rfl rfl hb8 dX5_raise_39 ?_
      obtain ⟨hb9, hw⟩ := hw
      refine va_aldq hx hb hK hP 1 1 rfl rfl hb9 dX5_raise_40 ?_
      obtain ⟨kd10, hkd10, gkd10, hw⟩ := hw
      refine W.eq (congrArg (fun v => F0 m 41 ls (v :: [.int x2, .ref (q 14)])) (bk_rf (qb := qb) hkd10)) ?_
      refine lv_aload_n hx hb dX5_raise_41 rfl (lv_at hl 2 rfl) ?_
      refine lv_iload_n hx hb dX5_raise_42 rfl (lv_at hl 0 rfl) ?_
      obtain ⟨hb11, hw⟩ := hw
      refine va_iald hx hb hK hP 14 0 rfl rfl hb11 dX5_raise_43 ?_
      refine lv_aload_n hx hb dX5_raise_44 rfl (lv_at hl 2 rfl) ?_
      refine lv_iload_n hx hb dX5_raise_45 rfl (lv_at hl 0 rfl) ?_
      refine lv_iconst (v := 1) hx hb dX5_raise_46 (by decide) ?_
      refine lv_iadd hx hb dX5_raise_47 ?_
      obtain ⟨hb12, hw⟩ := hw
      refine va_iald hx hb hK hP 14 0 rfl rfl hb12 dX5_raise_48 ?_
      refine bk_made (rest := [.int x2, .ref (q 14)]) gkd10 hw (fun hw => va_runV (As := [.int ((av3 6) x7.toNatClampNeg), .int ((av3 6) (x7 + (1 : Int32)).toNatClampNeg)]) (rest := [.int x2, .ref (q 14)]) ⟨hx, hb, hml, hown, hts⟩ (t_X0_made l (qb 0) ((av3 6) x7.toNatClampNeg) ((av3 6) (x7 + (1 : Int32)).toNatClampNeg) _ hw) (cwV 2 hts gX5_raise_X0_made rfl rfl rfl (by decide +kernel) ⟨Nat.le_of_ble_eq_true rfl, Nat.le_of_ble_eq_true rfl⟩) (g_p0V hK hP (q0 := 22) rfl rfl) rfl rfl hl.1 rfl (lv_room (Nat.le_of_ble_eq_true rfl)) dX5_raise_49 ⟨Nat.le_of_ble_eq_true rfl, Nat.le_of_ble_eq_true rfl⟩) (fun hw => va_runU (As := [.int ((av3 6) x7.toNatClampNeg), .int ((av3 6) (x7 + (1 : Int32)).toNatClampNeg)]) (rest := [.int x2, .ref (q 14)]) ⟨hx, hb, hml, hown, hts⟩ (t_X1_made l (qb 1) ((av3 6) x7.toNatClampNeg) ((av3 6) (x7 + (1 : Int32)).toNatClampNeg) _ hw) (va_cwO 2 hts gX5_raise_X1_made_u112X1 rfl rfl rfl bcmade (by decide +kernel) ⟨Nat.le_of_ble_eq_true rfl, Nat.le_of_ble_eq_true rfl⟩) (g_p0V hK hP (q0 := 23) rfl rfl) rfl rfl hl.1 rfl (lv_room (Nat.le_of_ble_eq_true rfl)) dX5_raise_49 ⟨Nat.le_of_ble_eq_true rfl, Nat.le_of_ble_eq_true rfl⟩) (fun hw => va_runU (As := [.int ((av3 6) x7.toNatClampNeg), .int ((av3 6) (x7 + (1 : Int32)).toNatClampNeg)]) (rest := [.int x2, .ref (q 14)]) ⟨hx, hb, hml, hown, hts⟩ (t_X3_made l (qb 2) ((av3 6) x7.toNatClampNeg) ((av3 6) (x7 + (1 : Int32)).toNatClampNeg) _ hw) (va_cwO 2 hts gX5_raise_X3_made_u112X3 rfl rfl rfl bcmade (by decide +kernel) ⟨Nat.le_of_ble_eq_true rfl, Nat.le_of_ble_eq_true rfl⟩) (g_p0V hK hP (q0 := 24) rfl rfl) rfl rfl hl.1 rfl (lv_room (Nat.le_of_ble_eq_true rfl)) dX5_raise_49 ⟨Nat.le_of_ble_eq_true rfl, Nat.le_of_ble_eq_true rfl⟩) (fun hw => va_runU (As := [.int ((av3 6) x7.toNatClampNeg), .int ((av3 6) (x7 + (1 : Int32)).toNatClampNeg)]) (rest := [.int x2, .ref (q 14)]) ⟨hx, hb, hml, hown, hts⟩ (t_X9_made l (qb 3) ((av3 6) x7.toNatClampNeg) ((av3 6) (x7 + (1 : Int32)).toNatClampNeg) _ hw) (va_cwO 2 hts gX5_raise_X9_made_u112X9 rfl rfl rfl bcmade (by decide +kernel) ⟨Nat.le_of_ble_eq_true rfl, Nat.le_of_ble_eq_true rfl⟩) (g_p0V hK hP (q0 := 25) rfl rfl) rfl rfl hl.1 rfl (lv_room (Nat.le_of_ble_eq_true rfl)) dX5_raise_49 ⟨Nat.le_of_ble_eq_true rfl, Nat.le_of_ble_eq_true rfl⟩) (fun hw => va_runU (As := [.int ((av3 6) x7.toNatClampNeg), .int ((av3 6) (x7 + (1 : Int32)).toNatClampNeg)]) (rest := [.int x2, .ref (q 14)]) ⟨hx, hb, hml, hown, hts⟩ (t_X2_made l (qb 4) ((av3 6) x7.toNatClampNeg) ((av3 6) (x7 + (1 : Int32)).toNatClampNeg) _ hw) (va_cwO 2 hts gX5_raise_X2_made_u112X2 rfl rfl rfl bcmade (by decide +kernel) ⟨Nat.le_of_ble_eq_true rfl, Nat.le_of_ble_eq_true rfl⟩) (bk_pR hK hP (q0 := 26) rfl rfl) rfl rfl hl.1 rfl (lv_room (Nat.le_of_ble_eq_true rfl)) dX5_raise_49 ⟨Nat.le_of_ble_eq_true rfl, Nat.le_of_ble_eq_true rfl⟩) (fun r13 hw => ?_)
      obtain ⟨hb14, hw⟩ := hw
      refine va_iast hx hb hK hP hD hS 14 0 rfl rfl hb14 dX5_raise_52 (fun H locs hP hD hS => ?_)
      replace hP : va_P (dC, dI) vwCl ((W_P adK adV cI cB cS q qb n k f t (va_up av3 6 (upd (av3 6) x2.toNatClampNeg r13)) b sg) ++ va_pl sL (sgF sf)) H := hP
      replace hD : va_D A ((W_P adK adV cI cB cS q qb n k f t (va_up av3 6 (upd (av3 6) x2.toNatClampNeg r13)) b sg) ++ va_pl sL (sgF sf)) := hD
      obtain ⟨x15, ex15⟩ : ∃ y : Int32, y = x2 + (1 : Int32) := ⟨_, rfl⟩
      replace hw := hw x15 ex15
      refine lv_iinc (v := x15) (lv' := [(2, .int x15), (3, .int x7), (0, .ref (q 0)), (1, .ref (q 14))]) hx hb dX5_raise_53 hl (k := 3) rfl (by rw [ex15]; rfl) (by decide) rfl (fun ls hl => ?_)
      refine lv_goto (tgt := 5) hx hb dX5_raise_56 (by decide) ?_
      exact hw H locs ls hP hD hS (lv_sub hl [2, 3, 0] rfl)
