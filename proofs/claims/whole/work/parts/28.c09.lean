def w_J1_indexOfChar_4cfef (sm : Nat) (sb : Nat → Int32)   (p1 : Int32) (p2 : Int32) (p3 : Int32) (Q : Int32 → Unit → Prop) : Prop := ∀ x1 : Int32, x1 = (p1.toInt8.toInt32) → (∀ X3 : Int32 → Prop, (∀ (x2 : Int32), ((((p3 ≤ x2) → Q (-1 : Int32) ()) ∧ (¬ (p3 ≤ x2) → (vp_in x2 sm) ∧ (((¬ (sb x2.toNatClampNeg) = x1) → ∀ x7 : Int32, x7 = x2 + (1 : Int32) → X3 x7) ∧ ((sb x2.toNatClampNeg) = x1 → Q x2 ()))))) → X3 x2) → X3 p2)
abbrev rmJ1_indexOfChar_4cfef : Room := { frames := 0, cells := 0, slots := 0, locals := 0 }
set_option maxHeartbeats 4000000 in
set_option maxRecDepth 100000 in
theorem t_J1_indexOfChar_4cfef (l : Launch) (dC : Nat → ClassId) (dI : Nat → Nat → Nat) (adK : Nat → Nat) (adV : Nat → Nat) (sq : Nat) (sv : Nat) (sm : Nat) (sb : Nat → Int32) (sz : Nat)    (p1 : Int32) (p2 : Int32) (p3 : Int32) (Q0 : Int32 → Unit → Prop) (hw : w_J1_indexOfChar_4cfef sm sb   p1 p2 p3 Q0) : Met l yJ1_indexOfChar_4cfef wsJ1_indexOfChar_4cfef rmJ1_indexOfChar_4cfef (g_pre (czs adK adV sq sv sm sb) (dC, dI) vwCl [] (W_S adK adV sq sv sm sb ) sz [.ref sv, .int p1, .int p2, .int p3]) (g_qi (dC, dI) vwCl [] (fun u : Unit => (W_S adK adV sq sv sm sb )) Q0 (va_A (W_S adK adV sq sv sm sb ) sz)) 0 0 (va_A (W_S adK adV sq sv sm sb ) sz) := by
  refine g_starti (by decide) rfl (Nat.le_of_ble_eq_true rfl) ?_
  intro p e s m args below meth c A Q ls hx hb hml hown hts hin hK hP hD hA hS hZ hret hl
  obtain ⟨H, eH⟩ : ∃ H : Heap, H = s.heap := ⟨_, rfl⟩
  obtain ⟨locs, eL⟩ : ∃ L : List Loc, L = [] := ⟨_, rfl⟩
  have hS : va_S A s.heap H locs := by rw [eH, eL]; exact hS
  rw [← eH] at hP
  suffices hg : W p l e rmJ1_indexOfChar_4cfef s m args below meth c H locs 0 0 Q (F0 m 0 ls []) by rw [eH, eL] at hg; exact hg
  clear eH eL
  replace hl : lv_has ls 6 [(0, .ref sv), (1, .int p1), (2, .int p2), (3, .int p3)] := hl
  unfold w_J1_indexOfChar_4cfef at hw
  refine lv_iload_n hx hb dJ1_indexOfChar_4cfef_0 rfl (lv_at hl 1 rfl) ?_
  refine lv_i2b hx hb dJ1_indexOfChar_4cfef_1 rfl ?_
  refine lv_topi (fun x1 ex1 => ?_)
  replace hw := hw x1 ex1
  refine lv_istore (lv' := [(4, .int x1), (0, .ref sv), (1, .int p1), (2, .int p2), (3, .int p3)]) hx hb dJ1_indexOfChar_4cfef_2 hl (by decide) rfl (fun ls hl => ?_)
  refine lv_iload_n hx hb dJ1_indexOfChar_4cfef_4 rfl (lv_at hl 3 rfl) ?_
  refine lv_istore (lv' := [(5, .int p2), (4, .int x1), (0, .ref sv), (1, .int p1), (2, .int p2), (3, .int p3)]) hx hb dJ1_indexOfChar_4cfef_5 hl (by decide) rfl (fun ls hl => ?_)
  refine hw (fun (x2 : Int32) => ∀ (H : Heap) (locs : List Loc) (ls : Array Slot), va_P (dC, dI) vwCl (W_S adK adV sq sv sm sb ) H → va_D A (W_S adK adV sq sv sm sb ) → va_S A s.heap H locs → lv_has ls 6 [(0, .ref sv), (3, .int p3), (4, .int x1), (5, .int x2)] → W p l e rmJ1_indexOfChar_4cfef s m args below meth c H locs 0 0 Q (F0 m 7 ls [])) ?_ H locs ls hP hD hS (lv_sub hl [2, 5, 1, 0] rfl)
  · intro x2 hw H locs ls hP hD hS hl
    refine lv_iload hx hb dJ1_indexOfChar_4cfef_7 (lv_at hl 3 rfl) ?_
    refine lv_iload_n hx hb dJ1_indexOfChar_4cfef_9 rfl (lv_at hl 1 rfl) ?_
    refine lv_icmp_ge (tgt := 31) hx hb dJ1_indexOfChar_4cfef_10 (by decide) (fun hc4 => ?_) (fun hc4 => ?_)
    · replace hw := hw.1 hc4
      refine lv_iconst (v := -1) hx hb dJ1_indexOfChar_4cfef_31 (by decide) ?_
      exact hret dJ1_indexOfChar_4cfef_32 hK hP hD hS hw
    · replace hw := hw.2 hc4
      refine lv_aload_n hx hb dJ1_indexOfChar_4cfef_13 rfl (lv_at hl 0 rfl) ?_
      refine lv_iload hx hb dJ1_indexOfChar_4cfef_14 (lv_at hl 3 rfl) ?_
      obtain ⟨hb5, hw⟩ := hw
      refine va_tb hx hb hZ.2.2.2.2 hS hb5 (v := .int (sb x2.toNatClampNeg)) rfl dJ1_indexOfChar_4cfef_16 ?_
      refine lv_iload hx hb dJ1_indexOfChar_4cfef_17 (lv_at hl 2 rfl) ?_
      refine lv_icmp_ne (tgt := 25) hx hb dJ1_indexOfChar_4cfef_19 (by decide) (fun hc6 => ?_) (fun hc6 => ?_)
      · replace hw := hw.1 hc6
        obtain ⟨x7, ex7⟩ : ∃ y : Int32, y = x2 + (1 : Int32) := ⟨_, rfl⟩
        replace hw := hw x7 ex7
        refine lv_iinc (v := x7) (lv' := [(5, .int x7), (0, .ref sv), (3, .int p3), (4, .int x1)]) hx hb dJ1_indexOfChar_4cfef_25 hl (k := 3) rfl (by rw [ex7]; rfl) (by decide) rfl (fun ls hl => ?_)
        refine lv_goto (tgt := 7) hx hb dJ1_indexOfChar_4cfef_28 (by decide) ?_
        exact hw H locs ls hP hD hS (lv_sub hl [1, 2, 3, 0] rfl)
      · replace hw := hw.2 hc6
        refine lv_iload hx hb dJ1_indexOfChar_4cfef_22 (lv_at hl 3 rfl) ?_
        exact hret dJ1_indexOfChar_4cfef_24 hK hP hD hS hw

def w_J1_indexOf_4cfef (sm : Nat) (sb : Nat → Int32)   (p1 : Int32) (p2 : Int32) (p3 : Int32) (Q : Int32 → Unit → Prop) : Prop := w_J1_canEncode_9a6ad p1 (fun (r1 : Int32) => (((¬ r1 = 0) → ∀ x3 : Int32, x3 = (if p2 < (0 : Int32) then (0 : Int32) else p2) → ∀ x4 : Int32, x4 = (if (nI sm) < p3 then (nI sm) else p3) → (((x3 < x4) → w_J1_indexOfChar_4cfef sm sb  p1 x3 x4 (fun (r7 : Int32) (u6 : Unit) => Q r7 ())) ∧ (¬ (x3 < x4) → Q (-1 : Int32) ()))) ∧ (r1 = 0 → Q (-1 : Int32) ())))
abbrev rmJ1_indexOf_4cfef : Room := { frames := 1, cells := 0, slots := 0, locals := 40 }
set_option maxHeartbeats 4000000 in
set_option maxRecDepth 100000 in
theorem t_J1_indexOf_4cfef (l : Launch) (dC : Nat → ClassId) (dI : Nat → Nat → Nat) (adK : Nat → Nat) (adV : Nat → Nat) (sq : Nat) (sv : Nat) (sm : Nat) (sb : Nat → Int32) (sz : Nat)    (p1 : Int32) (p2 : Int32) (p3 : Int32) (Q0 : Int32 → Unit → Prop) (hw : w_J1_indexOf_4cfef sm sb   p1 p2 p3 Q0) : Met l yJ1_indexOf_4cfef wsJ1_indexOf_4cfef rmJ1_indexOf_4cfef (g_pre (czs adK adV sq sv sm sb) (dC, dI) vwCl [] (W_S adK adV sq sv sm sb ) sz [.ref sv, .int p1, .int p2, .int p3]) (g_qi (dC, dI) vwCl [] (fun u : Unit => (W_S adK adV sq sv sm sb )) Q0 (va_A (W_S adK adV sq sv sm sb ) sz)) 0 0 (va_A (W_S adK adV sq sv sm sb ) sz) := by
  refine g_starti (by decide) rfl (Nat.le_of_ble_eq_true rfl) ?_
  intro p e s m args below meth c A Q ls hx hb hml hown hts hin hK hP hD hA hS hZ hret hl
  obtain ⟨H, eH⟩ : ∃ H : Heap, H = s.heap := ⟨_, rfl⟩
  obtain ⟨locs, eL⟩ : ∃ L : List Loc, L = [] := ⟨_, rfl⟩
  have hS : va_S A s.heap H locs := by rw [eH, eL]; exact hS
  rw [← eH] at hP
  suffices hg : W p l e rmJ1_indexOf_4cfef s m args below meth c H locs 0 0 Q (F0 m 0 ls []) by rw [eH, eL] at hg; exact hg
  clear eH eL
  replace hl : lv_has ls 4 [(0, .ref sv), (1, .int p1), (2, .int p2), (3, .int p3)] := hl
  have ml92 := hts (.methodLink RJ1 92 Lib.Math.max.name) (by decide +kernel)
  have msmax := hts (.static Lib.Math.max.name) (by decide +kernel)
  have miMath := hts (.initialized "java/lang/Math") (by decide +kernel)
  have mcmax := hts (.code Lib.Math.max.name Lib.Math.max.code 2 (some .int)) (by decide +kernel)
  have ml38 := hts (.methodLink RJ1 38 Lib.Math.min.name) (by decide +kernel)
  have msmin := hts (.static Lib.Math.min.name) (by decide +kernel)
  have mcmin := hts (.code Lib.Math.min.name Lib.Math.min.code 2 (some .int)) (by decide +kernel)
  unfold w_J1_indexOf_4cfef at hw
  refine lv_iload_n hx hb dJ1_indexOf_4cfef_0 rfl (lv_at hl 1 rfl) ?_
  refine g_c0 (rest := []) (va_runS (As := [.int p1]) (rest := []) ⟨hx, hb, hml, hown, hts⟩ (t_J1_canEncode_9a6ad l  p1 _ hw) (va_cwS 1 hts gJ1_indexOf_4cfef_J1_canEncode_9a6ad rfl rfl rfl (by decide +kernel) ⟨Nat.le_of_ble_eq_true rfl, Nat.le_of_ble_eq_true rfl⟩) g_p0S rfl rfl hl.1 rfl (lv_room (Nat.le_of_ble_eq_true rfl)) dJ1_indexOf_4cfef_1 ⟨Nat.le_of_ble_eq_true rfl, Nat.le_of_ble_eq_true rfl⟩) (fun r1 hw => ?_)
  refine lv_if_ne (tgt := 9) hx hb dJ1_indexOf_4cfef_4 (by decide) (fun hc2 => ?_) (fun hc2 => ?_)
  · replace hw := hw.1 hc2
    refine lv_iload_n hx hb dJ1_indexOf_4cfef_9 rfl (lv_at hl 2 rfl) ?_
    refine lv_iconst (v := 0) hx hb dJ1_indexOf_4cfef_10 (by decide) ?_
    refine va_mmax hx hb (hml.trans hl.1.symm) hown ml92 msmax miMath mcmax (Nat.le_of_ble_eq_true rfl) (Nat.le_of_ble_eq_true rfl) (Nat.le_of_ble_eq_true rfl) (Nat.le_of_ble_eq_true rfl) dJ1_indexOf_4cfef_11 ?_
    refine lv_topi (fun x3 ex3 => ?_)
    replace hw := hw x3 ex3
    refine lv_istore_n (lv' := [(2, .int x3), (0, .ref sv), (1, .int p1), (3, .int p3)]) hx hb dJ1_indexOf_4cfef_14 rfl hl (by decide) rfl (fun ls hl => ?_)
    refine lv_iload_n hx hb dJ1_indexOf_4cfef_15 rfl (lv_at hl 3 rfl) ?_
    refine lv_aload_n hx hb dJ1_indexOf_4cfef_16 rfl (lv_at hl 1 rfl) ?_
    refine va_tlen hx hb hZ.2.2.2.2 hS (v := nI sm) rfl dJ1_indexOf_4cfef_17 ?_
    refine va_mmin hx hb (hml.trans hl.1.symm) hown ml38 msmin miMath mcmin (Nat.le_of_ble_eq_true rfl) (Nat.le_of_ble_eq_true rfl) (Nat.le_of_ble_eq_true rfl) (Nat.le_of_ble_eq_true rfl) dJ1_indexOf_4cfef_18 ?_
    refine lv_topi (fun x4 ex4 => ?_)
    replace hw := hw x4 ex4
    refine lv_istore_n (lv' := [(3, .int x4), (2, .int x3), (0, .ref sv), (1, .int p1)]) hx hb dJ1_indexOf_4cfef_21 rfl hl (by decide) rfl (fun ls hl => ?_)
    refine lv_iload_n hx hb dJ1_indexOf_4cfef_22 rfl (lv_at hl 1 rfl) ?_
    refine lv_iload_n hx hb dJ1_indexOf_4cfef_23 rfl (lv_at hl 0 rfl) ?_
    refine lv_icmp_lt (tgt := 29) hx hb dJ1_indexOf_4cfef_24 (by decide) (fun hc5 => ?_) (fun hc5 => ?_)
    · replace hw := hw.1 hc5
      refine lv_aload_n hx hb dJ1_indexOf_4cfef_29 rfl (lv_at hl 2 rfl) ?_
      refine lv_iload_n hx hb dJ1_indexOf_4cfef_30 rfl (lv_at hl 3 rfl) ?_
      refine lv_iload_n hx hb dJ1_indexOf_4cfef_31 rfl (lv_at hl 1 rfl) ?_
      refine lv_iload_n hx hb dJ1_indexOf_4cfef_32 rfl (lv_at hl 0 rfl) ?_
      refine g_ci (g_J.plain (W2 := fun u6 : Unit => (W_S adK adV sq sv sm sb )) [] [] [] [] rfl (by decide) rfl (by decide) (by decide) (fun _ => rfl) (by decide)) [] hK hP hD hS hA rfl (fun hPc hDc hKc hFc => va_runS (As := [.ref sv, .int p1, .int x3, .int x4]) (rest := []) ⟨hx, hb, hml, hown, hts⟩ (t_J1_indexOfChar_4cfef l dC dI adK adV sq sv sm sb H.size   p1 x3 x4 _ hw) (va_cwS 4 hts gJ1_indexOf_4cfef_J1_indexOfChar_4cfef rfl rfl rfl (by decide +kernel) ⟨Nat.le_of_ble_eq_true rfl, Nat.le_of_ble_eq_true rfl⟩) (g_pS czsb hPc hDc hKc (czsc hZ hS hFc)) rfl rfl hl.1 rfl (lv_room (Nat.le_of_ble_eq_true rfl)) dJ1_indexOf_4cfef_33 ⟨Nat.le_of_ble_eq_true rfl, Nat.le_of_ble_eq_true rfl⟩) (fun r7 u6 H locs hw hP hD hS => ?_)
      replace hP : va_P (dC, dI) vwCl (W_S adK adV sq sv sm sb ) H := hP
      replace hD : va_D A (W_S adK adV sq sv sm sb ) := hD
      exact hret dJ1_indexOf_4cfef_36 hK hP hD hS hw
    · replace hw := hw.2 hc5
      refine lv_iconst (v := -1) hx hb dJ1_indexOf_4cfef_27 (by decide) ?_
      exact hret dJ1_indexOf_4cfef_28 hK hP hD hS hw
  · replace hw := hw.2 hc2
    refine lv_iconst (v := -1) hx hb dJ1_indexOf_4cfef_7 (by decide) ?_
    exact hret dJ1_indexOf_4cfef_8 hK hP hD hS hw

def w_J0_indexOf_7cf53 (sm : Nat) (sb : Nat → Int32)   (p0 : Int32) (p1 : Int32) (Q : Int32 → Unit → Prop) : Prop := w_J0_isLatin1_aae02 sm sb   (fun (r2 : Int32) (u1 : Unit) => (((r2 = 0) → w_J0_length_8abf5 sm sb   (fun (r5 : Int32) (u4 : Unit) => False)) ∧ (¬ (r2 = 0) → w_J0_length_8abf5 sm sb   (fun (r7 : Int32) (u6 : Unit) => w_J1_indexOf_4cfef sm sb  p0 p1 r7 (fun (r9 : Int32) (u8 : Unit) => Q r9 ())))))
abbrev rmJ0_indexOf_7cf53 : Room := { frames := 2, cells := 0, slots := 0, locals := 63 }
set_option maxHeartbeats 4000000 in
set_option maxRecDepth 100000 in
theorem t_J0_indexOf_7cf53 (l : Launch) (dC : Nat → ClassId) (dI : Nat → Nat → Nat) (adK : Nat → Nat) (adV : Nat → Nat) (sq : Nat) (sv : Nat) (sm : Nat) (sb : Nat → Int32) (sz : Nat)    (p0 : Int32) (p1 : Int32) (Q0 : Int32 → Unit → Prop) (hw : w_J0_indexOf_7cf53 sm sb   p0 p1 Q0) : Met l yJ0_indexOf_7cf53 wsJ0_indexOf_7cf53 rmJ0_indexOf_7cf53 (g_pre (czs adK adV sq sv sm sb) (dC, dI) vwCl [] (W_S adK adV sq sv sm sb ) sz [.ref sq, .int p0, .int p1]) (g_qi (dC, dI) vwCl [] (fun u : Unit => (W_S adK adV sq sv sm sb )) Q0 (va_A (W_S adK adV sq sv sm sb ) sz)) 0 0 (va_A (W_S adK adV sq sv sm sb ) sz) := by
  refine g_starti (by decide) rfl (Nat.le_of_ble_eq_true rfl) ?_
  intro p e s m args below meth c A Q ls hx hb hml hown hts hin hK hP hD hA hS hZ hret hl
  obtain ⟨H, eH⟩ : ∃ H : Heap, H = s.heap := ⟨_, rfl⟩
  obtain ⟨locs, eL⟩ : ∃ L : List Loc, L = [] := ⟨_, rfl⟩
  have hS : va_S A s.heap H locs := by rw [eH, eL]; exact hS
  rw [← eH] at hP
  suffices hg : W p l e rmJ0_indexOf_7cf53 s m args below meth c H locs 0 0 Q (F0 m 0 ls []) by rw [eH, eL] at hg; exact hg
  clear eH eL
  replace hl : lv_has ls 3 [(0, .ref sq), (1, .int p0), (2, .int p1)] := hl
  have hf9 := hts (.fieldLink RJ0 9 "java/lang/String" "value" "[B") (by decide +kernel)
  unfold w_J0_indexOf_7cf53 at hw
  refine lv_aload_n hx hb dJ0_indexOf_7cf53_0 rfl (lv_at hl 0 rfl) ?_
  refine g_ci (g_J.plain (W2 := fun u1 : Unit => (W_S adK adV sq sv sm sb )) [] [] [] [] rfl (by decide) rfl (by decide) (by decide) (fun _ => rfl) (by decide)) [] hK hP hD hS hA rfl (fun hPc hDc hKc hFc => va_runV (As := []) (rest := []) ⟨hx, hb, hml, hown, hts⟩ (t_J0_isLatin1_aae02 l dC dI adK adV sq sv sm sb H.size    _ hw) (cwV 0 hts gJ0_indexOf_7cf53_J0_isLatin1_aae02 rfl rfl rfl (by decide +kernel) ⟨Nat.le_of_ble_eq_true rfl, Nat.le_of_ble_eq_true rfl⟩) (g_pVs czsb hZ.2 hS hPc hDc hKc (czsc hZ hS hFc)) rfl rfl hl.1 rfl (lv_room (Nat.le_of_ble_eq_true rfl)) dJ0_indexOf_7cf53_1 ⟨Nat.le_of_ble_eq_true rfl, Nat.le_of_ble_eq_true rfl⟩) (fun r2 u1 H locs hw hP hD hS => ?_)
  replace hP : va_P (dC, dI) vwCl (W_S adK adV sq sv sm sb ) H := hP
  replace hD : va_D A (W_S adK adV sq sv sm sb ) := hD
  refine lv_if_eq (tgt := 23) hx hb dJ0_indexOf_7cf53_4 (by decide) (fun hc3 => ?_) (fun hc3 => ?_)
  · replace hw := hw.1 hc3
    refine lv_aload_n hx hb dJ0_indexOf_7cf53_23 rfl (lv_at hl 0 rfl) ?_
    refine vk_getf hx hb (v := .ref sv) hZ.2.2.2.1 hS hown hf9 (fun _ h9 => h9) dJ0_indexOf_7cf53_24 ?_
    refine lv_iload_n hx hb dJ0_indexOf_7cf53_27 rfl (lv_at hl 1 rfl) ?_
    refine lv_iload_n hx hb dJ0_indexOf_7cf53_28 rfl (lv_at hl 2 rfl) ?_
    refine lv_aload_n hx hb dJ0_indexOf_7cf53_29 rfl (lv_at hl 0 rfl) ?_
    refine g_ci (g_J.plain (W2 := fun u4 : Unit => (W_S adK adV sq sv sm sb )) [] [] [] [] rfl (by decide) rfl (by decide) (by decide) (fun _ => rfl) (by decide)) [] hK hP hD hS hA rfl (fun hPc hDc hKc hFc => va_runV (As := []) (rest := [.int p1, .int p0, .ref sv]) ⟨hx, hb, hml, hown, hts⟩ (t_J0_length_8abf5 l dC dI adK adV sq sv sm sb H.size    _ hw) (cwV 0 hts gJ0_indexOf_7cf53_J0_length_8abf5 rfl rfl rfl (by decide +kernel) ⟨Nat.le_of_ble_eq_true rfl, Nat.le_of_ble_eq_true rfl⟩) (g_pVs czsb hZ.2 hS hPc hDc hKc (czsc hZ hS hFc)) rfl rfl hl.1 rfl (lv_room (Nat.le_of_ble_eq_true rfl)) dJ0_indexOf_7cf53_30 ⟨Nat.le_of_ble_eq_true rfl, Nat.le_of_ble_eq_true rfl⟩) (fun r5 u4 H locs hw hP hD hS => ?_)
    replace hP : va_P (dC, dI) vwCl (W_S adK adV sq sv sm sb ) H := hP
    replace hD : va_D A (W_S adK adV sq sv sm sb ) := hD
    exact hw.elim
  · replace hw := hw.2 hc3
    refine lv_aload_n hx hb dJ0_indexOf_7cf53_7 rfl (lv_at hl 0 rfl) ?_
    refine vk_getf hx hb (v := .ref sv) hZ.2.2.2.1 hS hown hf9 (fun _ h9 => h9) dJ0_indexOf_7cf53_8 ?_
    refine lv_iload_n hx hb dJ0_indexOf_7cf53_11 rfl (lv_at hl 1 rfl) ?_
    refine lv_iload_n hx hb dJ0_indexOf_7cf53_12 rfl (lv_at hl 2 rfl) ?_
    refine lv_aload_n hx hb dJ0_indexOf_7cf53_13 rfl (lv_at hl 0 rfl) ?_
    refine g_ci (g_J.plain (W2 := fun u6 : Unit => (W_S adK adV sq sv sm sb )) [] [] [] [] rfl (by decide) rfl (by decide) (by decide) (fun _ => rfl) (by decide)) [] hK hP hD hS hA rfl (fun hPc hDc hKc hFc => va_runV (As := []) (rest := [.int p1, .int p0, .ref sv]) ⟨hx, hb, hml, hown, hts⟩ (t_J0_length_8abf5 l dC dI adK adV sq sv sm sb H.size    _ hw) (cwV 0 hts gJ0_indexOf_7cf53_J0_length_8abf5 rfl rfl rfl (by decide +kernel) ⟨Nat.le_of_ble_eq_true rfl, Nat.le_of_ble_eq_true rfl⟩) (g_pVs czsb hZ.2 hS hPc hDc hKc (czsc hZ hS hFc)) rfl rfl hl.1 rfl (lv_room (Nat.le_of_ble_eq_true rfl)) dJ0_indexOf_7cf53_14 ⟨Nat.le_of_ble_eq_true rfl, Nat.le_of_ble_eq_true rfl⟩) (fun r7 u6 H locs hw hP hD hS => ?_)
    replace hP : va_P (dC, dI) vwCl (W_S adK adV sq sv sm sb ) H := hP
    replace hD : va_D A (W_S adK adV sq sv sm sb ) := hD
    refine g_ci (g_J.plain (W2 := fun u8 : Unit => (W_S adK adV sq sv sm sb )) [] [] [] [] rfl (by decide) rfl (by decide) (by decide) (fun _ => rfl) (by decide)) [] hK hP hD hS hA rfl (fun hPc hDc hKc hFc => va_runS (As := [.ref sv, .int p0, .int p1, .int r7]) (rest := []) ⟨hx, hb, hml, hown, hts⟩ (t_J1_indexOf_4cfef l dC dI adK adV sq sv sm sb H.size   p0 p1 r7 _ hw) (va_cwS 4 hts gJ0_indexOf_7cf53_J1_indexOf_4cfef rfl rfl rfl (by decide +kernel) ⟨Nat.le_of_ble_eq_true rfl, Nat.le_of_ble_eq_true rfl⟩) (g_pS czsb hPc hDc hKc (czsc hZ hS hFc)) rfl rfl hl.1 rfl (lv_room (Nat.le_of_ble_eq_true rfl)) dJ0_indexOf_7cf53_17 ⟨Nat.le_of_ble_eq_true rfl, Nat.le_of_ble_eq_true rfl⟩) (fun r9 u8 H locs hw hP hD hS => ?_)
    replace hP : va_P (dC, dI) vwCl (W_S adK adV sq sv sm sb ) H := hP
    replace hD : va_D A (W_S adK adV sq sv sm sb ) := hD
    refine lv_goto (tgt := 36) hx hb dJ0_indexOf_7cf53_20 (by decide) ?_
    exact hret dJ0_indexOf_7cf53_36 hK hP hD hS hw

def w_J0_indexOf_0f7a4 (sm : Nat) (sb : Nat → Int32)   (p0 : Int32) (Q : Int32 → Unit → Prop) : Prop := w_J0_indexOf_7cf53 sm sb  p0 (0 : Int32) (fun (r2 : Int32) (u1 : Unit) => Q r2 ())
abbrev rmJ0_indexOf_0f7a4 : Room := { frames := 3, cells := 0, slots := 0, locals := 85 }
set_option maxHeartbeats 4000000 in
set_option maxRecDepth 100000 in
theorem t_J0_indexOf_0f7a4 (l : Launch) (dC : Nat → ClassId) (dI : Nat → Nat → Nat) (adK : Nat → Nat) (adV : Nat → Nat) (sq : Nat) (sv : Nat) (sm : Nat) (sb : Nat → Int32) (sz : Nat)    (p0 : Int32) (Q0 : Int32 → Unit → Prop) (hw : w_J0_indexOf_0f7a4 sm sb   p0 Q0) : Met l yJ0_indexOf_0f7a4 wsJ0_indexOf_0f7a4 rmJ0_indexOf_0f7a4 (g_pre (czs adK adV sq sv sm sb) (dC, dI) vwCl [] (W_S adK adV sq sv sm sb ) sz [.ref sq, .int p0]) (g_qi (dC, dI) vwCl [] (fun u : Unit => (W_S adK adV sq sv sm sb )) Q0 (va_A (W_S adK adV sq sv sm sb ) sz)) 0 0 (va_A (W_S adK adV sq sv sm sb ) sz) := by
  refine g_starti (by decide) rfl (Nat.le_of_ble_eq_true rfl) ?_
  intro p e s m args below meth c A Q ls hx hb hml hown hts hin hK hP hD hA hS hZ hret hl
  obtain ⟨H, eH⟩ : ∃ H : Heap, H = s.heap := ⟨_, rfl⟩
  obtain ⟨locs, eL⟩ : ∃ L : List Loc, L = [] := ⟨_, rfl⟩
  have hS : va_S A s.heap H locs := by rw [eH, eL]; exact hS
  rw [← eH] at hP
  suffices hg : W p l e rmJ0_indexOf_0f7a4 s m args below meth c H locs 0 0 Q (F0 m 0 ls []) by rw [eH, eL] at hg; exact hg
  clear eH eL
  replace hl : lv_has ls 2 [(0, .ref sq), (1, .int p0)] := hl
  unfold w_J0_indexOf_0f7a4 at hw
  refine lv_aload_n hx hb dJ0_indexOf_0f7a4_0 rfl (lv_at hl 0 rfl) ?_
  refine lv_iload_n hx hb dJ0_indexOf_0f7a4_1 rfl (lv_at hl 1 rfl) ?_
  refine lv_iconst (v := 0) hx hb dJ0_indexOf_0f7a4_2 (by decide) ?_
  refine g_ci (g_J.plain (W2 := fun u1 : Unit => (W_S adK adV sq sv sm sb )) [] [] [] [] rfl (by decide) rfl (by decide) (by decide) (fun _ => rfl) (by decide)) [] hK hP hD hS hA rfl (fun hPc hDc hKc hFc => va_runV (As := [.int p0, .int (0 : Int32)]) (rest := []) ⟨hx, hb, hml, hown, hts⟩ (t_J0_indexOf_7cf53 l dC dI adK adV sq sv sm sb H.size   p0 (0 : Int32) _ hw) (cwV 2 hts gJ0_indexOf_0f7a4_J0_indexOf_7cf53 rfl rfl rfl (by decide +kernel) ⟨Nat.le_of_ble_eq_true rfl, Nat.le_of_ble_eq_true rfl⟩) (g_pVs czsb hZ.2 hS hPc hDc hKc (czsc hZ hS hFc)) rfl rfl hl.1 rfl (lv_room (Nat.le_of_ble_eq_true rfl)) dJ0_indexOf_0f7a4_3 ⟨Nat.le_of_ble_eq_true rfl, Nat.le_of_ble_eq_true rfl⟩) (fun r2 u1 H locs hw hP hD hS => ?_)
  replace hP : va_P (dC, dI) vwCl (W_S adK adV sq sv sm sb ) H := hP
  replace hD : va_D A (W_S adK adV sq sv sm sb ) := hD
  exact hret dJ0_indexOf_0f7a4_6 hK hP hD hS hw

def w_J1_canEncode_fc78d  (p0 : Int32) (Q : Int32 → Prop) : Prop := ((((255 : Int32) < p0) → Q (0 : Int32)) ∧ (¬ ((255 : Int32) < p0) → Q (1 : Int32)))
abbrev rmJ1_canEncode_fc78d : Room := { frames := 0, cells := 0, slots := 0, locals := 0 }
set_option maxHeartbeats 4000000 in
set_option maxRecDepth 100000 in
theorem t_J1_canEncode_fc78d (l : Launch)   (p0 : Int32) (Q0 : Int32 → Prop) (hw : w_J1_canEncode_fc78d  p0 Q0) : Met l yJ1_canEncode_fc78d wsJ1_canEncode_fc78d rmJ1_canEncode_fc78d (g_pr0 [.int p0]) (vp_Si Q0) 0 0 (fun _ => False) := by
  refine g_start0z (by decide) rfl (Nat.le_of_ble_eq_true rfl) ?_
  intro p e s m args below meth c Q H ls hx hb hml hown hts hret hl
  replace hl : lv_has ls 1 [(0, .int p0)] := hl
  unfold w_J1_canEncode_fc78d at hw
  refine lv_iload_n hx hb dJ1_canEncode_fc78d_0 rfl (lv_at hl 0 rfl) ?_
  refine lv_sipush (v := 255) hx hb dJ1_canEncode_fc78d_1 (by decide) ?_
  refine lv_icmp_gt (tgt := 11) hx hb dJ1_canEncode_fc78d_4 (by decide) (fun hc1 => ?_) (fun hc1 => ?_)
  · replace hw := hw.1 hc1
    refine lv_iconst (v := 0) hx hb dJ1_canEncode_fc78d_11 (by decide) ?_
    exact hret dJ1_canEncode_fc78d_12 isB_0 hw
  · replace hw := hw.2 hc1
    refine lv_iconst (v := 1) hx hb dJ1_canEncode_fc78d_7 (by decide) ?_
    refine lv_goto (tgt := 12) hx hb dJ1_canEncode_fc78d_8 (by decide) ?_
    exact hret dJ1_canEncode_fc78d_12 isB_1 hw

def w_J8_newLength_cabcc  (p0 : Int32) (p1 : Int32) (p2 : Int32) (Q : Int32 → Prop) : Prop := ∀ x1 : Int32, x1 = (p0 + (if p1 < p2 then p2 else p1)) → ∀ J2 : Prop, ((False) → J2) → (((x1 ≤ (0 : Int32)) → J2) ∧ (¬ (x1 ≤ (0 : Int32)) → ((((2147483639 : Int32) < x1) → J2) ∧ (¬ ((2147483639 : Int32) < x1) → Q x1))))
abbrev rmJ8_newLength_cabcc : Room := { frames := 1, cells := 0, slots := 0, locals := 40 }
set_option maxHeartbeats 4000000 in
set_option maxRecDepth 100000 in
theorem t_J8_newLength_cabcc (l : Launch)   (p0 : Int32) (p1 : Int32) (p2 : Int32) (Q0 : Int32 → Prop) (hw : w_J8_newLength_cabcc  p0 p1 p2 Q0) : Met l yJ8_newLength_cabcc wsJ8_newLength_cabcc rmJ8_newLength_cabcc (g_pr0 [.int p0, .int p1, .int p2]) (vp_Si Q0) 0 0 (fun _ => False) := by
  refine g_start0i (by decide) rfl (Nat.le_of_ble_eq_true rfl) ?_
  intro p e s m args below meth c Q H ls hx hb hml hown hts hret hl
  replace hl : lv_has ls 4 [(0, .int p0), (1, .int p1), (2, .int p2)] := hl
  have ml194 := hts (.methodLink RJ8 194 Lib.Math.max.name) (by decide +kernel)
  have msmax := hts (.static Lib.Math.max.name) (by decide +kernel)
  have miMath := hts (.initialized "java/lang/Math") (by decide +kernel)
  have mcmax := hts (.code Lib.Math.max.name Lib.Math.max.code 2 (some .int)) (by decide +kernel)
  have kc200 := hts (.constant RJ8 200 (2147483639)) (by decide +kernel)
  unfold w_J8_newLength_cabcc at hw
  refine lv_iload_n hx hb dJ8_newLength_cabcc_0 rfl (lv_at hl 0 rfl) ?_
  refine lv_iload_n hx hb dJ8_newLength_cabcc_1 rfl (lv_at hl 1 rfl) ?_
  refine lv_iload_n hx hb dJ8_newLength_cabcc_2 rfl (lv_at hl 2 rfl) ?_
  refine va_mmax hx hb (hml.trans hl.1.symm) hown ml194 msmax miMath mcmax (Nat.le_of_ble_eq_true rfl) (Nat.le_of_ble_eq_true rfl) (Nat.le_of_ble_eq_true rfl) (Nat.le_of_ble_eq_true rfl) dJ8_newLength_cabcc_3 ?_
  refine lv_iadd hx hb dJ8_newLength_cabcc_6 ?_
  refine lv_topi (fun x1 ex1 => ?_)
  replace hw := hw x1 ex1
  refine lv_istore_n (lv' := [(3, .int x1), (0, .int p0), (1, .int p1), (2, .int p2)]) hx hb dJ8_newLength_cabcc_7 rfl hl (by decide) rfl (fun ls hl => ?_)
  refine lv_iconst (v := 0) hx hb dJ8_newLength_cabcc_8 (by decide) ?_
  refine lv_iload_n hx hb dJ8_newLength_cabcc_9 rfl (lv_at hl 0 rfl) ?_
  replace hw := hw (∀ (ls : Array Slot), lv_has ls 4 [(0, .int p0), (1, .int p1)] → W p l e rmJ8_newLength_cabcc s m args below meth c H [] 0 0 Q (F0 m 21 ls [])) (by
    intro hw ls hl
    refine lv_iload_n hx hb dJ8_newLength_cabcc_21 rfl (lv_at hl 0 rfl) ?_
    refine lv_iload_n hx hb dJ8_newLength_cabcc_22 rfl (lv_at hl 1 rfl) ?_
    exact hw.elim)
  refine lv_icmp_ge (tgt := 21) hx hb dJ8_newLength_cabcc_10 (by decide) (fun hc3 => ?_) (fun hc3 => ?_)
  · replace hw := hw.1 hc3
    exact hw ls (lv_sub hl [1, 2] rfl)
  · replace hw := hw.2 hc3
    refine lv_iload_n hx hb dJ8_newLength_cabcc_13 rfl (lv_at hl 0 rfl) ?_
    refine lv_ldc hx hb hown kc200 dJ8_newLength_cabcc_14 ?_
    refine lv_icmp_gt (tgt := 21) hx hb dJ8_newLength_cabcc_16 (by decide) (fun hc4 => ?_) (fun hc4 => ?_)
    · replace hw := hw.1 hc4
      exact hw ls (lv_sub hl [1, 2] rfl)
    · replace hw := hw.2 hc4
      refine lv_iload_n hx hb dJ8_newLength_cabcc_19 rfl (lv_at hl 0 rfl) ?_
      exact hret dJ8_newLength_cabcc_20 hw

def w_J7_copyOf_9075b (n : Nat) (x : Nat → Int32)  (p1 : Int32) (Q : (Nat × (Nat → Int32) × Nat) → Prop) : Prop := (((¬ p1 = (nI n)) → ∃ N2 : Nat, (p1 = nI N2) ∧ (N2 ≤ 40) ∧ ∀ q3 : Nat, ((¬ (0 : Int32) < 0) ∧ (¬ (0 : Int32) < 0) ∧ (¬ (if p1 < (nI n) then p1 else (nI n)) < 0) ∧ ((0 : Int32).toNatClampNeg + (if p1 < (nI n) then p1 else (nI n)).toNatClampNeg ≤ n) ∧ ((0 : Int32).toNatClampNeg + (if p1 < (nI n) then p1 else (nI n)).toNatClampNeg ≤ N2)) ∧ (∀ i : Nat, i < (if p1 < (nI n) then p1 else (nI n)).toNatClampNeg → fits .byte (.int (x ((0 : Int32).toNatClampNeg + i))) = true) ∧ Q (q3, (va_cpy x (fun _ => 0) (0 : Int32).toNatClampNeg (0 : Int32).toNatClampNeg (if p1 < (nI n) then p1 else (nI n)).toNatClampNeg), N2)) ∧ (p1 = (nI n) → False))
abbrev rmJ7_copyOf_9075b : Room := { frames := 1, cells := 1, slots := 40, locals := 60 }
set_option maxHeartbeats 4000000 in
set_option maxRecDepth 100000 in
theorem t_J7_copyOf_9075b (l : Launch) (dC : Nat → ClassId) (dI : Nat → Nat → Nat) (cY : ClassId) (b : Nat) (n : Nat) (sz : Nat) (x : Nat → Int32)   (p1 : Int32) (Q0 : (Nat × (Nat → Int32) × Nat) → Prop) (hw : w_J7_copyOf_9075b n x  p1 Q0) : Met l yJ7_copyOf_9075b wsJ7_copyOf_9075b rmJ7_copyOf_9075b (g_pre g_T (dC, dI) vwCl [(cY, .byte)] (W_Y cY b n x) sz [.ref b, .int p1]) (g_qr (dC, dI) vwCl [(cY, .byte)] (fun u : (Nat × (Nat → Int32) × Nat) => (W_Y cY b n x) ++ [(u.1, .inl (cY, u.2.2, .inl u.2.1))]) (fun u : (Nat × (Nat → Int32) × Nat) => u.1) Q0 (va_A (W_Y cY b n x) sz)) 1 40 (va_A (W_Y cY b n x) sz) := by
  refine g_startr (Or.inr ⟨_, rfl⟩) (by decide) rfl (Nat.le_of_ble_eq_true rfl) ?_
  intro p e s m args below meth c A Q ls hx hb hml hown hts hin hK hP hD hA hS hZ hret hl
  obtain ⟨H, eH⟩ : ∃ H : Heap, H = s.heap := ⟨_, rfl⟩
  obtain ⟨locs, eL⟩ : ∃ L : List Loc, L = [] := ⟨_, rfl⟩
  have hS : va_S A s.heap H locs := by rw [eH, eL]; exact hS
  rw [← eH] at hP
  suffices hg : W p l e rmJ7_copyOf_9075b s m args below meth c H locs 0 0 Q (F0 m 0 ls []) by rw [eH, eL] at hg; exact hg
  clear eH eL
  replace hl : lv_has ls 3 [(0, .ref b), (1, .int p1)] := hl
  have acB := hts (.arrayClass .byte) (by decide +kernel)
  have ml304 := hts (.methodLink RJ7 304 Lib.Math.min.name) (by decide +kernel)
  have msmin := hts (.static Lib.Math.min.name) (by decide +kernel)
  have miMath := hts (.initialized "java/lang/Math") (by decide +kernel)
  have mcmin := hts (.code Lib.Math.min.name Lib.Math.min.code 2 (some .int)) (by decide +kernel)
  have al150 := hts (.methodLink RJ7 150 arraycopyName) (by decide +kernel)
  have acn := hts (.native arraycopyName) (by decide +kernel)
  have acs := hts (.static arraycopyName) (by decide +kernel)
  have aci := hts (.initialized "java/lang/System") (by decide +kernel)
  unfold w_J7_copyOf_9075b at hw
  refine lv_iload_n hx hb dJ7_copyOf_9075b_0 rfl (lv_at hl 1 rfl) ?_
  refine lv_aload_n hx hb dJ7_copyOf_9075b_1 rfl (lv_at hl 0 rfl) ?_
  refine va_alen hx hb hK hP 0 0 rfl rfl (v := (nI n)) rfl dJ7_copyOf_9075b_2 ?_
  refine lv_icmp_ne (tgt := 14) hx hb dJ7_copyOf_9075b_3 (by decide) (fun hc1 => ?_) (fun hc1 => ?_)
  · replace hw := hw.1 hc1
    refine lv_iload_n hx hb dJ7_copyOf_9075b_14 rfl (lv_at hl 1 rfl) ?_
    obtain ⟨N2, eN2, bN2, hw⟩ := hw
    refine g_newB hx hb acB hK 0 rfl hP hD hS hA eN2 bN2 (Nat.le_of_ble_eq_true rfl) (Nat.le_of_ble_eq_true rfl) (Nat.le_of_ble_eq_true rfl) dJ7_copyOf_9075b_15 (fun q3 H hP hD hS => ?_)
    replace hw := hw q3
    refine W.widen (k := 1) (n := 40) (Nat.le_of_ble_eq_true rfl) (Nat.le_of_ble_eq_true rfl) ?_
    replace hP : va_P (dC, dI) vwCl ((W_Y cY b n x) ++ [(q3, .inl (cY, N2, .inl (fun _ => 0)))]) H := hP
    replace hD : va_D A ((W_Y cY b n x) ++ [(q3, .inl (cY, N2, .inl (fun _ => 0)))]) := hD
    refine lv_astore_n (lv' := [(2, .ref q3), (0, .ref b), (1, .int p1)]) hx hb dJ7_copyOf_9075b_17 rfl hl (by decide) rfl (fun ls hl => ?_)
    refine lv_aload_n hx hb dJ7_copyOf_9075b_18 rfl (lv_at hl 1 rfl) ?_
    refine lv_iconst (v := 0) hx hb dJ7_copyOf_9075b_19 (by decide) ?_
    refine lv_aload_n hx hb dJ7_copyOf_9075b_20 rfl (lv_at hl 0 rfl) ?_
    refine lv_iconst (v := 0) hx hb dJ7_copyOf_9075b_21 (by decide) ?_
    refine lv_aload_n hx hb dJ7_copyOf_9075b_22 rfl (lv_at hl 1 rfl) ?_
    refine va_alen hx hb hK hP 0 0 rfl rfl (v := (nI n)) rfl dJ7_copyOf_9075b_23 ?_
    refine lv_iload_n hx hb dJ7_copyOf_9075b_24 rfl (lv_at hl 2 rfl) ?_
    refine va_mmin hx hb (hml.trans hl.1.symm) hown ml304 msmin miMath mcmin (Nat.le_of_ble_eq_true rfl) (Nat.le_of_ble_eq_true rfl) (Nat.le_of_ble_eq_true rfl) (Nat.le_of_ble_eq_true rfl) dJ7_copyOf_9075b_25 ?_
    obtain ⟨⟨hc4, hc5, hc6, hc7, hc8⟩, hw⟩ := hw
    obtain ⟨hf9, hw⟩ := hw
    refine va_copyi hx hb (hml.trans hl.1.symm) hown al150 acn acs aci hK hP hD hS 0 1 0 0 rfl rfl rfl rfl rfl hc4 hc5 hc6 hc7 hc8 hf9 (Nat.le_of_ble_eq_true rfl) (Nat.le_of_ble_eq_true rfl) dJ7_copyOf_9075b_28 (fun H locs hP hD hS => ?_)
    replace hP : va_P (dC, dI) vwCl ((W_Y cY b n x) ++ [(q3, .inl (cY, N2, .inl (va_cpy x (fun _ => 0) (0 : Int32).toNatClampNeg (0 : Int32).toNatClampNeg (if p1 < (nI n) then p1 else (nI n)).toNatClampNeg)))]) H := hP
    replace hD : va_D A ((W_Y cY b n x) ++ [(q3, .inl (cY, N2, .inl (va_cpy x (fun _ => 0) (0 : Int32).toNatClampNeg (0 : Int32).toNatClampNeg (if p1 < (nI n) then p1 else (nI n)).toNatClampNeg)))]) := hD
    refine lv_aload_n hx hb dJ7_copyOf_9075b_31 rfl (lv_at hl 0 rfl) ?_
    exact hret (u := (q3, (va_cpy x (fun _ => 0) (0 : Int32).toNatClampNeg (0 : Int32).toNatClampNeg (if p1 < (nI n) then p1 else (nI n)).toNatClampNeg), N2)) dJ7_copyOf_9075b_32 hK hP hD hS hw
  · replace hw := hw.2 hc1
    refine lv_aload_n hx hb dJ7_copyOf_9075b_6 rfl (lv_at hl 0 rfl) ?_
    exact hw.elim

def w_J5_length_8abf5  (bv : Nat) (bm : Nat) (ml : Int32) (cn : Int32) (bt : Nat → Int32)   (Q : Int32 → Unit → Prop) : Prop := Q cn ()
abbrev rmJ5_length_8abf5 : Room := { frames := 0, cells := 0, slots := 0, locals := 0 }
set_option maxHeartbeats 4000000 in
set_option maxRecDepth 100000 in
theorem t_J5_length_8abf5 (l : Launch) (dC : Nat → ClassId) (dI : Nat → Nat → Nat) (adK : Nat → Nat) (adV : Nat → Nat) (cY : ClassId) (h : Nat) (sz : Nat) (bv : Nat) (bm : Nat) (ml : Int32) (cn : Int32) (bt : Nat → Int32)    (Q0 : Int32 → Unit → Prop) (hw : w_J5_length_8abf5  bv bm ml cn bt   Q0) : Met l yJ5_length_8abf5 wsJ5_length_8abf5 rmJ5_length_8abf5 (g_pre (cz adK adV) (dC, dI) vwCl [(cY, .byte)] (W_B adK adV cY h bv bm ml cn bt) sz [.ref h]) (g_qi (dC, dI) vwCl [(cY, .byte)] (fun u : Unit => (W_B adK adV cY h bv bm ml cn bt)) Q0 (va_A (W_B adK adV cY h bv bm ml cn bt) sz)) 0 0 (va_A (W_B adK adV cY h bv bm ml cn bt) sz) := by
  refine g_starti (by decide) rfl (Nat.le_of_ble_eq_true rfl) ?_
  intro p e s m args below meth c A Q ls hx hb hml hown hts hin hK hP hD hA hS hZ hret hl
  obtain ⟨H, eH⟩ : ∃ H : Heap, H = s.heap := ⟨_, rfl⟩
  obtain ⟨locs, eL⟩ : ∃ L : List Loc, L = [] := ⟨_, rfl⟩
  have hS : va_S A s.heap H locs := by rw [eH, eL]; exact hS
  rw [← eH] at hP
  suffices hg : W p l e rmJ5_length_8abf5 s m args below meth c H locs 0 0 Q (F0 m 0 ls []) by rw [eH, eL] at hg; exact hg
  clear eH eL
  replace hl : lv_has ls 1 [(0, .ref h)] := hl
  have hf79 := hts (.fieldLink RJ5 79 "java/lang/AbstractStringBuilder" "count" "I") (by decide +kernel)
  have hiJ4 : ∀ w ∈ u_ws RJ4 TJ4 4, w ∈ wsJ5_length_8abf5 := fun w h => List.mem_cons_of_mem _ (List.mem_append_right _ h)
  unfold w_J5_length_8abf5 at hw
  refine lv_aload_n hx hb dJ5_length_8abf5_0 rfl (lv_at hl 0 rfl) ?_
  refine va_get (D := (dC, dI)) (ci := 1) (v := .int cn) (C := RJ4) (T := TJ4) (N := 4) hx hb hts hiJ4 hown hK hP 0 rfl rfl 3 (by decide) hf79 (fun _ h9 => h9) rfl dJ5_length_8abf5_1 ?_
  exact hret dJ5_length_8abf5_4 hK hP hD hS hw

def w_J4_length_8abf5  (bv : Nat) (bm : Nat) (ml : Int32) (cn : Int32) (bt : Nat → Int32)   (Q : Int32 → Unit → Prop) : Prop := w_J5_length_8abf5 bv bm ml cn bt   (fun (r2 : Int32) (u1 : Unit) => Q r2 ())
abbrev rmJ4_length_8abf5 : Room := { frames := 1, cells := 0, slots := 0, locals := 20 }
set_option maxHeartbeats 4000000 in
set_option maxRecDepth 100000 in
theorem t_J4_length_8abf5 (l : Launch) (dC : Nat → ClassId) (dI : Nat → Nat → Nat) (adK : Nat → Nat) (adV : Nat → Nat) (cY : ClassId) (h : Nat) (sz : Nat) (bv : Nat) (bm : Nat) (ml : Int32) (cn : Int32) (bt : Nat → Int32)    (Q0 : Int32 → Unit → Prop) (hw : w_J4_length_8abf5  bv bm ml cn bt   Q0) : Met l yJ4_length_8abf5 wsJ4_length_8abf5 rmJ4_length_8abf5 (g_pre (cz adK adV) (dC, dI) vwCl [(cY, .byte)] (W_B adK adV cY h bv bm ml cn bt) sz [.ref h]) (g_qi (dC, dI) vwCl [(cY, .byte)] (fun u : Unit => (W_B adK adV cY h bv bm ml cn bt)) Q0 (va_A (W_B adK adV cY h bv bm ml cn bt) sz)) 0 0 (va_A (W_B adK adV cY h bv bm ml cn bt) sz) := by
  refine g_starti (by decide) rfl (Nat.le_of_ble_eq_true rfl) ?_
  intro p e s m args below meth c A Q ls hx hb hml hown hts hin hK hP hD hA hS hZ hret hl
  obtain ⟨H, eH⟩ : ∃ H : Heap, H = s.heap := ⟨_, rfl⟩
  obtain ⟨locs, eL⟩ : ∃ L : List Loc, L = [] := ⟨_, rfl⟩
  have hS : va_S A s.heap H locs := by rw [eH, eL]; exact hS
  rw [← eH] at hP
  suffices hg : W p l e rmJ4_length_8abf5 s m args below meth c H locs 0 0 Q (F0 m 0 ls []) by rw [eH, eL] at hg; exact hg
  clear eH eL
  replace hl : lv_has ls 1 [(0, .ref h)] := hl
  unfold w_J4_length_8abf5 at hw
  refine lv_aload_n hx hb dJ4_length_8abf5_0 rfl (lv_at hl 0 rfl) ?_
  refine g_ci (g_J.plain (W2 := fun u1 : Unit => (W_B adK adV cY h bv bm ml cn bt)) [] [0, 1] [] [0, 1] rfl (by decide) rfl (by decide) (by decide) (fun _ => rfl) (by decide)) [0] hK hP hD hS hA rfl (fun hPc hDc hKc hFc => va_runSU (As := []) (rest := []) (hK.1 1 _ rfl).2 ⟨hx, hb, hml, hown, hts⟩ (t_J5_length_8abf5 l dC dI adK adV cY h H.size bv bm ml cn bt   _ hw) (va_cwSU 0 hts gJ4_length_8abf5_J5_length_8abf5_s343 rfl rfl rfl (by decide +kernel) ⟨Nat.le_of_ble_eq_true rfl, Nat.le_of_ble_eq_true rfl⟩) (g_pV czb (q0 := 0) rfl rfl hPc hDc hKc (czc hZ hS hFc)) rfl rfl hl.1 rfl (lv_room (Nat.le_of_ble_eq_true rfl)) dJ4_length_8abf5_1 ⟨Nat.le_of_ble_eq_true rfl, Nat.le_of_ble_eq_true rfl⟩) (fun r2 u1 H locs hw hP hD hS => ?_)
  replace hP : va_P (dC, dI) vwCl (W_B adK adV cY h bv bm ml cn bt) H := hP
  replace hD : va_D A (W_B adK adV cY h bv bm ml cn bt) := hD
  exact hret dJ4_length_8abf5_4 hK hP hD hS hw

def w_J5_isLatin1_aae02  (bv : Nat) (bm : Nat) (ml : Int32) (cn : Int32) (bt : Nat → Int32)   (Q : Int32 → Unit → Prop) : Prop := ((((1 : Int32) = 0) → Q (0 : Int32) ()) ∧ (¬ ((1 : Int32) = 0) → (((¬ (0 : Int32) = 0) → Q (0 : Int32) ()) ∧ ((0 : Int32) = 0 → Q (1 : Int32) ()))))
abbrev rmJ5_isLatin1_aae02 : Room := { frames := 0, cells := 0, slots := 0, locals := 0 }
set_option maxHeartbeats 4000000 in
set_option maxRecDepth 100000 in
theorem t_J5_isLatin1_aae02 (l : Launch) (dC : Nat → ClassId) (dI : Nat → Nat → Nat) (adK : Nat → Nat) (adV : Nat → Nat) (cY : ClassId) (h : Nat) (sz : Nat) (bv : Nat) (bm : Nat) (ml : Int32) (cn : Int32) (bt : Nat → Int32)    (Q0 : Int32 → Unit → Prop) (hw : w_J5_isLatin1_aae02  bv bm ml cn bt   Q0) : Met l yJ5_isLatin1_aae02 wsJ5_isLatin1_aae02 rmJ5_isLatin1_aae02 (g_pre (cz adK adV) (dC, dI) vwCl [(cY, .byte)] (W_B adK adV cY h bv bm ml cn bt) sz [.ref h]) (g_qi (dC, dI) vwCl [(cY, .byte)] (fun u : Unit => (W_B adK adV cY h bv bm ml cn bt)) Q0 (va_A (W_B adK adV cY h bv bm ml cn bt) sz)) 0 0 (va_A (W_B adK adV cY h bv bm ml cn bt) sz) := by
  refine g_startz (by decide) rfl (Nat.le_of_ble_eq_true rfl) ?_
  intro p e s m args below meth c A Q ls hx hb hml hown hts hin hK hP hD hA hS hZ hret hl
  obtain ⟨H, eH⟩ : ∃ H : Heap, H = s.heap := ⟨_, rfl⟩
  obtain ⟨locs, eL⟩ : ∃ L : List Loc, L = [] := ⟨_, rfl⟩
  have hS : va_S A s.heap H locs := by rw [eH, eL]; exact hS
  rw [← eH] at hP
  suffices hg : W p l e rmJ5_isLatin1_aae02 s m args below meth c H locs 0 0 Q (F0 m 0 ls []) by rw [eH, eL] at hg; exact hg
  clear eH eL
  replace hl : lv_has ls 1 [(0, .ref h)] := hl
  have hf18 := hts (.fieldLink RJ5 18 "java/lang/String" "COMPACT_STRINGS" "Z") (by decide +kernel)
  have hf22 := hts (.fieldLink RJ5 22 "java/lang/AbstractStringBuilder" "coder" "B") (by decide +kernel)
  have hiJ4 : ∀ w ∈ u_ws RJ4 TJ4 4, w ∈ wsJ5_isLatin1_aae02 := fun w h => List.mem_cons_of_mem _ (List.mem_append_right _ h)
  unfold w_J5_isLatin1_aae02 at hw
  refine va_gets hx hb (v := .int 1) (hZ.2.2.2.2.2.1 _ (List.mem_of_getElem? (i := 0) rfl)) hS hown hf18 (fun _ h9 => h9) dJ5_isLatin1_aae02_0 ?_
  refine lv_if_eq (tgt := 17) hx hb dJ5_isLatin1_aae02_3 (by decide) (fun hc1 => ?_) (fun hc1 => ?_)
  · replace hw := hw.1 hc1
    refine lv_iconst (v := 0) hx hb dJ5_isLatin1_aae02_17 (by decide) ?_
    exact hret dJ5_isLatin1_aae02_18 hK hP hD hS isB_0 hw
  · replace hw := hw.2 hc1
    refine lv_aload_n hx hb dJ5_isLatin1_aae02_6 rfl (lv_at hl 0 rfl) ?_
    refine va_get (D := (dC, dI)) (ci := 1) (v := .int (0 : Int32)) (C := RJ4) (T := TJ4) (N := 4) hx hb hts hiJ4 hown hK hP 0 rfl rfl 1 (by decide) hf22 (fun _ h9 => h9) rfl dJ5_isLatin1_aae02_7 ?_
    refine lv_if_ne (tgt := 17) hx hb dJ5_isLatin1_aae02_10 (by decide) (fun hc2 => ?_) (fun hc2 => ?_)
    · replace hw := hw.1 hc2
      refine lv_iconst (v := 0) hx hb dJ5_isLatin1_aae02_17 (by decide) ?_
      exact hret dJ5_isLatin1_aae02_18 hK hP hD hS isB_0 hw
    · replace hw := hw.2 hc2
      refine lv_iconst (v := 1) hx hb dJ5_isLatin1_aae02_13 (by decide) ?_
      refine lv_goto (tgt := 18) hx hb dJ5_isLatin1_aae02_14 (by decide) ?_
      exact hret dJ5_isLatin1_aae02_18 hK hP hD hS isB_1 hw

def w_J5_charAt_5068e  (bv : Nat) (bm : Nat) (ml : Int32) (cn : Int32) (bt : Nat → Int32)  (p0 : Int32) (Q : Int32 → Unit → Prop) : Prop := ∀ x1 : Int32, x1 = (if ((nI bm) >>> ((0 : Int32) &&& 31)) < cn then ((nI bm) >>> ((0 : Int32) &&& 31)) else cn) → w_J0_checkIndex_df160   p0 x1 (fun (u2 : Unit) => (((¬ (0 : Int32) = 0) → False) ∧ ((0 : Int32) = 0 → (vp_in p0 bm) ∧ (narrow .char (.int ((((bt p0.toNatClampNeg) &&& (255 : Int32)).toUInt32 % 65536).toInt32)) = .int ((((bt p0.toNatClampNeg) &&& (255 : Int32)).toUInt32 % 65536).toInt32)) ∧ Q ((((bt p0.toNatClampNeg) &&& (255 : Int32)).toUInt32 % 65536).toInt32) ())))
abbrev rmJ5_charAt_5068e : Room := { frames := 2, cells := 0, slots := 0, locals := 43 }
set_option maxHeartbeats 4000000 in
set_option maxRecDepth 100000 in
theorem t_J5_charAt_5068e (l : Launch) (dC : Nat → ClassId) (dI : Nat → Nat → Nat) (adK : Nat → Nat) (adV : Nat → Nat) (cY : ClassId) (h : Nat) (sz : Nat) (bv : Nat) (bm : Nat) (ml : Int32) (cn : Int32) (bt : Nat → Int32)   (p0 : Int32) (Q0 : Int32 → Unit → Prop) (hw : w_J5_charAt_5068e  bv bm ml cn bt  p0 Q0) : Met l yJ5_charAt_5068e wsJ5_charAt_5068e rmJ5_charAt_5068e (g_pre (cz adK adV) (dC, dI) vwCl [(cY, .byte)] (W_B adK adV cY h bv bm ml cn bt) sz [.ref h, .int p0]) (g_qi (dC, dI) vwCl [(cY, .byte)] (fun u : Unit => (W_B adK adV cY h bv bm ml cn bt)) Q0 (va_A (W_B adK adV cY h bv bm ml cn bt) sz)) 0 0 (va_A (W_B adK adV cY h bv bm ml cn bt) sz) := by
  refine g_startn (by decide) rfl (Nat.le_of_ble_eq_true rfl) ?_
  intro p e s m args below meth c A Q ls hx hb hml hown hts hin hK hP hD hA hS hZ hret hl
  obtain ⟨H, eH⟩ : ∃ H : Heap, H = s.heap := ⟨_, rfl⟩
  obtain ⟨locs, eL⟩ : ∃ L : List Loc, L = [] := ⟨_, rfl⟩
  have hS : va_S A s.heap H locs := by rw [eH, eL]; exact hS
  rw [← eH] at hP
  suffices hg : W p l e rmJ5_charAt_5068e s m args below meth c H locs 0 0 Q (F0 m 0 ls []) by rw [eH, eL] at hg; exact hg
  clear eH eL
  replace hl : lv_has ls 5 [(0, .ref h), (1, .int p0)] := hl
  have hf22 := hts (.fieldLink RJ5 22 "java/lang/AbstractStringBuilder" "coder" "B") (by decide +kernel)
  have hiJ4 : ∀ w ∈ u_ws RJ4 TJ4 4, w ∈ wsJ5_charAt_5068e := fun w h => List.mem_cons_of_mem _ (List.mem_append_right _ h)
  have hf15 := hts (.fieldLink RJ5 15 "java/lang/AbstractStringBuilder" "value" "[B") (by decide +kernel)
  have hf79 := hts (.fieldLink RJ5 79 "java/lang/AbstractStringBuilder" "count" "I") (by decide +kernel)
  have ml138 := hts (.methodLink RJ5 138 Lib.Math.min.name) (by decide +kernel)
  have msmin := hts (.static Lib.Math.min.name) (by decide +kernel)
  have miMath := hts (.initialized "java/lang/Math") (by decide +kernel)
  have mcmin := hts (.code Lib.Math.min.name Lib.Math.min.code 2 (some .int)) (by decide +kernel)
  unfold w_J5_charAt_5068e at hw
  refine lv_aload_n hx hb dJ5_charAt_5068e_0 rfl (lv_at hl 0 rfl) ?_
  refine va_get (D := (dC, dI)) (ci := 1) (v := .int (0 : Int32)) (C := RJ4) (T := TJ4) (N := 4) hx hb hts hiJ4 hown hK hP 0 rfl rfl 1 (by decide) hf22 (fun _ h9 => h9) rfl dJ5_charAt_5068e_1 ?_
  refine lv_istore_n (lv' := [(2, .int (0 : Int32)), (0, .ref h), (1, .int p0)]) hx hb dJ5_charAt_5068e_4 rfl hl (by decide) rfl (fun ls hl => ?_)
  refine lv_aload_n hx hb dJ5_charAt_5068e_5 rfl (lv_at hl 1 rfl) ?_
  refine va_get (D := (dC, dI)) (ci := 1) (v := .ref bv) (C := RJ4) (T := TJ4) (N := 4) hx hb hts hiJ4 hown hK hP 0 rfl rfl 0 (by decide) hf15 (fun _ h9 => h9) rfl dJ5_charAt_5068e_6 ?_
  refine lv_astore_n (lv' := [(3, .ref bv), (2, .int (0 : Int32)), (0, .ref h), (1, .int p0)]) hx hb dJ5_charAt_5068e_9 rfl hl (by decide) rfl (fun ls hl => ?_)
  refine lv_aload_n hx hb dJ5_charAt_5068e_10 rfl (lv_at hl 2 rfl) ?_
  refine va_get (D := (dC, dI)) (ci := 1) (v := .int cn) (C := RJ4) (T := TJ4) (N := 4) hx hb hts hiJ4 hown hK hP 0 rfl rfl 3 (by decide) hf79 (fun _ h9 => h9) rfl dJ5_charAt_5068e_11 ?_
  refine lv_aload_n hx hb dJ5_charAt_5068e_14 rfl (lv_at hl 0 rfl) ?_
  refine va_alen hx hb hK hP 1 0 rfl rfl (v := (nI bm)) rfl dJ5_charAt_5068e_15 ?_
  refine lv_iload_n hx hb dJ5_charAt_5068e_16 rfl (lv_at hl 1 rfl) ?_
  refine lv_ishr hx hb dJ5_charAt_5068e_17 ?_
  refine va_mmin hx hb (hml.trans hl.1.symm) hown ml138 msmin miMath mcmin (Nat.le_of_ble_eq_true rfl) (Nat.le_of_ble_eq_true rfl) (Nat.le_of_ble_eq_true rfl) (Nat.le_of_ble_eq_true rfl) dJ5_charAt_5068e_18 ?_
  refine lv_topi (fun x1 ex1 => ?_)
  replace hw := hw x1 ex1
  refine lv_istore (lv' := [(4, .int x1), (3, .ref bv), (2, .int (0 : Int32)), (0, .ref h), (1, .int p0)]) hx hb dJ5_charAt_5068e_21 hl (by decide) rfl (fun ls hl => ?_)
  refine lv_iload_n hx hb dJ5_charAt_5068e_23 rfl (lv_at hl 4 rfl) ?_
  refine lv_iload hx hb dJ5_charAt_5068e_24 (lv_at hl 0 rfl) ?_
  refine g_cv (g_J.plain (W2 := fun u2 : Unit => (W_B adK adV cY h bv bm ml cn bt)) [(h, .inr (1, [.ref bv, .int (0 : Int32), .int ml, .int cn])), (bv, .inl (cY, bm, .inl bt))] [] [0, 1] [0, 1] rfl (by decide) rfl (by decide) (by decide) (fun _ => rfl) (by decide)) [] hK hP hD hS hA rfl (fun hPc hDc hKc hFc => va_runS (As := [.int p0, .int x1]) (rest := []) ⟨hx, hb, hml, hown, hts⟩ (t_J0_checkIndex_df160 l dC dI adK adV H.size   p0 x1 _ hw) (va_cwS 2 hts gJ5_charAt_5068e_J0_checkIndex_df160 rfl rfl rfl (by decide +kernel) ⟨Nat.le_of_ble_eq_true rfl, Nat.le_of_ble_eq_true rfl⟩) (g_pS czb hPc hDc hKc (czc hZ hS hFc)) rfl rfl hl.1 rfl (lv_room (Nat.le_of_ble_eq_true rfl)) dJ5_charAt_5068e_26 ⟨Nat.le_of_ble_eq_true rfl, Nat.le_of_ble_eq_true rfl⟩) (fun u2 H locs hw hP hD hS => ?_)
  replace hP : va_P (dC, dI) vwCl (W_B adK adV cY h bv bm ml cn bt) H := hP
  replace hD : va_D A (W_B adK adV cY h bv bm ml cn bt) := hD
  refine lv_iload_n hx hb dJ5_charAt_5068e_29 rfl (lv_at hl 2 rfl) ?_
  refine lv_if_ne (tgt := 42) hx hb dJ5_charAt_5068e_30 (by decide) (fun hc3 => ?_) (fun hc3 => ?_)
  · replace hw := hw.1 hc3
    refine lv_aload_n hx hb dJ5_charAt_5068e_42 rfl (lv_at hl 1 rfl) ?_
    refine lv_iload_n hx hb dJ5_charAt_5068e_43 rfl (lv_at hl 4 rfl) ?_
    exact hw.elim
  · replace hw := hw.2 hc3
    refine lv_aload_n hx hb dJ5_charAt_5068e_33 rfl (lv_at hl 1 rfl) ?_
    refine lv_iload_n hx hb dJ5_charAt_5068e_34 rfl (lv_at hl 4 rfl) ?_
    obtain ⟨hb4, hw⟩ := hw
    refine va_bald hx hb hK hP 1 0 rfl rfl hb4 dJ5_charAt_5068e_35 ?_
    refine lv_sipush (v := 255) hx hb dJ5_charAt_5068e_36 (by decide) ?_
    refine lv_iand hx hb dJ5_charAt_5068e_39 ?_
    refine lv_i2c hx hb dJ5_charAt_5068e_40 rfl ?_
    obtain ⟨hz, hw⟩ := hw
    exact hret dJ5_charAt_5068e_41 hK hP hD hS hz hw

def w_J4_charAt_5068e  (bv : Nat) (bm : Nat) (ml : Int32) (cn : Int32) (bt : Nat → Int32)  (p0 : Int32) (Q : Int32 → Unit → Prop) : Prop := w_J5_charAt_5068e bv bm ml cn bt  p0 (fun (r2 : Int32) (u1 : Unit) => (narrow .char (.int r2) = .int r2) ∧ Q r2 ())
abbrev rmJ4_charAt_5068e : Room := { frames := 3, cells := 0, slots := 0, locals := 67 }
set_option maxHeartbeats 4000000 in
set_option maxRecDepth 100000 in
theorem t_J4_charAt_5068e (l : Launch) (dC : Nat → ClassId) (dI : Nat → Nat → Nat) (adK : Nat → Nat) (adV : Nat → Nat) (cY : ClassId) (h : Nat) (sz : Nat) (bv : Nat) (bm : Nat) (ml : Int32) (cn : Int32) (bt : Nat → Int32)   (p0 : Int32) (Q0 : Int32 → Unit → Prop) (hw : w_J4_charAt_5068e  bv bm ml cn bt  p0 Q0) : Met l yJ4_charAt_5068e wsJ4_charAt_5068e rmJ4_charAt_5068e (g_pre (cz adK adV) (dC, dI) vwCl [(cY, .byte)] (W_B adK adV cY h bv bm ml cn bt) sz [.ref h, .int p0]) (g_qi (dC, dI) vwCl [(cY, .byte)] (fun u : Unit => (W_B adK adV cY h bv bm ml cn bt)) Q0 (va_A (W_B adK adV cY h bv bm ml cn bt) sz)) 0 0 (va_A (W_B adK adV cY h bv bm ml cn bt) sz) := by
  refine g_startn (by decide) rfl (Nat.le_of_ble_eq_true rfl) ?_
  intro p e s m args below meth c A Q ls hx hb hml hown hts hin hK hP hD hA hS hZ hret hl
  obtain ⟨H, eH⟩ : ∃ H : Heap, H = s.heap := ⟨_, rfl⟩
  obtain ⟨locs, eL⟩ : ∃ L : List Loc, L = [] := ⟨_, rfl⟩
  have hS : va_S A s.heap H locs := by rw [eH, eL]; exact hS
  rw [← eH] at hP
  suffices hg : W p l e rmJ4_charAt_5068e s m args below meth c H locs 0 0 Q (F0 m 0 ls []) by rw [eH, eL] at hg; exact hg
  clear eH eL
  replace hl : lv_has ls 2 [(0, .ref h), (1, .int p0)] := hl
  unfold w_J4_charAt_5068e at hw
  refine lv_aload_n hx hb dJ4_charAt_5068e_0 rfl (lv_at hl 0 rfl) ?_
  refine lv_iload_n hx hb dJ4_charAt_5068e_1 rfl (lv_at hl 1 rfl) ?_
  refine g_ci (g_J.plain (W2 := fun u1 : Unit => (W_B adK adV cY h bv bm ml cn bt)) [] [0, 1] [] [0, 1] rfl (by decide) rfl (by decide) (by decide) (fun _ => rfl) (by decide)) [0] hK hP hD hS hA rfl (fun hPc hDc hKc hFc => va_runSU (As := [.int p0]) (rest := []) (hK.1 1 _ rfl).2 ⟨hx, hb, hml, hown, hts⟩ (t_J5_charAt_5068e l dC dI adK adV cY h H.size bv bm ml cn bt  p0 _ hw) (va_cwSU 1 hts gJ4_charAt_5068e_J5_charAt_5068e_s329 rfl rfl rfl (by decide +kernel) ⟨Nat.le_of_ble_eq_true rfl, Nat.le_of_ble_eq_true rfl⟩) (g_pV czb (q0 := 0) rfl rfl hPc hDc hKc (czc hZ hS hFc)) rfl rfl hl.1 rfl (lv_room (Nat.le_of_ble_eq_true rfl)) dJ4_charAt_5068e_2 ⟨Nat.le_of_ble_eq_true rfl, Nat.le_of_ble_eq_true rfl⟩) (fun r2 u1 H locs hw hP hD hS => ?_)
  replace hP : va_P (dC, dI) vwCl (W_B adK adV cY h bv bm ml cn bt) H := hP
  replace hD : va_D A (W_B adK adV cY h bv bm ml cn bt) := hD
  obtain ⟨hz, hw⟩ := hw
  exact hret dJ4_charAt_5068e_5 hK hP hD hS hz hw

def w_J5_newCapacity_0f7a4  (bv : Nat) (bm : Nat) (ml : Int32) (cn : Int32) (bt : Nat → Int32)  (p0 : Int32) (Q : Int32 → Unit → Prop) : Prop := ∀ x1 : Int32, x1 = (nI bm) → ∀ x2 : Int32, x2 = (p0 <<< ((0 : Int32) &&& 31)) → ∀ x3 : Int32, x3 = (x2 - x1) → w_J8_newLength_cabcc x1 x3 (x1 + ((2 : Int32) <<< ((0 : Int32) &&& 31))) (fun (r4 : Int32) => (((¬ r4 = (2147483647 : Int32)) → Q (r4 >>> ((0 : Int32) &&& 31)) ()) ∧ (r4 = (2147483647 : Int32) → False)))
abbrev rmJ5_newCapacity_0f7a4 : Room := { frames := 2, cells := 0, slots := 0, locals := 63 }
set_option maxHeartbeats 4000000 in
set_option maxRecDepth 100000 in
theorem t_J5_newCapacity_0f7a4 (l : Launch) (dC : Nat → ClassId) (dI : Nat → Nat → Nat) (adK : Nat → Nat) (adV : Nat → Nat) (cY : ClassId) (h : Nat) (sz : Nat) (bv : Nat) (bm : Nat) (ml : Int32) (cn : Int32) (bt : Nat → Int32)   (p0 : Int32) (Q0 : Int32 → Unit → Prop) (hw : w_J5_newCapacity_0f7a4  bv bm ml cn bt  p0 Q0) : Met l yJ5_newCapacity_0f7a4 wsJ5_newCapacity_0f7a4 rmJ5_newCapacity_0f7a4 (g_pre (cz adK adV) (dC, dI) vwCl [(cY, .byte)] (W_B adK adV cY h bv bm ml cn bt) sz [.ref h, .int p0]) (g_qi (dC, dI) vwCl [(cY, .byte)] (fun u : Unit => (W_B adK adV cY h bv bm ml cn bt)) Q0 (va_A (W_B adK adV cY h bv bm ml cn bt) sz)) 0 0 (va_A (W_B adK adV cY h bv bm ml cn bt) sz) := by
  refine g_starti (by decide) rfl (Nat.le_of_ble_eq_true rfl) ?_
  intro p e s m args below meth c A Q ls hx hb hml hown hts hin hK hP hD hA hS hZ hret hl
  obtain ⟨H, eH⟩ : ∃ H : Heap, H = s.heap := ⟨_, rfl⟩
  obtain ⟨locs, eL⟩ : ∃ L : List Loc, L = [] := ⟨_, rfl⟩
  have hS : va_S A s.heap H locs := by rw [eH, eL]; exact hS
  rw [← eH] at hP
  suffices hg : W p l e rmJ5_newCapacity_0f7a4 s m args below meth c H locs 0 0 Q (F0 m 0 ls []) by rw [eH, eL] at hg; exact hg
  clear eH eL
  replace hl : lv_has ls 6 [(0, .ref h), (1, .int p0)] := hl
  have hf15 := hts (.fieldLink RJ5 15 "java/lang/AbstractStringBuilder" "value" "[B") (by decide +kernel)
  have hiJ4 : ∀ w ∈ u_ws RJ4 TJ4 4, w ∈ wsJ5_newCapacity_0f7a4 := fun w h => List.mem_cons_of_mem _ (List.mem_append_right _ h)
  have hf22 := hts (.fieldLink RJ5 22 "java/lang/AbstractStringBuilder" "coder" "B") (by decide +kernel)
  have kc39 := hts (.constant RJ5 39 (2147483647)) (by decide +kernel)
  unfold w_J5_newCapacity_0f7a4 at hw
  refine lv_aload_n hx hb dJ5_newCapacity_0f7a4_0 rfl (lv_at hl 0 rfl) ?_
  refine va_get (D := (dC, dI)) (ci := 1) (v := .ref bv) (C := RJ4) (T := TJ4) (N := 4) hx hb hts hiJ4 hown hK hP 0 rfl rfl 0 (by decide) hf15 (fun _ h9 => h9) rfl dJ5_newCapacity_0f7a4_1 ?_
  refine va_alen hx hb hK hP 1 0 rfl rfl (v := (nI bm)) rfl dJ5_newCapacity_0f7a4_4 ?_
  refine lv_topi (fun x1 ex1 => ?_)
  replace hw := hw x1 ex1
  refine lv_istore_n (lv' := [(2, .int x1), (0, .ref h), (1, .int p0)]) hx hb dJ5_newCapacity_0f7a4_5 rfl hl (by decide) rfl (fun ls hl => ?_)
  refine lv_iload_n hx hb dJ5_newCapacity_0f7a4_6 rfl (lv_at hl 2 rfl) ?_
  refine lv_aload_n hx hb dJ5_newCapacity_0f7a4_7 rfl (lv_at hl 1 rfl) ?_
  refine va_get (D := (dC, dI)) (ci := 1) (v := .int (0 : Int32)) (C := RJ4) (T := TJ4) (N := 4) hx hb hts hiJ4 hown hK hP 0 rfl rfl 1 (by decide) hf22 (fun _ h9 => h9) rfl dJ5_newCapacity_0f7a4_8 ?_
  refine lv_ishl hx hb dJ5_newCapacity_0f7a4_11 ?_
  refine lv_topi (fun x2 ex2 => ?_)
  replace hw := hw x2 ex2
  refine lv_istore_n (lv' := [(3, .int x2), (2, .int x1), (0, .ref h), (1, .int p0)]) hx hb dJ5_newCapacity_0f7a4_12 rfl hl (by decide) rfl (fun ls hl => ?_)
  refine lv_iload_n hx hb dJ5_newCapacity_0f7a4_13 rfl (lv_at hl 0 rfl) ?_
  refine lv_iload_n hx hb dJ5_newCapacity_0f7a4_14 rfl (lv_at hl 1 rfl) ?_
  refine lv_isub hx hb dJ5_newCapacity_0f7a4_15 ?_
  refine lv_topi (fun x3 ex3 => ?_)
  replace hw := hw x3 ex3
  refine lv_istore (lv' := [(4, .int x3), (3, .int x2), (2, .int x1), (0, .ref h), (1, .int p0)]) hx hb dJ5_newCapacity_0f7a4_16 hl (by decide) rfl (fun ls hl => ?_)
  refine lv_iload_n hx hb dJ5_newCapacity_0f7a4_18 rfl (lv_at hl 2 rfl) ?_
  refine lv_iload hx hb dJ5_newCapacity_0f7a4_19 (lv_at hl 0 rfl) ?_
  refine lv_iload_n hx hb dJ5_newCapacity_0f7a4_21 rfl (lv_at hl 2 rfl) ?_
  refine lv_iconst (v := 2) hx hb dJ5_newCapacity_0f7a4_22 (by decide) ?_
  refine lv_aload_n hx hb dJ5_newCapacity_0f7a4_23 rfl (lv_at hl 3 rfl) ?_
  refine va_get (D := (dC, dI)) (ci := 1) (v := .int (0 : Int32)) (C := RJ4) (T := TJ4) (N := 4) hx hb hts hiJ4 hown hK hP 0 rfl rfl 1 (by decide) hf22 (fun _ h9 => h9) rfl dJ5_newCapacity_0f7a4_24 ?_
  refine lv_ishl hx hb dJ5_newCapacity_0f7a4_27 ?_
  refine lv_iadd hx hb dJ5_newCapacity_0f7a4_28 ?_
  refine g_c0 (rest := []) (va_runS (As := [.int x1, .int x3, .int (x1 + ((2 : Int32) <<< ((0 : Int32) &&& 31)))]) (rest := []) ⟨hx, hb, hml, hown, hts⟩ (t_J8_newLength_cabcc l  x1 x3 (x1 + ((2 : Int32) <<< ((0 : Int32) &&& 31))) _ hw) (va_cwS 3 hts gJ5_newCapacity_0f7a4_J8_newLength_cabcc rfl rfl rfl (by decide +kernel) ⟨Nat.le_of_ble_eq_true rfl, Nat.le_of_ble_eq_true rfl⟩) g_p0S rfl rfl hl.1 rfl (lv_room (Nat.le_of_ble_eq_true rfl)) dJ5_newCapacity_0f7a4_29 ⟨Nat.le_of_ble_eq_true rfl, Nat.le_of_ble_eq_true rfl⟩) (fun r4 hw => ?_)
  refine lv_istore (lv' := [(5, .int r4), (4, .int x3), (3, .int x2), (2, .int x1), (0, .ref h), (1, .int p0)]) hx hb dJ5_newCapacity_0f7a4_32 hl (by decide) rfl (fun ls hl => ?_)
  refine lv_iload hx hb dJ5_newCapacity_0f7a4_34 (lv_at hl 0 rfl) ?_
  refine lv_ldc hx hb hown kc39 dJ5_newCapacity_0f7a4_36 ?_
  refine lv_icmp_ne (tgt := 51) hx hb dJ5_newCapacity_0f7a4_38 (by decide) (fun hc5 => ?_) (fun hc5 => ?_)
  · replace hw := hw.1 hc5
    refine lv_iload hx hb dJ5_newCapacity_0f7a4_51 (lv_at hl 0 rfl) ?_
    refine lv_aload_n hx hb dJ5_newCapacity_0f7a4_53 rfl (lv_at hl 4 rfl) ?_
    refine va_get (D := (dC, dI)) (ci := 1) (v := .int (0 : Int32)) (C := RJ4) (T := TJ4) (N := 4) hx hb hts hiJ4 hown hK hP 0 rfl rfl 1 (by decide) hf22 (fun _ h9 => h9) rfl dJ5_newCapacity_0f7a4_54 ?_
    refine lv_ishr hx hb dJ5_newCapacity_0f7a4_57 ?_
    exact hret dJ5_newCapacity_0f7a4_58 hK hP hD hS hw
  · replace hw := hw.2 hc5
    exact hw.elim

def w_J5_ensureCapacityInternal_d00df  (bv : Nat) (bm : Nat) (ml : Int32) (cn : Int32) (bt : Nat → Int32)  (p0 : Int32) (Q : ((Nat) × (Nat) × (Nat → Int32)) → Prop) : Prop := ∀ x1 : Int32, x1 = ((nI bm) >>> ((0 : Int32) &&& 31)) → ((((p0 - x1) ≤ 0) → Q (bv, bm, bt)) ∧ (¬ ((p0 - x1) ≤ 0) → w_J5_newCapacity_0f7a4 bv bm ml cn bt  p0 (fun (r4 : Int32) (u3 : Unit) => w_J7_copyOf_9075b bm bt  (r4 <<< ((0 : Int32) &&& 31)) (fun (kd5 : (Nat × (Nat → Int32) × Nat)) => Q (kd5.1, kd5.2.2, kd5.2.1)))))
abbrev rmJ5_ensureCapacityInternal_d00df : Room := { frames := 3, cells := 1, slots := 40, locals := 88 }
set_option maxHeartbeats 4000000 in
set_option maxRecDepth 100000 in
theorem t_J5_ensureCapacityInternal_d00df (l : Launch) (dC : Nat → ClassId) (dI : Nat → Nat → Nat) (adK : Nat → Nat) (adV : Nat → Nat) (cY : ClassId) (h : Nat) (sz : Nat) (bv : Nat) (bm : Nat) (ml : Int32) (cn : Int32) (bt : Nat → Int32)   (p0 : Int32) (Q0 : ((Nat) × (Nat) × (Nat → Int32)) → Prop) (hw : w_J5_ensureCapacityInternal_d00df  bv bm ml cn bt  p0 Q0) : Met l yJ5_ensureCapacityInternal_d00df wsJ5_ensureCapacityInternal_d00df rmJ5_ensureCapacityInternal_d00df (g_pre (cz adK adV) (dC, dI) vwCl [(cY, .byte)] (W_B adK adV cY h bv bm ml cn bt) sz [.ref h, .int p0]) (g_qv (dC, dI) vwCl [(cY, .byte)] (fun u : ((Nat) × (Nat) × (Nat → Int32)) => (W_B adK adV cY h (u.1) (u.2.1) ml cn (u.2.2))) Q0 (va_A (W_B adK adV cY h bv bm ml cn bt) sz)) 1 40 (va_A (W_B adK adV cY h bv bm ml cn bt) sz) := by
  refine g_startv (by decide) rfl (Nat.le_of_ble_eq_true rfl) ?_
  intro p e s m args below meth c A Q ls hx hb hml hown hts hin hK hP hD hA hS hZ hret hl
  obtain ⟨H, eH⟩ : ∃ H : Heap, H = s.heap := ⟨_, rfl⟩
  obtain ⟨locs, eL⟩ : ∃ L : List Loc, L = [] := ⟨_, rfl⟩
  have hS : va_S A s.heap H locs := by rw [eH, eL]; exact hS
  rw [← eH] at hP
  suffices hg : W p l e rmJ5_ensureCapacityInternal_d00df s m args below meth c H locs 0 0 Q (F0 m 0 ls []) by rw [eH, eL] at hg; exact hg
  clear eH eL
  replace hl : lv_has ls 3 [(0, .ref h), (1, .int p0)] := hl
  have hf15 := hts (.fieldLink RJ5 15 "java/lang/AbstractStringBuilder" "value" "[B") (by decide +kernel)
  have hiJ4 : ∀ w ∈ u_ws RJ4 TJ4 4, w ∈ wsJ5_ensureCapacityInternal_d00df := fun w h => List.mem_cons_of_mem _ (List.mem_append_right _ h)
  have hf22 := hts (.fieldLink RJ5 22 "java/lang/AbstractStringBuilder" "coder" "B") (by decide +kernel)
  unfold w_J5_ensureCapacityInternal_d00df at hw
  refine lv_aload_n hx hb dJ5_ensureCapacityInternal_d00df_0 rfl (lv_at hl 0 rfl) ?_
  refine va_get (D := (dC, dI)) (ci := 1) (v := .ref bv) (C := RJ4) (T := TJ4) (N := 4) hx hb hts hiJ4 hown hK hP 0 rfl rfl 0 (by decide) hf15 (fun _ h9 => h9) rfl dJ5_ensureCapacityInternal_d00df_1 ?_
  refine va_alen hx hb hK hP 1 0 rfl rfl (v := (nI bm)) rfl dJ5_ensureCapacityInternal_d00df_4 ?_
  refine lv_aload_n hx hb dJ5_ensureCapacityInternal_d00df_5 rfl (lv_at hl 0 rfl) ?_
  refine va_get (D := (dC, dI)) (ci := 1) (v := .int (0 : Int32)) (C := RJ4) (T := TJ4) (N := 4) hx hb hts hiJ4 hown hK hP 0 rfl rfl 1 (by decide) hf22 (fun _ h9 => h9) rfl dJ5_ensureCapacityInternal_d00df_6 ?_
  refine lv_ishr hx hb dJ5_ensureCapacityInternal_d00df_9 ?_
  refine lv_topi (fun x1 ex1 => ?_)
  replace hw := hw x1 ex1
  refine lv_istore_n (lv' := [(2, .int x1), (0, .ref h), (1, .int p0)]) hx hb dJ5_ensureCapacityInternal_d00df_10 rfl hl (by decide) rfl (fun ls hl => ?_)
  refine lv_iload_n hx hb dJ5_ensureCapacityInternal_d00df_11 rfl (lv_at hl 2 rfl) ?_
  refine lv_iload_n hx hb dJ5_ensureCapacityInternal_d00df_12 rfl (lv_at hl 0 rfl) ?_
  refine lv_isub hx hb dJ5_ensureCapacityInternal_d00df_13 ?_
  refine lv_if_le (tgt := 38) hx hb dJ5_ensureCapacityInternal_d00df_14 (by decide) (fun hc2 => ?_) (fun hc2 => ?_)
  · replace hw := hw.1 hc2
    refine W.widen (k := 1) (n := 40) (Nat.le_of_ble_eq_true rfl) (Nat.le_of_ble_eq_true rfl) ?_
    exact hret dJ5_ensureCapacityInternal_d00df_38 hK hP hD hS hw
  · replace hw := hw.2 hc2
    refine lv_aload_n hx hb dJ5_ensureCapacityInternal_d00df_17 rfl (lv_at hl 1 rfl) ?_
    refine lv_aload_n hx hb dJ5_ensureCapacityInternal_d00df_18 rfl (lv_at hl 1 rfl) ?_
    refine va_get (D := (dC, dI)) (ci := 1) (v := .ref bv) (C := RJ4) (T := TJ4) (N := 4) hx hb hts hiJ4 hown hK hP 0 rfl rfl 0 (by decide) hf15 (fun _ h9 => h9) rfl dJ5_ensureCapacityInternal_d00df_19 ?_
    refine lv_aload_n hx hb dJ5_ensureCapacityInternal_d00df_22 rfl (lv_at hl 1 rfl) ?_
    refine lv_iload_n hx hb dJ5_ensureCapacityInternal_d00df_23 rfl (lv_at hl 2 rfl) ?_
    refine g_ci (g_J.plain (W2 := fun u3 : Unit => (W_B adK adV cY h bv bm ml cn bt)) [] [0, 1] [] [0, 1] rfl (by decide) rfl (by decide) (by decide) (fun _ => rfl) (by decide)) [0] hK hP hD hS hA rfl (fun hPc hDc hKc hFc => va_runU (As := [.int p0]) (rest := [.ref bv, .ref h]) ⟨hx, hb, hml, hown, hts⟩ (t_J5_newCapacity_0f7a4 l dC dI adK adV cY h H.size bv bm ml cn bt  p0 _ hw) (va_cwU 1 hts gJ5_ensureCapacityInternal_d00df_J5_newCapacity_0f7a4_u104J4 rfl rfl rfl rfl (by decide +kernel) ⟨Nat.le_of_ble_eq_true rfl, Nat.le_of_ble_eq_true rfl⟩) (g_pV czb (q0 := 0) rfl rfl hPc hDc hKc (czc hZ hS hFc)) rfl rfl hl.1 rfl (lv_room (Nat.le_of_ble_eq_true rfl)) dJ5_ensureCapacityInternal_d00df_24 ⟨Nat.le_of_ble_eq_true rfl, Nat.le_of_ble_eq_true rfl⟩) (fun r4 u3 H locs hw hP hD hS => ?_)
    replace hP : va_P (dC, dI) vwCl (W_B adK adV cY h bv bm ml cn bt) H := hP
    replace hD : va_D A (W_B adK adV cY h bv bm ml cn bt) := hD
    refine lv_aload_n hx hb dJ5_ensureCapacityInternal_d00df_27 rfl (lv_at hl 1 rfl) ?_
    refine va_get (D := (dC, dI)) (ci := 1) (v := .int (0 : Int32)) (C := RJ4) (T := TJ4) (N := 4) hx hb hts hiJ4 hown hK hP 0 rfl rfl 1 (by decide) hf22 (fun _ h9 => h9) rfl dJ5_ensureCapacityInternal_d00df_28 ?_
    refine lv_ishl hx hb dJ5_ensureCapacityInternal_d00df_31 ?_
    refine g_cr (g_J.plain (W2 := fun kd5 : (Nat × (Nat → Int32) × Nat) => ((W_B adK adV cY h bv bm ml cn bt) ++ [(kd5.1, .inl (cY, (kd5.2.2), .inl (kd5.2.1)))])) [(h, .inr (1, [.ref bv, .int (0 : Int32), .int ml, .int cn]))] [1] [0] [0, 1, 2] rfl (by decide) rfl (by decide) (by decide) (fun _ => rfl) (by decide)) [0] hK hP hD hS hA rfl (fun hPc hDc hKc hFc => va_runS (As := [.ref bv, .int (r4 <<< ((0 : Int32) &&& 31))]) (rest := [.ref h]) ⟨hx, hb, hml, hown, hts⟩ (t_J7_copyOf_9075b l dC dI cY bv bm H.size bt  (r4 <<< ((0 : Int32) &&& 31)) _ hw) (va_cwS 2 hts gJ5_ensureCapacityInternal_d00df_J7_copyOf_9075b rfl rfl rfl (by decide +kernel) ⟨Nat.le_of_ble_eq_true rfl, Nat.le_of_ble_eq_true rfl⟩) (g_pS g_Tb hPc hDc hKc (fun _ _ _ => trivial)) rfl rfl hl.1 rfl (lv_room (Nat.le_of_ble_eq_true rfl)) dJ5_ensureCapacityInternal_d00df_32 ⟨Nat.le_of_ble_eq_true rfl, Nat.le_of_ble_eq_true rfl⟩) (fun kd5 H locs hw hP hD hS => ?_)
    refine W.widen (k := 1) (n := 40) (Nat.le_of_ble_eq_true rfl) (Nat.le_of_ble_eq_true rfl) ?_
    replace hP : va_P (dC, dI) vwCl ((W_B adK adV cY h bv bm ml cn bt) ++ [(kd5.1, .inl (cY, (kd5.2.2), .inl (kd5.2.1)))]) H := hP
    replace hD : va_D A ((W_B adK adV cY h bv bm ml cn bt) ++ [(kd5.1, .inl (cY, (kd5.2.2), .inl (kd5.2.1)))]) := hD
    refine va_put (D := (dC, dI)) (ci := 1) (v := .ref (kd5.1)) (ty := (.array .byte)) (C := RJ4) (T := TJ4) (N := 4) hx hb hts hiJ4 tyJ4 tyJ4_ok nmJ4 hown hK hP hD hS 0 rfl rfl 0 (by decide) hf15 (fun _ h9 => h9) rfl (by decide +kernel) rfl rfl (Nat.le_of_ble_eq_true rfl) dJ5_ensureCapacityInternal_d00df_35 (fun H locs hP hD hS => ?_)
    replace hP := g_pick (cx := (W_B adK adV cY h (kd5.1) (kd5.2.2) ml cn (kd5.2.1))) hP [0, 2] rfl
    replace hD := hD.sub (ws' := (W_B adK adV cY h (kd5.1) (kd5.2.2) ml cn (kd5.2.1))) [0, 2] (by decide) rfl
    exact hret dJ5_ensureCapacityInternal_d00df_38 hK hP hD hS hw

def w_J5_append_3fe6f  (bv : Nat) (bm : Nat) (ml : Int32) (cn : Int32) (bt : Nat → Int32)  (p0 : Int32) (Q : ((Nat) × (Nat) × (Int32) × (Nat → Int32)) → Prop) : Prop := w_J5_ensureCapacityInternal_d00df bv bm ml cn bt  (cn + (1 : Int32)) (fun (u1 : ((Nat) × (Nat) × (Nat → Int32))) => w_J5_isLatin1_aae02 (u1.1) (u1.2.1) ml cn (u1.2.2)   (fun (r3 : Int32) (u2 : Unit) => ∀ J4 : Prop, ((w_J5_isLatin1_aae02 (u1.1) (u1.2.1) ml cn (u1.2.2)   (fun (r6 : Int32) (u5 : Unit) => ∀ J7 : Prop, ((∀ x8 : Int32, x8 = (cn + (1 : Int32)) → False) → J7) → (((r6 = 0) → J7) ∧ (¬ (r6 = 0) → False)))) → J4) → (((r3 = 0) → J4) ∧ (¬ (r3 = 0) → w_J1_canEncode_fc78d p0 (fun (r11 : Int32) => (((r11 = 0) → J4) ∧ (¬ (r11 = 0) → ∀ x13 : Int32, x13 = (cn + (1 : Int32)) → ∀ x15 : Int32, x15 = (p0.toInt8.toInt32) → (vp_in cn (u1.2.1)) ∧ Q (u1.1, u1.2.1, x13, (upd (u1.2.2) cn.toNatClampNeg (vp_nar .byte x15))))))))))
abbrev rmJ5_append_3fe6f : Room := { frames := 4, cells := 1, slots := 40, locals := 110 }
set_option maxHeartbeats 4000000 in
set_option maxRecDepth 100000 in
theorem t_J5_append_3fe6f (l : Launch) (dC : Nat → ClassId) (dI : Nat → Nat → Nat) (adK : Nat → Nat) (adV : Nat → Nat) (cY : ClassId) (h : Nat) (sz : Nat) (bv : Nat) (bm : Nat) (ml : Int32) (cn : Int32) (bt : Nat → Int32)   (p0 : Int32) (Q0 : ((Nat) × (Nat) × (Int32) × (Nat → Int32)) → Prop) (hw : w_J5_append_3fe6f  bv bm ml cn bt  p0 Q0) : Met l yJ5_append_3fe6f wsJ5_append_3fe6f rmJ5_append_3fe6f (g_pre (cz adK adV) (dC, dI) vwCl [(cY, .byte)] (W_B adK adV cY h bv bm ml cn bt) sz [.ref h, .int p0]) (g_qr (dC, dI) vwCl [(cY, .byte)] (fun u : ((Nat) × (Nat) × (Int32) × (Nat → Int32)) => (W_B adK adV cY h (u.1) (u.2.1) ml (u.2.2.1) (u.2.2.2))) (fun _ => h) Q0 (va_A (W_B adK adV cY h bv bm ml cn bt) sz)) 1 40 (va_A (W_B adK adV cY h bv bm ml cn bt) sz) := by
  refine g_startr (Or.inl ⟨_, rfl⟩) (by decide) rfl (Nat.le_of_ble_eq_true rfl) ?_
  intro p e s m args below meth c A Q ls hx hb hml hown hts hin hK hP hD hA hS hZ hret hl
  obtain ⟨H, eH⟩ : ∃ H : Heap, H = s.heap := ⟨_, rfl⟩
  obtain ⟨locs, eL⟩ : ∃ L : List Loc, L = [] := ⟨_, rfl⟩
  have hS : va_S A s.heap H locs := by rw [eH, eL]; exact hS
  rw [← eH] at hP
  suffices hg : W p l e rmJ5_append_3fe6f s m args below meth c H locs 0 0 Q (F0 m 0 ls []) by rw [eH, eL] at hg; exact hg
  clear eH eL
  replace hl : lv_has ls 2 [(0, .ref h), (1, .int p0)] := hl
  have hf79 := hts (.fieldLink RJ5 79 "java/lang/AbstractStringBuilder" "count" "I") (by decide +kernel)
  have hiJ4 : ∀ w ∈ u_ws RJ4 TJ4 4, w ∈ wsJ5_append_3fe6f := fun w h => List.mem_cons_of_mem _ (List.mem_append_right _ h)
  have hf15 := hts (.fieldLink RJ5 15 "java/lang/AbstractStringBuilder" "value" "[B") (by decide +kernel)
  unfold w_J5_append_3fe6f at hw
  refine lv_aload_n hx hb dJ5_append_3fe6f_0 rfl (lv_at hl 0 rfl) ?_
  refine lv_aload_n hx hb dJ5_append_3fe6f_1 rfl (lv_at hl 0 rfl) ?_
  refine va_get (D := (dC, dI)) (ci := 1) (v := .int cn) (C := RJ4) (T := TJ4) (N := 4) hx hb hts hiJ4 hown hK hP 0 rfl rfl 3 (by decide) hf79 (fun _ h9 => h9) rfl dJ5_append_3fe6f_2 ?_
  refine lv_iconst (v := 1) hx hb dJ5_append_3fe6f_5 (by decide) ?_
  refine lv_iadd hx hb dJ5_append_3fe6f_6 ?_
  refine g_cv (g_J.plain (W2 := fun u1 : ((Nat) × (Nat) × (Nat → Int32)) => (W_B adK adV cY h (u1.1) (u1.2.1) ml cn (u1.2.2))) [] [0, 1] [] [0, 1] rfl (by decide) rfl (by decide) (by decide) (fun _ => rfl) (by decide)) [0] hK hP hD hS hA rfl (fun hPc hDc hKc hFc => va_runU (As := [.int (cn + (1 : Int32))]) (rest := []) ⟨hx, hb, hml, hown, hts⟩ (t_J5_ensureCapacityInternal_d00df l dC dI adK adV cY h H.size bv bm ml cn bt  (cn + (1 : Int32)) _ hw) (va_cwU 1 hts gJ5_append_3fe6f_J5_ensureCapacityInternal_d00df_u100J4 rfl rfl rfl rfl (by decide +kernel) ⟨Nat.le_of_ble_eq_true rfl, Nat.le_of_ble_eq_true rfl⟩) (g_pV czb (q0 := 0) rfl rfl hPc hDc hKc (czc hZ hS hFc)) rfl rfl hl.1 rfl (lv_room (Nat.le_of_ble_eq_true rfl)) dJ5_append_3fe6f_7 ⟨Nat.le_of_ble_eq_true rfl, Nat.le_of_ble_eq_true rfl⟩) (fun u1 H locs hw hP hD hS => ?_)
  refine W.widen (k := 1) (n := 40) (Nat.le_of_ble_eq_true rfl) (Nat.le_of_ble_eq_true rfl) ?_
  replace hP : va_P (dC, dI) vwCl (W_B adK adV cY h (u1.1) (u1.2.1) ml cn (u1.2.2)) H := hP
  replace hD : va_D A (W_B adK adV cY h (u1.1) (u1.2.1) ml cn (u1.2.2)) := hD
  refine lv_aload_n hx hb dJ5_append_3fe6f_10 rfl (lv_at hl 0 rfl) ?_
  refine g_ci (g_J.plain (W2 := fun u2 : Unit => (W_B adK adV cY h (u1.1) (u1.2.1) ml cn (u1.2.2))) [] [0, 1] [] [0, 1] rfl (by decide) rfl (by decide) (by decide) (fun _ => rfl) (by decide)) [0] hK hP hD hS hA rfl (fun hPc hDc hKc hFc => va_runU (As := []) (rest := []) ⟨hx, hb, hml, hown, hts⟩ (t_J5_isLatin1_aae02 l dC dI adK adV cY h H.size (u1.1) (u1.2.1) ml cn (u1.2.2)   _ hw) (va_cwU 0 hts gJ5_append_3fe6f_J5_isLatin1_aae02_u83J4 rfl rfl rfl rfl (by decide +kernel) ⟨Nat.le_of_ble_eq_true rfl, Nat.le_of_ble_eq_true rfl⟩) (g_pV czb (q0 := 0) rfl rfl hPc hDc hKc (czc hZ hS hFc)) rfl rfl hl.1 rfl (lv_room (Nat.le_of_ble_eq_true rfl)) dJ5_append_3fe6f_11 ⟨Nat.le_of_ble_eq_true rfl, Nat.le_of_ble_eq_true rfl⟩) (fun r3 u2 H locs hw hP hD hS => ?_)
  replace hP : va_P (dC, dI) vwCl (W_B adK adV cY h (u1.1) (u1.2.1) ml cn (u1.2.2)) H := hP
  replace hD : va_D A (W_B adK adV cY h (u1.1) (u1.2.1) ml cn (u1.2.2)) := hD
  replace hw := hw (∀ (H : Heap) (locs : List Loc) (ls : Array Slot), va_P (dC, dI) vwCl (W_B adK adV cY h (u1.1) (u1.2.1) ml cn (u1.2.2)) H → va_D A (W_B adK adV cY h (u1.1) (u1.2.1) ml cn (u1.2.2)) → va_S A s.heap H locs → lv_has ls 2 [(0, .ref h), (1, .int p0)] → W p l e rmJ5_append_3fe6f s m args below meth c H locs 1 40 Q (F0 m 45 ls [])) (by
    intro hw H locs ls hP hD hS hl
    refine lv_aload_n hx hb dJ5_append_3fe6f_45 rfl (lv_at hl 0 rfl) ?_
    refine g_ci (g_J.plain (W2 := fun u5 : Unit => (W_B adK adV cY h (u1.1) (u1.2.1) ml cn (u1.2.2))) [] [0, 1] [] [0, 1] rfl (by decide) rfl (by decide) (by decide) (fun _ => rfl) (by decide)) [0] hK hP hD hS hA rfl (fun hPc hDc hKc hFc => va_runU (As := []) (rest := []) ⟨hx, hb, hml, hown, hts⟩ (t_J5_isLatin1_aae02 l dC dI adK adV cY h H.size (u1.1) (u1.2.1) ml cn (u1.2.2)   _ hw) (va_cwU 0 hts gJ5_append_3fe6f_J5_isLatin1_aae02_u83J4 rfl rfl rfl rfl (by decide +kernel) ⟨Nat.le_of_ble_eq_true rfl, Nat.le_of_ble_eq_true rfl⟩) (g_pV czb (q0 := 0) rfl rfl hPc hDc hKc (czc hZ hS hFc)) rfl rfl hl.1 rfl (lv_room (Nat.le_of_ble_eq_true rfl)) dJ5_append_3fe6f_46 ⟨Nat.le_of_ble_eq_true rfl, Nat.le_of_ble_eq_true rfl⟩) (fun r6 u5 H locs hw hP hD hS => ?_)
    replace hP : va_P (dC, dI) vwCl (W_B adK adV cY h (u1.1) (u1.2.1) ml cn (u1.2.2)) H := hP
    replace hD : va_D A (W_B adK adV cY h (u1.1) (u1.2.1) ml cn (u1.2.2)) := hD
    replace hw := hw (∀ (H : Heap) (locs : List Loc) (ls : Array Slot), va_P (dC, dI) vwCl (W_B adK adV cY h (u1.1) (u1.2.1) ml cn (u1.2.2)) H → va_D A (W_B adK adV cY h (u1.1) (u1.2.1) ml cn (u1.2.2)) → va_S A s.heap H locs → lv_has ls 2 [(0, .ref h), (1, .int p0)] → W p l e rmJ5_append_3fe6f s m args below meth c H locs 1 40 Q (F0 m 56 ls [])) (by
      intro hw H locs ls hP hD hS hl
      refine lv_aload_n hx hb dJ5_append_3fe6f_56 rfl (lv_at hl 0 rfl) ?_
      refine va_get (D := (dC, dI)) (ci := 1) (v := .ref (u1.1)) (C := RJ4) (T := TJ4) (N := 4) hx hb hts hiJ4 hown hK hP 0 rfl rfl 0 (by decide) hf15 (fun _ h9 => h9) rfl dJ5_append_3fe6f_57 ?_
      refine lv_aload_n hx hb dJ5_append_3fe6f_60 rfl (lv_at hl 0 rfl) ?_
      refine lv_dup hx hb dJ5_append_3fe6f_61 rfl ?_
      refine va_get (D := (dC, dI)) (ci := 1) (v := .int cn) (C := RJ4) (T := TJ4) (N := 4) hx hb hts hiJ4 hown hK hP 0 rfl rfl 3 (by decide) hf79 (fun _ h9 => h9) rfl dJ5_append_3fe6f_62 ?_
      refine lv_dup_x1 hx hb dJ5_append_3fe6f_65 rfl rfl ?_
      refine lv_iconst (v := 1) hx hb dJ5_append_3fe6f_66 (by decide) ?_
      refine lv_iadd hx hb dJ5_append_3fe6f_67 ?_
      refine lv_topi (fun x8 ex8 => ?_)
      replace hw := hw x8 ex8
      refine va_put (D := (dC, dI)) (ci := 1) (v := .int x8) (ty := (.int)) (C := RJ4) (T := TJ4) (N := 4) hx hb hts hiJ4 tyJ4 tyJ4_ok nmJ4 hown hK hP hD hS 0 rfl rfl 3 (by decide) hf79 (fun _ h9 => h9) rfl (by decide +kernel) rfl rfl (Nat.le_of_ble_eq_true rfl) dJ5_append_3fe6f_68 (fun H locs hP hD hS => ?_)
      replace hP : va_P (dC, dI) vwCl (W_B adK adV cY h (u1.1) (u1.2.1) ml x8 (u1.2.2)) H := hP
      replace hD : va_D A (W_B adK adV cY h (u1.1) (u1.2.1) ml x8 (u1.2.2)) := hD
      refine lv_iload_n hx hb dJ5_append_3fe6f_71 rfl (lv_at hl 1 rfl) ?_
      exact hw.elim)
    refine lv_if_eq (tgt := 56) hx hb dJ5_append_3fe6f_49 (by decide) (fun hc9 => ?_) (fun hc9 => ?_)
    · replace hw := hw.1 hc9
      exact hw H locs ls hP hD hS (lv_sub hl [0, 1] rfl)
    · replace hw := hw.2 hc9
      refine lv_aload_n hx hb dJ5_append_3fe6f_52 rfl (lv_at hl 0 rfl) ?_
      exact hw.elim)
  refine lv_if_eq (tgt := 45) hx hb dJ5_append_3fe6f_14 (by decide) (fun hc10 => ?_) (fun hc10 => ?_)
  · replace hw := hw.1 hc10
    exact hw H locs ls hP hD hS (lv_sub hl [0, 1] rfl)
  · replace hw := hw.2 hc10
    refine lv_iload_n hx hb dJ5_append_3fe6f_17 rfl (lv_at hl 1 rfl) ?_
    refine g_c0 (rest := []) (va_runS (As := [.int p0]) (rest := []) ⟨hx, hb, hml, hown, hts⟩ (t_J1_canEncode_fc78d l  p0 _ hw) (va_cwS 1 hts gJ5_append_3fe6f_J1_canEncode_fc78d rfl rfl rfl (by decide +kernel) ⟨Nat.le_of_ble_eq_true rfl, Nat.le_of_ble_eq_true rfl⟩) g_p0S rfl rfl hl.1 rfl (lv_room (Nat.le_of_ble_eq_true rfl)) dJ5_append_3fe6f_18 ⟨Nat.le_of_ble_eq_true rfl, Nat.le_of_ble_eq_true rfl⟩) (fun r11 hw => ?_)
    refine lv_if_eq (tgt := 45) hx hb dJ5_append_3fe6f_21 (by decide) (fun hc12 => ?_) (fun hc12 => ?_)
    · replace hw := hw.1 hc12
      exact hw H locs ls hP hD hS (lv_sub hl [0, 1] rfl)
    · replace hw := hw.2 hc12
      refine lv_aload_n hx hb dJ5_append_3fe6f_24 rfl (lv_at hl 0 rfl) ?_
      refine va_get (D := (dC, dI)) (ci := 1) (v := .ref (u1.1)) (C := RJ4) (T := TJ4) (N := 4) hx hb hts hiJ4 hown hK hP 0 rfl rfl 0 (by decide) hf15 (fun _ h9 => h9) rfl dJ5_append_3fe6f_25 ?_
      refine lv_aload_n hx hb dJ5_append_3fe6f_28 rfl (lv_at hl 0 rfl) ?_
      refine lv_dup hx hb dJ5_append_3fe6f_29 rfl ?_
      refine va_get (D := (dC, dI)) (ci := 1) (v := .int cn) (C := RJ4) (T := TJ4) (N := 4) hx hb hts hiJ4 hown hK hP 0 rfl rfl 3 (by decide) hf79 (fun _ h9 => h9) rfl dJ5_append_3fe6f_30 ?_
      refine lv_dup_x1 hx hb dJ5_append_3fe6f_33 rfl rfl ?_
      refine lv_iconst (v := 1) hx hb dJ5_append_3fe6f_34 (by decide) ?_
      refine lv_iadd hx hb dJ5_append_3fe6f_35 ?_
      refine lv_topi (fun x13 ex13 => ?_)
      replace hw := hw x13 ex13
      refine va_put (D := (dC, dI)) (ci := 1) (v := .int x13) (ty := (.int)) (C := RJ4) (T := TJ4) (N := 4) hx hb hts hiJ4 tyJ4 tyJ4_ok nmJ4 hown hK hP hD hS 0 rfl rfl 3 (by decide) hf79 (fun _ h9 => h9) rfl (by decide +kernel) rfl rfl (Nat.le_of_ble_eq_true rfl) dJ5_append_3fe6f_36 (fun H locs hP hD hS => ?_)
      replace hP : va_P (dC, dI) vwCl (W_B adK adV cY h (u1.1) (u1.2.1) ml x13 (u1.2.2)) H := hP
      replace hD : va_D A (W_B adK adV cY h (u1.1) (u1.2.1) ml x13 (u1.2.2)) := hD
      refine lv_iload_n hx hb dJ5_append_3fe6f_39 rfl (lv_at hl 1 rfl) ?_
      refine lv_i2b hx hb dJ5_append_3fe6f_40 rfl ?_
      refine lv_topi (fun x15 ex15 => ?_)
      replace hw := hw x15 ex15
      obtain ⟨hb14, hw⟩ := hw
      refine va_bast hx hb hK hP hD hS 1 0 rfl rfl hb14 dJ5_append_3fe6f_41 (fun H locs hP hD hS => ?_)
      replace hP : va_P (dC, dI) vwCl (W_B adK adV cY h (u1.1) (u1.2.1) ml x13 (upd (u1.2.2) cn.toNatClampNeg (vp_nar .byte x15))) H := hP
      replace hD : va_D A (W_B adK adV cY h (u1.1) (u1.2.1) ml x13 (upd (u1.2.2) cn.toNatClampNeg (vp_nar .byte x15))) := hD
      refine lv_goto (tgt := 75) hx hb dJ5_append_3fe6f_42 (by decide) ?_
      refine lv_aload_n hx hb dJ5_append_3fe6f_75 rfl (lv_at hl 0 rfl) ?_
      exact hret (u := (u1.1, u1.2.1, x13, (upd (u1.2.2) cn.toNatClampNeg (vp_nar .byte x15)))) dJ5_append_3fe6f_76 hK hP hD hS hw
