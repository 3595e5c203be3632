def w_X10_left (n : Nat) (k : Nat) (q : Nat → Nat) (ni : Nat → Int32) (bv : Nat) (bm : Nat) (ml : Int32) (cn : Int32) (bt : Nat → Int32) (f : Nat → Int32) (t : Nat) (a : Nat → Nat → Int32) (b : Nat → Nat → Int32) (sg : Nat → Nat → Option Nat) (sL : List Nat) (sf : Nat → Nat → Int32)   (Q : Int32 → ((Nat → Int32) × (Nat) × (Nat → Nat → Int32)) → Prop) : Prop := w_X10_hasPile n k q ni bv bm ml cn bt f t a b sg sL sf  (fun (r2 : Int32) (u1 : Unit) => (((r2 = 0) → Q (-103 : Int32) (f, t, a)) ∧ (¬ (r2 = 0) → w_X5_fitting n k q f t a b sg sL sf  (fun (r5 : Int32) (u4 : ((Nat → Int32) × (Nat) × (Nat → Nat → Int32))) => Q r5 (u4.1, u4.2.1, u4.2.2)))))
abbrev rmX10_left : Room := { frames := 5, cells := 0, slots := 0, locals := 128 }
set_option maxHeartbeats 4000000 in
set_option maxRecDepth 100000 in
theorem t_X10_left (l : Launch) (dC : Nat → ClassId) (dI : Nat → Nat → Nat) (adK : Nat → Nat) (adV : Nat → Nat) (cI : ClassId) (cB : ClassId) (cS : ClassId) (cY : ClassId) (np : Nat) (pg : Nat) (g : Nat) (q : Nat → Nat) (qb : Nat → Nat) (n : Nat) (k : Nat) (sz : Nat) (ni : Nat → Int32) (bv : Nat) (bm : Nat) (ml : Int32) (cn : Int32) (bt : Nat → Int32) (f : Nat → Int32) (t : Nat) (a : Nat → Nat → Int32) (b : Nat → Nat → Int32) (sg : Nat → Nat → Option Nat) (sL : List Nat) (sf : Nat → Nat → Int32)    (Q0 : Int32 → ((Nat → Int32) × (Nat) × (Nat → Nat → Int32)) → Prop) (hw : w_X10_left n k q ni bv bm ml cn bt f t a b sg sL sf   Q0) : Met l yX10_left wsX10_left rmX10_left (g_pre (cz adK adV) (dC, dI) vwCl [(cI, .int), (cB, .object RX0), (cS, .object RX7), (cY, .byte)] ((W_N adK adV cI cB cS cY np pg g q qb n k ni bv bm ml cn bt f t a b sg) ++ va_pl sL (sgF sf)) sz [.ref np]) (g_qi (dC, dI) vwCl [(cI, .int), (cB, .object RX0), (cS, .object RX7), (cY, .byte)] (fun u : ((Nat → Int32) × (Nat) × (Nat → Nat → Int32)) => ((W_N adK adV cI cB cS cY np pg g q qb n k ni bv bm ml cn bt (u.1) (u.2.1) (u.2.2) b sg) ++ va_pl sL (sgF sf))) Q0 (va_A ((W_N adK adV cI cB cS cY np pg g q qb n k ni bv bm ml cn bt f t a b sg) ++ va_pl sL (sgF sf)) sz)) 0 0 (va_A ((W_N adK adV cI cB cS cY np pg g q qb n k ni bv bm ml cn bt f t a b sg) ++ va_pl sL (sgF sf)) sz) := by
  refine g_starti (by decide) rfl (Nat.le_of_ble_eq_true rfl) ?_
  intro p e s m args below meth c A Q ls hx hb hml hown hts hin hK hP hD hA hS hZ hret hl
  obtain ⟨H, eH⟩ : ∃ H : Heap, H = s.heap := ⟨_, rfl⟩
  obtain ⟨locs, eL⟩ : ∃ L : List Loc, L = [] := ⟨_, rfl⟩
  have hS : va_S A s.heap H locs := by rw [eH, eL]; exact hS
  rw [← eH] at hP
  suffices hg : W p l e rmX10_left s m args below meth c H locs 0 0 Q (F0 m 0 ls []) by rw [eH, eL] at hg; exact hg
  clear eH eL
  replace hl : lv_has ls 1 [(0, .ref np)] := hl
  have hf40 := hts (.fieldLink RX10 40 "NumberPile" "current" "LNumberPile$Pile;") (by decide +kernel)
  have hiX10 : ∀ w ∈ u_ws RX10 TX10 6, w ∈ wsX10_left := fun w h => List.mem_cons_of_mem _ (List.mem_append_left _ (List.mem_append_left _ (List.mem_append_left _ (List.mem_append_right _ h))))
  unfold w_X10_left at hw
  refine lv_aload_n hx hb dX10_left_0 rfl (lv_at hl 0 rfl) ?_
  refine g_ci (g_J.poolP (W2 := fun u1 : Unit => (W_N adK adV cI cB cS cY np pg g q qb n k ni bv bm ml cn bt f t a b sg)) (pl := va_pl sL (sgF sf)) (PL := fun u1 : Unit => va_pl sL (sgF sf)) (RX := fun u1 : Unit => (W_N adK adV cI cB cS cY np pg g q qb n k ni bv bm ml cn bt f t a b sg)) [] [0, 1, 2, 3, 4, 5, 6, 7, 8, 9, 10, 11, 12, 13, 14, 15, 16, 17, 18, 19, 20, 21, 22, 23, 24, 25, 26, 27, 28, 29, 30] [] [0, 1, 2, 3, 4, 5, 6, 7, 8, 9, 10, 11, 12, 13, 14, 15, 16, 17, 18, 19, 20, 21, 22, 23, 24, 25, 26, 27, 28, 29, 30] rfl (by decide) rfl (by decide) (by decide) (fun _ => rfl) (by decide)) [0, 1, 2, 3] hK hP hD hS hA rfl (fun hPc hDc hKc hFc => va_runV (As := []) (rest := []) ⟨hx, hb, hml, hown, hts⟩ (t_X10_hasPile l dC dI adK adV cI cB cS cY np pg g q qb n k H.size ni bv bm ml cn bt f t a b sg sL sf  _ hw) (cwV 0 hts gX10_left_X10_hasPile rfl rfl rfl (by decide +kernel) ⟨Nat.le_of_ble_eq_true rfl, Nat.le_of_ble_eq_true rfl⟩) (g_pV czb (q0 := 0) rfl rfl hPc hDc hKc (czc hZ hS hFc)) rfl rfl hl.1 rfl (lv_room (Nat.le_of_ble_eq_true rfl)) dX10_left_1 ⟨Nat.le_of_ble_eq_true rfl, Nat.le_of_ble_eq_true rfl⟩) (fun r2 u1 H locs hw hP hD hS => ?_)
  replace hP : va_P (dC, dI) vwCl ((W_N adK adV cI cB cS cY np pg g q qb n k ni bv bm ml cn bt f t a b sg) ++ va_pl sL (sgF sf)) H := hP
  replace hD : va_D A ((W_N adK adV cI cB cS cY np pg g q qb n k ni bv bm ml cn bt f t a b sg) ++ va_pl sL (sgF sf)) := hD
  refine lv_if_eq (tgt := 17) hx hb dX10_left_4 (by decide) (fun hc3 => ?_) (fun hc3 => ?_)
  · replace hw := hw.1 hc3
    refine lv_bipush (v := -103) hx hb dX10_left_17 (by decide) ?_
    exact hret dX10_left_19 hK hP hD hS hw
  · replace hw := hw.2 hc3
    refine lv_aload_n hx hb dX10_left_7 rfl (lv_at hl 0 rfl) ?_
    refine va_get (D := (dC, dI)) (ci := 12) (v := .ref (q 0)) (C := RX10) (T := TX10) (N := 6) hx hb hts hiX10 hown hK hP 0 rfl rfl 2 (by decide) hf40 (fun _ h9 => h9) rfl dX10_left_8 ?_
    refine g_ci (g_J.poolP (W2 := fun u4 : ((Nat → Int32) × (Nat) × (Nat → Nat → Int32)) => (W_N adK adV cI cB cS cY np pg g q qb n k ni bv bm ml cn bt (u4.1) (u4.2.1) (u4.2.2) b sg)) (pl := va_pl sL (sgF sf)) (PL := fun u4 : ((Nat → Int32) × (Nat) × (Nat → Nat → Int32)) => va_pl sL (sgF sf)) (RX := fun u4 : ((Nat → Int32) × (Nat) × (Nat → Nat → Int32)) => (W_P adK adV cI cB cS q qb n k (u4.1) (u4.2.1) (u4.2.2) b sg)) [(np, .inr (12, [.ref (q 1), .ref pg, .ref (q 0), .int (ni 0), .int (ni 1), .int (ni 2)])), (pg, .inr (6, [.ref g])), (g, .inr (1, [.ref bv, .int (0 : Int32), .int ml, .int cn])), (bv, .inl (cY, bm, .inl bt))] [4, 5, 6, 7, 8, 9, 10, 11, 12, 13, 14, 15, 16, 17, 18, 19, 20, 21, 22, 23, 24, 25, 26, 27, 28, 29, 30] [0, 1, 2, 3] [0, 1, 2, 3, 4, 5, 6, 7, 8, 9, 10, 11, 12, 13, 14, 15, 16, 17, 18, 19, 20, 21, 22, 23, 24, 25, 26, 27, 28, 29, 30] rfl (by decide) rfl (by decide) (by decide) (fun _ => rfl) (by decide)) [0, 1, 2] hK hP hD hS hA rfl (fun hPc hDc hKc hFc => va_runV (As := []) (rest := []) ⟨hx, hb, hml, hown, hts⟩ (t_X5_fitting l dC dI adK adV cI cB cS q qb n k H.size f t a b sg sL sf  _ hw) (cwV 0 hts gX10_left_X5_fitting rfl rfl rfl (by decide +kernel) ⟨Nat.le_of_ble_eq_true rfl, Nat.le_of_ble_eq_true rfl⟩) (g_pV czb (q0 := 0) rfl rfl hPc hDc hKc (czc hZ hS hFc)) rfl rfl hl.1 rfl (lv_room (Nat.le_of_ble_eq_true rfl)) dX10_left_11 ⟨Nat.le_of_ble_eq_true rfl, Nat.le_of_ble_eq_true rfl⟩) (fun r5 u4 H locs hw hP hD hS => ?_)
    replace hP : va_P (dC, dI) vwCl ((W_N adK adV cI cB cS cY np pg g q qb n k ni bv bm ml cn bt (u4.1) (u4.2.1) (u4.2.2) b sg) ++ va_pl sL (sgF sf)) H := hP
    replace hD : va_D A ((W_N adK adV cI cB cS cY np pg g q qb n k ni bv bm ml cn bt (u4.1) (u4.2.1) (u4.2.2) b sg) ++ va_pl sL (sgF sf)) := hD
    refine lv_goto (tgt := 19) hx hb dX10_left_14 (by decide) ?_
    exact hret dX10_left_19 hK hP hD hS hw

def w_X10_fits (n : Nat) (k : Nat) (q : Nat → Nat) (ni : Nat → Int32) (bv : Nat) (bm : Nat) (ml : Int32) (cn : Int32) (bt : Nat → Int32) (f : Nat → Int32) (t : Nat) (a : Nat → Nat → Int32) (b : Nat → Nat → Int32) (sg : Nat → Nat → Option Nat) (sL : List Nat) (sf : Nat → Nat → Int32)  (p0 : Int32) (Q : Int32 → ((Nat → Int32) × (Nat) × (Nat → Nat → Int32)) → Prop) : Prop := (((0 ≤ p0) → w_X10_hasPile n k q ni bv bm ml cn bt f t a b sg sL sf  (fun (r3 : Int32) (u2 : Unit) => (((¬ r3 = 0) → w_X5_fitting n k q f t a b sg sL sf  (fun (r6 : Int32) (u5 : ((Nat → Int32) × (Nat) × (Nat → Nat → Int32))) => (((r6 ≤ p0) → Q (-1 : Int32) (u5.1, u5.2.1, u5.2.2)) ∧ (¬ (r6 ≤ p0) → w_X5_fittingRow n k q (u5.1) (u5.2.1) (u5.2.2) b sg sL sf p0 (fun (r9 : Int32) (u8 : ((Nat → Int32) × (Nat) × (Nat → Nat → Int32))) => Q r9 (u8.1, u8.2.1, u8.2.2)))))) ∧ (r3 = 0 → Q (-103 : Int32) (f, t, a))))) ∧ (¬ (0 ≤ p0) → Q (-102 : Int32) (f, t, a)))
abbrev rmX10_fits : Room := { frames := 5, cells := 0, slots := 0, locals := 128 }
set_option maxHeartbeats 4000000 in
set_option maxRecDepth 100000 in
theorem t_X10_fits (l : Launch) (dC : Nat → ClassId) (dI : Nat → Nat → Nat) (adK : Nat → Nat) (adV : Nat → Nat) (cI : ClassId) (cB : ClassId) (cS : ClassId) (cY : ClassId) (np : Nat) (pg : Nat) (g : Nat) (q : Nat → Nat) (qb : Nat → Nat) (n : Nat) (k : Nat) (sz : Nat) (ni : Nat → Int32) (bv : Nat) (bm : Nat) (ml : Int32) (cn : Int32) (bt : Nat → Int32) (f : Nat → Int32) (t : Nat) (a : Nat → Nat → Int32) (b : Nat → Nat → Int32) (sg : Nat → Nat → Option Nat) (sL : List Nat) (sf : Nat → Nat → Int32)   (p0 : Int32) (Q0 : Int32 → ((Nat → Int32) × (Nat) × (Nat → Nat → Int32)) → Prop) (hw : w_X10_fits n k q ni bv bm ml cn bt f t a b sg sL sf  p0 Q0) : Met l yX10_fits wsX10_fits rmX10_fits (g_pre (cz adK adV) (dC, dI) vwCl [(cI, .int), (cB, .object RX0), (cS, .object RX7), (cY, .byte)] ((W_N adK adV cI cB cS cY np pg g q qb n k ni bv bm ml cn bt f t a b sg) ++ va_pl sL (sgF sf)) sz [.ref np, .int p0]) (g_qi (dC, dI) vwCl [(cI, .int), (cB, .object RX0), (cS, .object RX7), (cY, .byte)] (fun u : ((Nat → Int32) × (Nat) × (Nat → Nat → Int32)) => ((W_N adK adV cI cB cS cY np pg g q qb n k ni bv bm ml cn bt (u.1) (u.2.1) (u.2.2) b sg) ++ va_pl sL (sgF sf))) Q0 (va_A ((W_N adK adV cI cB cS cY np pg g q qb n k ni bv bm ml cn bt f t a b sg) ++ va_pl sL (sgF sf)) sz)) 0 0 (va_A ((W_N adK adV cI cB cS cY np pg g q qb n k ni bv bm ml cn bt f t a b sg) ++ va_pl sL (sgF sf)) sz) := by
  refine g_starti (by decide) rfl (Nat.le_of_ble_eq_true rfl) ?_
  intro p e s m args below meth c A Q ls hx hb hml hown hts hin hK hP hD hA hS hZ hret hl
  obtain ⟨H, eH⟩ : ∃ H : Heap, H = s.heap := ⟨_, rfl⟩
  obtain ⟨locs, eL⟩ : ∃ L : List Loc, L = [] := ⟨_, rfl⟩
  have hS : va_S A s.heap H locs := by rw [eH, eL]; exact hS
  rw [← eH] at hP
  suffices hg : W p l e rmX10_fits s m args below meth c H locs 0 0 Q (F0 m 0 ls []) by rw [eH, eL] at hg; exact hg
  clear eH eL
  replace hl : lv_has ls 2 [(0, .ref np), (1, .int p0)] := hl
  have hf40 := hts (.fieldLink RX10 40 "NumberPile" "current" "LNumberPile$Pile;") (by decide +kernel)
  have hiX10 : ∀ w ∈ u_ws RX10 TX10 6, w ∈ wsX10_fits := fun w h => List.mem_cons_of_mem _ (List.mem_append_left _ (List.mem_append_left _ (List.mem_append_left _ (List.mem_append_right _ h))))
  unfold w_X10_fits at hw
  refine lv_iload_n hx hb dX10_fits_0 rfl (lv_at hl 1 rfl) ?_
  refine lv_if_ge (tgt := 7) hx hb dX10_fits_1 (by decide) (fun hc1 => ?_) (fun hc1 => ?_)
  · replace hw := hw.1 hc1
    refine lv_aload_n hx hb dX10_fits_7 rfl (lv_at hl 0 rfl) ?_
    refine g_ci (g_J.poolP (W2 := fun u2 : Unit => (W_N adK adV cI cB cS cY np pg g q qb n k ni bv bm ml cn bt f t a b sg)) (pl := va_pl sL (sgF sf)) (PL := fun u2 : Unit => va_pl sL (sgF sf)) (RX := fun u2 : Unit => (W_N adK adV cI cB cS cY np pg g q qb n k ni bv bm ml cn bt f t a b sg)) [] [0, 1, 2, 3, 4, 5, 6, 7, 8, 9, 10, 11, 12, 13, 14, 15, 16, 17, 18, 19, 20, 21, 22, 23, 24, 25, 26, 27, 28, 29, 30] [] [0, 1, 2, 3, 4, 5, 6, 7, 8, 9, 10, 11, 12, 13, 14, 15, 16, 17, 18, 19, 20, 21, 22, 23, 24, 25, 26, 27, 28, 29, 30] rfl (by decide) rfl (by decide) (by decide) (fun _ => rfl) (by decide)) [0, 1, 2, 3] hK hP hD hS hA rfl (fun hPc hDc hKc hFc => va_runV (As := []) (rest := []) ⟨hx, hb, hml, hown, hts⟩ (t_X10_hasPile l dC dI adK adV cI cB cS cY np pg g q qb n k H.size ni bv bm ml cn bt f t a b sg sL sf  _ hw) (cwV 0 hts gX10_fits_X10_hasPile rfl rfl rfl (by decide +kernel) ⟨Nat.le_of_ble_eq_true rfl, Nat.le_of_ble_eq_true rfl⟩) (g_pV czb (q0 := 0) rfl rfl hPc hDc hKc (czc hZ hS hFc)) rfl rfl hl.1 rfl (lv_room (Nat.le_of_ble_eq_true rfl)) dX10_fits_8 ⟨Nat.le_of_ble_eq_true rfl, Nat.le_of_ble_eq_true rfl⟩) (fun r3 u2 H locs hw hP hD hS => ?_)
    replace hP : va_P (dC, dI) vwCl ((W_N adK adV cI cB cS cY np pg g q qb n k ni bv bm ml cn bt f t a b sg) ++ va_pl sL (sgF sf)) H := hP
    replace hD : va_D A ((W_N adK adV cI cB cS cY np pg g q qb n k ni bv bm ml cn bt f t a b sg) ++ va_pl sL (sgF sf)) := hD
    refine lv_if_ne (tgt := 17) hx hb dX10_fits_11 (by decide) (fun hc4 => ?_) (fun hc4 => ?_)
    · replace hw := hw.1 hc4
      refine lv_iload_n hx hb dX10_fits_17 rfl (lv_at hl 1 rfl) ?_
      refine lv_aload_n hx hb dX10_fits_18 rfl (lv_at hl 0 rfl) ?_
      refine va_get (D := (dC, dI)) (ci := 12) (v := .ref (q 0)) (C := RX10) (T := TX10) (N := 6) hx hb hts hiX10 hown hK hP 0 rfl rfl 2 (by decide) hf40 (fun _ h9 => h9) rfl dX10_fits_19 ?_
      refine g_ci (g_J.poolP (W2 := fun u5 : ((Nat → Int32) × (Nat) × (Nat → Nat → Int32)) => (W_N adK adV cI cB cS cY np pg g q qb n k ni bv bm ml cn bt (u5.1) (u5.2.1) (u5.2.2) b sg)) (pl := va_pl sL (sgF sf)) (PL := fun u5 : ((Nat → Int32) × (Nat) × (Nat → Nat → Int32)) => va_pl sL (sgF sf)) (RX := fun u5 : ((Nat → Int32) × (Nat) × (Nat → Nat → Int32)) => (W_P adK adV cI cB cS q qb n k (u5.1) (u5.2.1) (u5.2.2) b sg)) [(np, .inr (12, [.ref (q 1), .ref pg, .ref (q 0), .int (ni 0), .int (ni 1), .int (ni 2)])), (pg, .inr (6, [.ref g])), (g, .inr (1, [.ref bv, .int (0 : Int32), .int ml, .int cn])), (bv, .inl (cY, bm, .inl bt))] [4, 5, 6, 7, 8, 9, 10, 11, 12, 13, 14, 15, 16, 17, 18, 19, 20, 21, 22, 23, 24, 25, 26, 27, 28, 29, 30] [0, 1, 2, 3] [0, 1, 2, 3, 4, 5, 6, 7, 8, 9, 10, 11, 12, 13, 14, 15, 16, 17, 18, 19, 20, 21, 22, 23, 24, 25, 26, 27, 28, 29, 30] rfl (by decide) rfl (by decide) (by decide) (fun _ => rfl) (by decide)) [0, 1, 2] hK hP hD hS hA rfl (fun hPc hDc hKc hFc => va_runV (As := []) (rest := [.int p0]) ⟨hx, hb, hml, hown, hts⟩ (t_X5_fitting l dC dI adK adV cI cB cS q qb n k H.size f t a b sg sL sf  _ hw) (cwV 0 hts gX10_fits_X5_fitting rfl rfl rfl (by decide +kernel) ⟨Nat.le_of_ble_eq_true rfl, Nat.le_of_ble_eq_true rfl⟩) (g_pV czb (q0 := 0) rfl rfl hPc hDc hKc (czc hZ hS hFc)) rfl rfl hl.1 rfl (lv_room (Nat.le_of_ble_eq_true rfl)) dX10_fits_22 ⟨Nat.le_of_ble_eq_true rfl, Nat.le_of_ble_eq_true rfl⟩) (fun r6 u5 H locs hw hP hD hS => ?_)
      replace hP : va_P (dC, dI) vwCl ((W_N adK adV cI cB cS cY np pg g q qb n k ni bv bm ml cn bt (u5.1) (u5.2.1) (u5.2.2) b sg) ++ va_pl sL (sgF sf)) H := hP
      replace hD : va_D A ((W_N adK adV cI cB cS cY np pg g q qb n k ni bv bm ml cn bt (u5.1) (u5.2.1) (u5.2.2) b sg) ++ va_pl sL (sgF sf)) := hD
      refine lv_icmp_ge (tgt := 39) hx hb dX10_fits_25 (by decide) (fun hc7 => ?_) (fun hc7 => ?_)
      · replace hw := hw.1 hc7
        refine lv_iconst (v := -1) hx hb dX10_fits_39 (by decide) ?_
        exact hret dX10_fits_40 hK hP hD hS hw
      · replace hw := hw.2 hc7
        refine lv_aload_n hx hb dX10_fits_28 rfl (lv_at hl 0 rfl) ?_
        refine va_get (D := (dC, dI)) (ci := 12) (v := .ref (q 0)) (C := RX10) (T := TX10) (N := 6) hx hb hts hiX10 hown hK hP 0 rfl rfl 2 (by decide) hf40 (fun _ h9 => h9) rfl dX10_fits_29 ?_
        refine lv_iload_n hx hb dX10_fits_32 rfl (lv_at hl 1 rfl) ?_
        refine g_ci (g_J.poolP (W2 := fun u8 : ((Nat → Int32) × (Nat) × (Nat → Nat → Int32)) => (W_N adK adV cI cB cS cY np pg g q qb n k ni bv bm ml cn bt (u8.1) (u8.2.1) (u8.2.2) b sg)) (pl := va_pl sL (sgF sf)) (PL := fun u8 : ((Nat → Int32) × (Nat) × (Nat → Nat → Int32)) => va_pl sL (sgF sf)) (RX := fun u8 : ((Nat → Int32) × (Nat) × (Nat → Nat → Int32)) => (W_P adK adV cI cB cS q qb n k (u8.1) (u8.2.1) (u8.2.2) b sg)) [(np, .inr (12, [.ref (q 1), .ref pg, .ref (q 0), .int (ni 0), .int (ni 1), .int (ni 2)])), (pg, .inr (6, [.ref g])), (g, .inr (1, [.ref bv, .int (0 : Int32), .int ml, .int cn])), (bv, .inl (cY, bm, .inl bt))] [4, 5, 6, 7, 8, 9, 10, 11, 12, 13, 14, 15, 16, 17, 18, 19, 20, 21, 22, 23, 24, 25, 26, 27, 28, 29, 30] [0, 1, 2, 3] [0, 1, 2, 3, 4, 5, 6, 7, 8, 9, 10, 11, 12, 13, 14, 15, 16, 17, 18, 19, 20, 21, 22, 23, 24, 25, 26, 27, 28, 29, 30] rfl (by decide) rfl (by decide) (by decide) (fun _ => rfl) (by decide)) [0, 1, 2] hK hP hD hS hA rfl (fun hPc hDc hKc hFc => va_runV (As := [.int p0]) (rest := []) ⟨hx, hb, hml, hown, hts⟩ (t_X5_fittingRow l dC dI adK adV cI cB cS q qb n k H.size (u5.1) (u5.2.1) (u5.2.2) b sg sL sf p0 _ hw) (cwV 1 hts gX10_fits_X5_fittingRow rfl rfl rfl (by decide +kernel) ⟨Nat.le_of_ble_eq_true rfl, Nat.le_of_ble_eq_true rfl⟩) (g_pV czb (q0 := 0) rfl rfl hPc hDc hKc (czc hZ hS hFc)) rfl rfl hl.1 rfl (lv_room (Nat.le_of_ble_eq_true rfl)) dX10_fits_33 ⟨Nat.le_of_ble_eq_true rfl, Nat.le_of_ble_eq_true rfl⟩) (fun r9 u8 H locs hw hP hD hS => ?_)
        replace hP : va_P (dC, dI) vwCl ((W_N adK adV cI cB cS cY np pg g q qb n k ni bv bm ml cn bt (u8.1) (u8.2.1) (u8.2.2) b sg) ++ va_pl sL (sgF sf)) H := hP
        replace hD : va_D A ((W_N adK adV cI cB cS cY np pg g q qb n k ni bv bm ml cn bt (u8.1) (u8.2.1) (u8.2.2) b sg) ++ va_pl sL (sgF sf)) := hD
        refine lv_goto (tgt := 40) hx hb dX10_fits_36 (by decide) ?_
        exact hret dX10_fits_40 hK hP hD hS hw
    · replace hw := hw.2 hc4
      refine lv_bipush (v := -103) hx hb dX10_fits_14 (by decide) ?_
      exact hret dX10_fits_16 hK hP hD hS hw
  · replace hw := hw.2 hc1
    refine lv_bipush (v := -102) hx hb dX10_fits_4 (by decide) ?_
    exact hret dX10_fits_6 hK hP hD hS hw

def w_X10_look (n : Nat) (k : Nat) (q : Nat → Nat) (ni : Nat → Int32) (bv : Nat) (bm : Nat) (ml : Int32) (cn : Int32) (bt : Nat → Int32) (f : Nat → Int32) (t : Nat) (a : Nat → Nat → Int32) (b : Nat → Nat → Int32) (sg : Nat → Nat → Option Nat) (sL : List Nat) (sf : Nat → Nat → Int32)   (Q : Int32 → ((Nat → Int32) × (Nat → Int32) × (Nat) × (Nat → Nat → Int32) × (Nat → Nat → Int32)) → Prop) : Prop := w_X10_hasPile n k q ni bv bm ml cn bt f t a b sg sL sf  (fun (r2 : Int32) (u1 : Unit) => (((r2 = 0) → Q (-103 : Int32) (ni, f, t, a, b)) ∧ (¬ (r2 = 0) → ((((ni 2) < (20 : Int32)) → ∀ x5 : Int32, x5 = ((ni 2) + (1 : Int32)) → w_X5_nextLook n k q f t a b sg sL sf  (fun (r7 : Int32) (u6 : ((Nat → Int32) × (Nat) × (Nat → Nat → Int32) × (Nat → Nat → Int32))) => Q r7 ((upd ni 2 x5), u6.1, u6.2.1, u6.2.2.1, u6.2.2.2))) ∧ (¬ ((ni 2) < (20 : Int32)) → Q (-103 : Int32) (ni, f, t, a, b))))))
abbrev rmX10_look : Room := { frames := 6, cells := 0, slots := 0, locals := 152 }
set_option maxHeartbeats 4000000 in
set_option maxRecDepth 100000 in
theorem t_X10_look (l : Launch) (dC : Nat → ClassId) (dI : Nat → Nat → Nat) (adK : Nat → Nat) (adV : Nat → Nat) (cI : ClassId) (cB : ClassId) (cS : ClassId) (cY : ClassId) (np : Nat) (pg : Nat) (g : Nat) (q : Nat → Nat) (qb : Nat → Nat) (n : Nat) (k : Nat) (sz : Nat) (ni : Nat → Int32) (bv : Nat) (bm : Nat) (ml : Int32) (cn : Int32) (bt : Nat → Int32) (f : Nat → Int32) (t : Nat) (a : Nat → Nat → Int32) (b : Nat → Nat → Int32) (sg : Nat → Nat → Option Nat) (sL : List Nat) (sf : Nat → Nat → Int32)    (Q0 : Int32 → ((Nat → Int32) × (Nat → Int32) × (Nat) × (Nat → Nat → Int32) × (Nat → Nat → Int32)) → Prop) (hw : w_X10_look n k q ni bv bm ml cn bt f t a b sg sL sf   Q0) : Met l yX10_look wsX10_look rmX10_look (g_pre (cz adK adV) (dC, dI) vwCl [(cI, .int), (cB, .object RX0), (cS, .object RX7), (cY, .byte)] ((W_N adK adV cI cB cS cY np pg g q qb n k ni bv bm ml cn bt f t a b sg) ++ va_pl sL (sgF sf)) sz [.ref np]) (g_qi (dC, dI) vwCl [(cI, .int), (cB, .object RX0), (cS, .object RX7), (cY, .byte)] (fun u : ((Nat → Int32) × (Nat → Int32) × (Nat) × (Nat → Nat → Int32) × (Nat → Nat → Int32)) => ((W_N adK adV cI cB cS cY np pg g q qb n k (u.1) bv bm ml cn bt (u.2.1) (u.2.2.1) (u.2.2.2.1) (u.2.2.2.2) sg) ++ va_pl sL (sgF sf))) Q0 (va_A ((W_N adK adV cI cB cS cY np pg g q qb n k ni bv bm ml cn bt f t a b sg) ++ va_pl sL (sgF sf)) sz)) 0 0 (va_A ((W_N adK adV cI cB cS cY np pg g q qb n k ni bv bm ml cn bt f t a b sg) ++ va_pl sL (sgF sf)) sz) := by
  refine g_starti (by decide) rfl (Nat.le_of_ble_eq_true rfl) ?_
  intro p e s m args below meth c A Q ls hx hb hml hown hts hin hK hP hD hA hS hZ hret hl
  obtain ⟨H, eH⟩ : ∃ H : Heap, H = s.heap := ⟨_, rfl⟩
  obtain ⟨locs, eL⟩ : ∃ L : List Loc, L = [] := ⟨_, rfl⟩
  have hS : va_S A s.heap H locs := by rw [eH, eL]; exact hS
  rw [← eH] at hP
  suffices hg : W p l e rmX10_look s m args below meth c H locs 0 0 Q (F0 m 0 ls []) by rw [eH, eL] at hg; exact hg
  clear eH eL
  replace hl : lv_has ls 1 [(0, .ref np)] := hl
  have hf171 := hts (.fieldLink RX10 171 "NumberPile" "looks" "I") (by decide +kernel)
  have hiX10 : ∀ w ∈ u_ws RX10 TX10 6, w ∈ wsX10_look := fun w h => List.mem_cons_of_mem _ (List.mem_append_left _ (List.mem_append_left _ (List.mem_append_left _ (List.mem_append_left _ (List.mem_append_right _ h)))))
  have hf40 := hts (.fieldLink RX10 40 "NumberPile" "current" "LNumberPile$Pile;") (by decide +kernel)
  unfold w_X10_look at hw
  refine lv_aload_n hx hb dX10_look_0 rfl (lv_at hl 0 rfl) ?_
  refine g_ci (g_J.poolP (W2 := fun u1 : Unit => (W_N adK adV cI cB cS cY np pg g q qb n k ni bv bm ml cn bt f t a b sg)) (pl := va_pl sL (sgF sf)) (PL := fun u1 : Unit => va_pl sL (sgF sf)) (RX := fun u1 : Unit => (W_N adK adV cI cB cS cY np pg g q qb n k ni bv bm ml cn bt f t a b sg)) [] [0, 1, 2, 3, 4, 5, 6, 7, 8, 9, 10, 11, 12, 13, 14, 15, 16, 17, 18, 19, 20, 21, 22, 23, 24, 25, 26, 27, 28, 29, 30] [] [0, 1, 2, 3, 4, 5, 6, 7, 8, 9, 10, 11, 12, 13, 14, 15, 16, 17, 18, 19, 20, 21, 22, 23, 24, 25, 26, 27, 28, 29, 30] rfl (by decide) rfl (by decide) (by decide) (fun _ => rfl) (by decide)) [0, 1, 2, 3] hK hP hD hS hA rfl (fun hPc hDc hKc hFc => va_runV (As := []) (rest := []) ⟨hx, hb, hml, hown, hts⟩ (t_X10_hasPile l dC dI adK adV cI cB cS cY np pg g q qb n k H.size ni bv bm ml cn bt f t a b sg sL sf  _ hw) (cwV 0 hts gX10_look_X10_hasPile rfl rfl rfl (by decide +kernel) ⟨Nat.le_of_ble_eq_true rfl, Nat.le_of_ble_eq_true rfl⟩) (g_pV czb (q0 := 0) rfl rfl hPc hDc hKc (czc hZ hS hFc)) rfl rfl hl.1 rfl (lv_room (Nat.le_of_ble_eq_true rfl)) dX10_look_1 ⟨Nat.le_of_ble_eq_true rfl, Nat.le_of_ble_eq_true rfl⟩) (fun r2 u1 H locs hw hP hD hS => ?_)
  replace hP : va_P (dC, dI) vwCl ((W_N adK adV cI cB cS cY np pg g q qb n k ni bv bm ml cn bt f t a b sg) ++ va_pl sL (sgF sf)) H := hP
  replace hD : va_D A ((W_N adK adV cI cB cS cY np pg g q qb n k ni bv bm ml cn bt f t a b sg) ++ va_pl sL (sgF sf)) := hD
  refine lv_if_eq (tgt := 16) hx hb dX10_look_4 (by decide) (fun hc3 => ?_) (fun hc3 => ?_)
  · replace hw := hw.1 hc3
    refine lv_bipush (v := -103) hx hb dX10_look_16 (by decide) ?_
    exact hret dX10_look_18 hK hP hD hS hw
  · replace hw := hw.2 hc3
    refine lv_aload_n hx hb dX10_look_7 rfl (lv_at hl 0 rfl) ?_
    refine va_get (D := (dC, dI)) (ci := 12) (v := .int (ni 2)) (C := RX10) (T := TX10) (N := 6) hx hb hts hiX10 hown hK hP 0 rfl rfl 5 (by decide) hf171 (fun _ h9 => h9) rfl dX10_look_8 ?_
    refine lv_bipush (v := 20) hx hb dX10_look_11 (by decide) ?_
    refine lv_icmp_lt (tgt := 19) hx hb dX10_look_13 (by decide) (fun hc4 => ?_) (fun hc4 => ?_)
    · replace hw := hw.1 hc4
      refine lv_aload_n hx hb dX10_look_19 rfl (lv_at hl 0 rfl) ?_
      refine lv_dup hx hb dX10_look_20 rfl ?_
      refine va_get (D := (dC, dI)) (ci := 12) (v := .int (ni 2)) (C := RX10) (T := TX10) (N := 6) hx hb hts hiX10 hown hK hP 0 rfl rfl 5 (by decide) hf171 (fun _ h9 => h9) rfl dX10_look_21 ?_
      refine lv_iconst (v := 1) hx hb dX10_look_24 (by decide) ?_
      refine lv_iadd hx hb dX10_look_25 ?_
      refine lv_topi (fun x5 ex5 => ?_)
      replace hw := hw x5 ex5
      refine va_put (D := (dC, dI)) (ci := 12) (v := .int x5) (ty := (.int)) (C := RX10) (T := TX10) (N := 6) hx hb hts hiX10 tyX10 tyX10_ok nmX10 hown hK hP hD hS 0 rfl rfl 5 (by decide) hf171 (fun _ h9 => h9) rfl (by decide +kernel) rfl rfl (Nat.le_of_ble_eq_true rfl) dX10_look_26 (fun H locs hP hD hS => ?_)
      replace hP : va_P (dC, dI) vwCl ((W_N adK adV cI cB cS cY np pg g q qb n k (upd ni 2 x5) bv bm ml cn bt f t a b sg) ++ va_pl sL (sgF sf)) H := hP
      replace hD : va_D A ((W_N adK adV cI cB cS cY np pg g q qb n k (upd ni 2 x5) bv bm ml cn bt f t a b sg) ++ va_pl sL (sgF sf)) := hD
      refine lv_aload_n hx hb dX10_look_29 rfl (lv_at hl 0 rfl) ?_
      refine va_get (D := (dC, dI)) (ci := 12) (v := .ref (q 0)) (C := RX10) (T := TX10) (N := 6) hx hb hts hiX10 hown hK hP 0 rfl rfl 2 (by decide) hf40 (fun _ h9 => h9) rfl dX10_look_30 ?_
      refine g_ci (g_J.poolP (W2 := fun u6 : ((Nat → Int32) × (Nat) × (Nat → Nat → Int32) × (Nat → Nat → Int32)) => (W_N adK adV cI cB cS cY np pg g q qb n k (upd ni 2 x5) bv bm ml cn bt (u6.1) (u6.2.1) (u6.2.2.1) (u6.2.2.2) sg)) (pl := va_pl sL (sgF sf)) (PL := fun u6 : ((Nat → Int32) × (Nat) × (Nat → Nat → Int32) × (Nat → Nat → Int32)) => va_pl sL (sgF sf)) (RX := fun u6 : ((Nat → Int32) × (Nat) × (Nat → Nat → Int32) × (Nat → Nat → Int32)) => (W_P adK adV cI cB cS q qb n k (u6.1) (u6.2.1) (u6.2.2.1) (u6.2.2.2) sg)) [(np, .inr (12, [.ref (q 1), .ref pg, .ref (q 0), .int (ni 0), .int (ni 1), .int x5])), (pg, .inr (6, [.ref g])), (g, .inr (1, [.ref bv, .int (0 : Int32), .int ml, .int cn])), (bv, .inl (cY, bm, .inl bt))] [4, 5, 6, 7, 8, 9, 10, 11, 12, 13, 14, 15, 16, 17, 18, 19, 20, 21, 22, 23, 24, 25, 26, 27, 28, 29, 30] [0, 1, 2, 3] [0, 1, 2, 3, 4, 5, 6, 7, 8, 9, 10, 11, 12, 13, 14, 15, 16, 17, 18, 19, 20, 21, 22, 23, 24, 25, 26, 27, 28, 29, 30] rfl (by decide) rfl (by decide) (by decide) (fun _ => rfl) (by decide)) [0, 1, 2] hK hP hD hS hA rfl (fun hPc hDc hKc hFc => va_runV (As := []) (rest := []) ⟨hx, hb, hml, hown, hts⟩ (t_X5_nextLook l dC dI adK adV cI cB cS q qb n k H.size f t a b sg sL sf  _ hw) (cwV 0 hts gX10_look_X5_nextLook rfl rfl rfl (by decide +kernel) ⟨Nat.le_of_ble_eq_true rfl, Nat.le_of_ble_eq_true rfl⟩) (g_pV czb (q0 := 0) rfl rfl hPc hDc hKc (czc hZ hS hFc)) rfl rfl hl.1 rfl (lv_room (Nat.le_of_ble_eq_true rfl)) dX10_look_33 ⟨Nat.le_of_ble_eq_true rfl, Nat.le_of_ble_eq_true rfl⟩) (fun r7 u6 H locs hw hP hD hS => ?_)
      replace hP : va_P (dC, dI) vwCl ((W_N adK adV cI cB cS cY np pg g q qb n k (upd ni 2 x5) bv bm ml cn bt (u6.1) (u6.2.1) (u6.2.2.1) (u6.2.2.2) sg) ++ va_pl sL (sgF sf)) H := hP
      replace hD : va_D A ((W_N adK adV cI cB cS cY np pg g q qb n k (upd ni 2 x5) bv bm ml cn bt (u6.1) (u6.2.1) (u6.2.2.1) (u6.2.2.2) sg) ++ va_pl sL (sgF sf)) := hD
      exact hret dX10_look_36 hK hP hD hS hw
    · replace hw := hw.2 hc4
      refine lv_bipush (v := -103) hx hb dX10_look_16 (by decide) ?_
      exact hret dX10_look_18 hK hP hD hS hw

def w_X10_odds (n : Nat) (k : Nat) (q : Nat → Nat) (ni : Nat → Int32) (bv : Nat) (bm : Nat) (ml : Int32) (cn : Int32) (bt : Nat → Int32) (f : Nat → Int32) (t : Nat) (a : Nat → Nat → Int32) (b : Nat → Nat → Int32) (sg : Nat → Nat → Option Nat) (sL : List Nat) (sf : Nat → Nat → Int32)  (p0 : Int32) (p1 : Int32) (p2 : Int32) (Q : Int32 → ((Nat → Int32) × (Nat) × (Nat → Nat → Int32)) → Prop) : Prop := w_X10_isFigure n k q ni bv bm ml cn bt f t a b sg sL sf p0 (fun (r2 : Int32) (u1 : Unit) => (((¬ r2 = 0) → w_X10_isDigit p1 (fun (r4 : Int32) => (((r4 = 0) → Q (-102 : Int32) (f, t, a)) ∧ (¬ (r4 = 0) → w_X10_isWithin p2 (0 : Int32) (1 : Int32) (fun (r6 : Int32) => (((¬ r6 = 0) → w_X5_fitting n k q f t a b sg sL sf  (fun (r9 : Int32) (u8 : ((Nat → Int32) × (Nat) × (Nat → Nat → Int32))) => (vp_in ((p0 * (10 : Int32)) + p1) (10 * n)) ∧ ∀ x11 : Int32, x11 = ((u8.2.2 7) ((p0 * (10 : Int32)) + p1).toNatClampNeg) → (((¬ p2 = 0) → (((¬ r9 = 0) → w_X10_greatestDivisor r9 x11 (fun (r14 : Int32) => (¬ r14 = 0) ∧ Q (r9 / r14) (u8.1, u8.2.1, u8.2.2))) ∧ (r9 = 0 → Q (1 : Int32) (u8.1, u8.2.1, u8.2.2)))) ∧ (p2 = 0 → w_X10_greatestDivisor r9 x11 (fun (r16 : Int32) => (¬ r16 = 0) ∧ Q (x11 / r16) (u8.1, u8.2.1, u8.2.2)))))) ∧ (r6 = 0 → Q (-102 : Int32) (f, t, a)))))))) ∧ (r2 = 0 → Q (-101 : Int32) (f, t, a))))
abbrev rmX10_odds : Room := { frames := 5, cells := 0, slots := 0, locals := 128 }
set_option maxHeartbeats 4000000 in
set_option maxRecDepth 100000 in
theorem t_X10_odds (l : Launch) (dC : Nat → ClassId) (dI : Nat → Nat → Nat) (adK : Nat → Nat) (adV : Nat → Nat) (cI : ClassId) (cB : ClassId) (cS : ClassId) (cY : ClassId) (np : Nat) (pg : Nat) (g : Nat) (q : Nat → Nat) (qb : Nat → Nat) (n : Nat) (k : Nat) (sz : Nat) (ni : Nat → Int32) (bv : Nat) (bm : Nat) (ml : Int32) (cn : Int32) (bt : Nat → Int32) (f : Nat → Int32) (t : Nat) (a : Nat → Nat → Int32) (b : Nat → Nat → Int32) (sg : Nat → Nat → Option Nat) (sL : List Nat) (sf : Nat → Nat → Int32)   (p0 : Int32) (p1 : Int32) (p2 : Int32) (Q0 : Int32 → ((Nat → Int32) × (Nat) × (Nat → Nat → Int32)) → Prop) (hw : w_X10_odds n k q ni bv bm ml cn bt f t a b sg sL sf  p0 p1 p2 Q0) : Met l yX10_odds wsX10_odds rmX10_odds (g_pre (cz adK adV) (dC, dI) vwCl [(cI, .int), (cB, .object RX0), (cS, .object RX7), (cY, .byte)] ((W_N adK adV cI cB cS cY np pg g q qb n k ni bv bm ml cn bt f t a b sg) ++ va_pl sL (sgF sf)) sz [.ref np, .int p0, .int p1, .int p2]) (g_qi (dC, dI) vwCl [(cI, .int), (cB, .object RX0), (cS, .object RX7), (cY, .byte)] (fun u : ((Nat → Int32) × (Nat) × (Nat → Nat → Int32)) => ((W_N adK adV cI cB cS cY np pg g q qb n k ni bv bm ml cn bt (u.1) (u.2.1) (u.2.2) b sg) ++ va_pl sL (sgF sf))) Q0 (va_A ((W_N adK adV cI cB cS cY np pg g q qb n k ni bv bm ml cn bt f t a b sg) ++ va_pl sL (sgF sf)) sz)) 0 0 (va_A ((W_N adK adV cI cB cS cY np pg g q qb n k ni bv bm ml cn bt f t a b sg) ++ va_pl sL (sgF sf)) sz) := by
  refine g_starti (by decide) rfl (Nat.le_of_ble_eq_true rfl) ?_
  intro p e s m args below meth c A Q ls hx hb hml hown hts hin hK hP hD hA hS hZ hret hl
  obtain ⟨H, eH⟩ : ∃ H : Heap, H = s.heap := ⟨_, rfl⟩
  obtain ⟨locs, eL⟩ : ∃ L : List Loc, L = [] := ⟨_, rfl⟩
  have hS : va_S A s.heap H locs := by rw [eH, eL]; exact hS
  rw [← eH] at hP
  suffices hg : W p l e rmX10_odds s m args below meth c H locs 0 0 Q (F0 m 0 ls []) by rw [eH, eL] at hg; exact hg
  clear eH eL
  replace hl : lv_has ls 6 [(0, .ref np), (1, .int p0), (2, .int p1), (3, .int p2)] := hl
  have hf40 := hts (.fieldLink RX10 40 "NumberPile" "current" "LNumberPile$Pile;") (by decide +kernel)
  have hiX10 : ∀ w ∈ u_ws RX10 TX10 6, w ∈ wsX10_odds := fun w h => List.mem_cons_of_mem _ (List.mem_append_left _ (List.mem_append_left _ (List.mem_append_left _ (List.mem_append_right _ h))))
  have nf177 := va_Nw.use (A := args) rfl (hZ.1 _ (List.mem_of_getElem? (i := 14) (rfl : cz_nest[14]? = some (.fieldLinkNest RX10 177 "NumberPile$Pile" "fittingWith" "[I" "NumberPile"))))
  have hiX5 : ∀ w ∈ u_ws RX5 TX5 15, w ∈ wsX10_odds := fun w h => List.mem_cons_of_mem _ (List.mem_append_left _ (List.mem_append_left _ (List.mem_append_right _ h)))
  unfold w_X10_odds at hw
  refine lv_aload_n hx hb dX10_odds_0 rfl (lv_at hl 0 rfl) ?_
  refine lv_iload_n hx hb dX10_odds_1 rfl (lv_at hl 1 rfl) ?_
  refine g_ci (g_J.poolP (W2 := fun u1 : Unit => (W_N adK adV cI cB cS cY np pg g q qb n k ni bv bm ml cn bt f t a b sg)) (pl := va_pl sL (sgF sf)) (PL := fun u1 : Unit => va_pl sL (sgF sf)) (RX := fun u1 : Unit => (W_N adK adV cI cB cS cY np pg g q qb n k ni bv bm ml cn bt f t a b sg)) [] [0, 1, 2, 3, 4, 5, 6, 7, 8, 9, 10, 11, 12, 13, 14, 15, 16, 17, 18, 19, 20, 21, 22, 23, 24, 25, 26, 27, 28, 29, 30] [] [0, 1, 2, 3, 4, 5, 6, 7, 8, 9, 10, 11, 12, 13, 14, 15, 16, 17, 18, 19, 20, 21, 22, 23, 24, 25, 26, 27, 28, 29, 30] rfl (by decide) rfl (by decide) (by decide) (fun _ => rfl) (by decide)) [0, 1, 2, 3] hK hP hD hS hA rfl (fun hPc hDc hKc hFc => va_runV (As := [.int p0]) (rest := []) ⟨hx, hb, hml, hown, hts⟩ (t_X10_isFigure l dC dI adK adV cI cB cS cY np pg g q qb n k H.size ni bv bm ml cn bt f t a b sg sL sf p0 _ hw) (cwV 1 hts gX10_odds_X10_isFigure rfl rfl rfl (by decide +kernel) ⟨Nat.le_of_ble_eq_true rfl, Nat.le_of_ble_eq_true rfl⟩) (g_pV czb (q0 := 0) rfl rfl hPc hDc hKc (czc hZ hS hFc)) rfl rfl hl.1 rfl (lv_room (Nat.le_of_ble_eq_true rfl)) dX10_odds_2 ⟨Nat.le_of_ble_eq_true rfl, Nat.le_of_ble_eq_true rfl⟩) (fun r2 u1 H locs hw hP hD hS => ?_)
  replace hP : va_P (dC, dI) vwCl ((W_N adK adV cI cB cS cY np pg g q qb n k ni bv bm ml cn bt f t a b sg) ++ va_pl sL (sgF sf)) H := hP
  replace hD : va_D A ((W_N adK adV cI cB cS cY np pg g q qb n k ni bv bm ml cn bt f t a b sg) ++ va_pl sL (sgF sf)) := hD
  refine lv_if_ne (tgt := 11) hx hb dX10_odds_5 (by decide) (fun hc3 => ?_) (fun hc3 => ?_)
  · replace hw := hw.1 hc3
    refine lv_iload_n hx hb dX10_odds_11 rfl (lv_at hl 2 rfl) ?_
    refine g_c0 (rest := []) (va_runS (As := [.int p1]) (rest := []) ⟨hx, hb, hml, hown, hts⟩ (t_X10_isDigit l  p1 _ hw) (va_cwS 1 hts gX10_odds_X10_isDigit rfl rfl rfl (by decide +kernel) ⟨Nat.le_of_ble_eq_true rfl, Nat.le_of_ble_eq_true rfl⟩) g_p0S rfl rfl hl.1 rfl (lv_room (Nat.le_of_ble_eq_true rfl)) dX10_odds_12 ⟨Nat.le_of_ble_eq_true rfl, Nat.le_of_ble_eq_true rfl⟩) (fun r4 hw => ?_)
    refine lv_if_eq (tgt := 27) hx hb dX10_odds_15 (by decide) (fun hc5 => ?_) (fun hc5 => ?_)
    · replace hw := hw.1 hc5
      refine lv_bipush (v := -102) hx hb dX10_odds_27 (by decide) ?_
      exact hret dX10_odds_29 hK hP hD hS hw
    · replace hw := hw.2 hc5
      refine lv_iload_n hx hb dX10_odds_18 rfl (lv_at hl 3 rfl) ?_
      refine lv_iconst (v := 0) hx hb dX10_odds_19 (by decide) ?_
      refine lv_iconst (v := 1) hx hb dX10_odds_20 (by decide) ?_
      refine g_c0 (rest := []) (va_runS (As := [.int p2, .int (0 : Int32), .int (1 : Int32)]) (rest := []) ⟨hx, hb, hml, hown, hts⟩ (t_X10_isWithin l  p2 (0 : Int32) (1 : Int32) _ hw) (va_cwS 3 hts gX10_odds_X10_isWithin rfl rfl rfl (by decide +kernel) ⟨Nat.le_of_ble_eq_true rfl, Nat.le_of_ble_eq_true rfl⟩) g_p0S rfl rfl hl.1 rfl (lv_room (Nat.le_of_ble_eq_true rfl)) dX10_odds_21 ⟨Nat.le_of_ble_eq_true rfl, Nat.le_of_ble_eq_true rfl⟩) (fun r6 hw => ?_)
      refine lv_if_ne (tgt := 30) hx hb dX10_odds_24 (by decide) (fun hc7 => ?_) (fun hc7 => ?_)
      · replace hw := hw.1 hc7
        refine lv_aload_n hx hb dX10_odds_30 rfl (lv_at hl 0 rfl) ?_
        refine va_get (D := (dC, dI)) (ci := 12) (v := .ref (q 0)) (C := RX10) (T := TX10) (N := 6) hx hb hts hiX10 hown hK hP 0 rfl rfl 2 (by decide) hf40 (fun _ h9 => h9) rfl dX10_odds_31 ?_
        refine g_ci (g_J.poolP (W2 := fun u8 : ((Nat → Int32) × (Nat) × (Nat → Nat → Int32)) => (W_N adK adV cI cB cS cY np pg g q qb n k ni bv bm ml cn bt (u8.1) (u8.2.1) (u8.2.2) b sg)) (pl := va_pl sL (sgF sf)) (PL := fun u8 : ((Nat → Int32) × (Nat) × (Nat → Nat → Int32)) => va_pl sL (sgF sf)) (RX := fun u8 : ((Nat → Int32) × (Nat) × (Nat → Nat → Int32)) => (W_P adK adV cI cB cS q qb n k (u8.1) (u8.2.1) (u8.2.2) b sg)) [(np, .inr (12, [.ref (q 1), .ref pg, .ref (q 0), .int (ni 0), .int (ni 1), .int (ni 2)])), (pg, .inr (6, [.ref g])), (g, .inr (1, [.ref bv, .int (0 : Int32), .int ml, .int cn])), (bv, .inl (cY, bm, .inl bt))] [4, 5, 6, 7, 8, 9, 10, 11, 12, 13, 14, 15, 16, 17, 18, 19, 20, 21, 22, 23, 24, 25, 26, 27, 28, 29, 30] [0, 1, 2, 3] [0, 1, 2, 3, 4, 5, 6, 7, 8, 9, 10, 11, 12, 13, 14, 15, 16, 17, 18, 19, 20, 21, 22, 23, 24, 25, 26, 27, 28, 29, 30] rfl (by decide) rfl (by decide) (by decide) (fun _ => rfl) (by decide)) [0, 1, 2] hK hP hD hS hA rfl (fun hPc hDc hKc hFc => va_runV (As := []) (rest := []) ⟨hx, hb, hml, hown, hts⟩ (t_X5_fitting l dC dI adK adV cI cB cS q qb n k H.size f t a b sg sL sf  _ hw) (cwV 0 hts gX10_odds_X5_fitting rfl rfl rfl (by decide +kernel) ⟨Nat.le_of_ble_eq_true rfl, Nat.le_of_ble_eq_true rfl⟩) (g_pV czb (q0 := 0) rfl rfl hPc hDc hKc (czc hZ hS hFc)) rfl rfl hl.1 rfl (lv_room (Nat.le_of_ble_eq_true rfl)) dX10_odds_34 ⟨Nat.le_of_ble_eq_true rfl, Nat.le_of_ble_eq_true rfl⟩) (fun r9 u8 H locs hw hP hD hS => ?_)
        replace hP : va_P (dC, dI) vwCl ((W_N adK adV cI cB cS cY np pg g q qb n k ni bv bm ml cn bt (u8.1) (u8.2.1) (u8.2.2) b sg) ++ va_pl sL (sgF sf)) H := hP
        replace hD : va_D A ((W_N adK adV cI cB cS cY np pg g q qb n k ni bv bm ml cn bt (u8.1) (u8.2.1) (u8.2.2) b sg) ++ va_pl sL (sgF sf)) := hD
        refine lv_istore (lv' := [(4, .int r9), (0, .ref np), (1, .int p0), (2, .int p1), (3, .int p2)]) hx hb dX10_odds_37 hl (by decide) rfl (fun ls hl => ?_)
        refine lv_aload_n hx hb dX10_odds_39 rfl (lv_at hl 1 rfl) ?_
        refine va_get (D := (dC, dI)) (ci := 12) (v := .ref (q 0)) (C := RX10) (T := TX10) (N := 6) hx hb hts hiX10 hown hK hP 0 rfl rfl 2 (by decide) hf40 (fun _ h9 => h9) rfl dX10_odds_40 ?_
        refine va_getN (D := (dC, dI)) (ci := 7) (v := .ref (q 17)) (C := RX5) (T := TX5) (N := 15) hx hb hts hiX5 hown hK hP 4 rfl rfl 13 (by decide) nf177 (fun _ h9 => h9) rfl dX10_odds_43 ?_
        refine lv_iload_n hx hb dX10_odds_46 rfl (lv_at hl 2 rfl) ?_
        refine lv_bipush (v := 10) hx hb dX10_odds_47 (by decide) ?_
        refine lv_imul hx hb dX10_odds_49 ?_
        refine lv_iload_n hx hb dX10_odds_50 rfl (lv_at hl 3 rfl) ?_
        refine lv_iadd hx hb dX10_odds_51 ?_
        obtain ⟨hb10, hw⟩ := hw
        refine va_iald hx hb hK hP 21 0 rfl rfl hb10 dX10_odds_52 ?_
        refine lv_topi (fun x11 ex11 => ?_)
        replace hw := hw x11 ex11
        refine lv_istore (lv' := [(5, .int x11), (4, .int r9), (0, .ref np), (1, .int p0), (2, .int p1), (3, .int p2)]) hx hb dX10_odds_53 hl (by decide) rfl (fun ls hl => ?_)
        refine lv_iload_n hx hb dX10_odds_55 rfl (lv_at hl 5 rfl) ?_
        refine lv_if_ne (tgt := 70) hx hb dX10_odds_56 (by decide) (fun hc12 => ?_) (fun hc12 => ?_)
        · replace hw := hw.1 hc12
          refine lv_iload hx hb dX10_odds_70 (lv_at hl 1 rfl) ?_
          refine lv_if_ne (tgt := 79) hx hb dX10_odds_72 (by decide) (fun hc13 => ?_) (fun hc13 => ?_)
          · replace hw := hw.1 hc13
            refine lv_iload hx hb dX10_odds_79 (lv_at hl 1 rfl) ?_
            refine lv_iload hx hb dX10_odds_81 (lv_at hl 1 rfl) ?_
            refine lv_iload hx hb dX10_odds_83 (lv_at hl 0 rfl) ?_
            refine g_c0 (rest := [.int r9]) (va_runS (As := [.int r9, .int x11]) (rest := [.int r9]) ⟨hx, hb, hml, hown, hts⟩ (t_X10_greatestDivisor l  r9 x11 _ hw) (va_cwS 2 hts gX10_odds_X10_greatestDivisor rfl rfl rfl (by decide +kernel) ⟨Nat.le_of_ble_eq_true rfl, Nat.le_of_ble_eq_true rfl⟩) g_p0S rfl rfl hl.1 rfl (lv_room (Nat.le_of_ble_eq_true rfl)) dX10_odds_85 ⟨Nat.le_of_ble_eq_true rfl, Nat.le_of_ble_eq_true rfl⟩) (fun r14 hw => ?_)
            obtain ⟨hn15, hw⟩ := hw
            refine lv_idiv hx hb dX10_odds_88 hn15 ?_
            exact hret dX10_odds_89 hK hP hD hS hw
          · replace hw := hw.2 hc13
            refine lv_iconst (v := 1) hx hb dX10_odds_75 (by decide) ?_
            refine lv_goto (tgt := 89) hx hb dX10_odds_76 (by decide) ?_
            exact hret dX10_odds_89 hK hP hD hS hw
        · replace hw := hw.2 hc12
          refine lv_iload hx hb dX10_odds_59 (lv_at hl 0 rfl) ?_
          refine lv_iload hx hb dX10_odds_61 (lv_at hl 1 rfl) ?_
          refine lv_iload hx hb dX10_odds_63 (lv_at hl 0 rfl) ?_
          refine g_c0 (rest := [.int x11]) (va_runS (As := [.int r9, .int x11]) (rest := [.int x11]) ⟨hx, hb, hml, hown, hts⟩ (t_X10_greatestDivisor l  r9 x11 _ hw) (va_cwS 2 hts gX10_odds_X10_greatestDivisor rfl rfl rfl (by decide +kernel) ⟨Nat.le_of_ble_eq_true rfl, Nat.le_of_ble_eq_true rfl⟩) g_p0S rfl rfl hl.1 rfl (lv_room (Nat.le_of_ble_eq_true rfl)) dX10_odds_65 ⟨Nat.le_of_ble_eq_true rfl, Nat.le_of_ble_eq_true rfl⟩) (fun r16 hw => ?_)
          obtain ⟨hn17, hw⟩ := hw
          refine lv_idiv hx hb dX10_odds_68 hn17 ?_
          exact hret dX10_odds_69 hK hP hD hS hw
      · replace hw := hw.2 hc7
        refine lv_bipush (v := -102) hx hb dX10_odds_27 (by decide) ?_
        exact hret dX10_odds_29 hK hP hD hS hw
  · replace hw := hw.2 hc3
    refine lv_bipush (v := -101) hx hb dX10_odds_8 (by decide) ?_
    exact hret dX10_odds_10 hK hP hD hS hw

def w_X10_forget (n : Nat) (k : Nat) (q : Nat → Nat) (ni : Nat → Int32) (bv : Nat) (bm : Nat) (ml : Int32) (cn : Int32) (bt : Nat → Int32) (f : Nat → Int32) (t : Nat) (a : Nat → Nat → Int32) (b : Nat → Nat → Int32) (sg : Nat → Nat → Option Nat) (sL : List Nat) (sf : Nat → Nat → Int32)   (Q : Int32 → ((Nat → Int32)) → Prop) : Prop := ∀ x1 : Int32, x1 = (f 3) → Q x1 (upd f 3 (0 : Int32))
abbrev rmX10_forget : Room := { frames := 0, cells := 0, slots := 0, locals := 0 }
set_option maxHeartbeats 4000000 in
set_option maxRecDepth 100000 in
theorem t_X10_forget (l : Launch) (dC : Nat → ClassId) (dI : Nat → Nat → Nat) (adK : Nat → Nat) (adV : Nat → Nat) (cI : ClassId) (cB : ClassId) (cS : ClassId) (cY : ClassId) (np : Nat) (pg : Nat) (g : Nat) (q : Nat → Nat) (qb : Nat → Nat) (n : Nat) (k : Nat) (sz : Nat) (ni : Nat → Int32) (bv : Nat) (bm : Nat) (ml : Int32) (cn : Int32) (bt : Nat → Int32) (f : Nat → Int32) (t : Nat) (a : Nat → Nat → Int32) (b : Nat → Nat → Int32) (sg : Nat → Nat → Option Nat) (sL : List Nat) (sf : Nat → Nat → Int32)    (Q0 : Int32 → ((Nat → Int32)) → Prop) (hw : w_X10_forget n k q ni bv bm ml cn bt f t a b sg sL sf   Q0) : Met l yX10_forget wsX10_forget rmX10_forget (g_pre (cz adK adV) (dC, dI) vwCl [(cI, .int), (cB, .object RX0), (cS, .object RX7), (cY, .byte)] ((W_N adK adV cI cB cS cY np pg g q qb n k ni bv bm ml cn bt f t a b sg) ++ va_pl sL (sgF sf)) sz [.ref np]) (g_qi (dC, dI) vwCl [(cI, .int), (cB, .object RX0), (cS, .object RX7), (cY, .byte)] (fun u : ((Nat → Int32)) => ((W_N adK adV cI cB cS cY np pg g q qb n k ni bv bm ml cn bt u t a b sg) ++ va_pl sL (sgF sf))) Q0 (va_A ((W_N adK adV cI cB cS cY np pg g q qb n k ni bv bm ml cn bt f t a b sg) ++ va_pl sL (sgF sf)) sz)) 0 0 (va_A ((W_N adK adV cI cB cS cY np pg g q qb n k ni bv bm ml cn bt f t a b sg) ++ va_pl sL (sgF sf)) sz) := by
  refine g_starti (by decide) rfl (Nat.le_of_ble_eq_true rfl) ?_
  intro p e s m args below meth c A Q ls hx hb hml hown hts hin hK hP hD hA hS hZ hret hl
  obtain ⟨H, eH⟩ : ∃ H : Heap, H = s.heap := ⟨_, rfl⟩
  obtain ⟨locs, eL⟩ : ∃ L : List Loc, L = [] := ⟨_, rfl⟩
  have hS : va_S A s.heap H locs := by rw [eH, eL]; exact hS
  rw [← eH] at hP
  suffices hg : W p l e rmX10_forget s m args below meth c H locs 0 0 Q (F0 m 0 ls []) by rw [eH, eL] at hg; exact hg
  clear eH eL
  replace hl : lv_has ls 2 [(0, .ref np)] := hl
  have hf40 := hts (.fieldLink RX10 40 "NumberPile" "current" "LNumberPile$Pile;") (by decide +kernel)
  have hiX10 : ∀ w ∈ u_ws RX10 TX10 6, w ∈ wsX10_forget := fun w h => List.mem_cons_of_mem _ (List.mem_append_left _ (List.mem_append_left _ (List.mem_append_right _ h)))
  have nf102 := va_Nw.use (A := args) rfl (hZ.1 _ (List.mem_of_getElem? (i := 10) (rfl : cz_nest[10]? = some (.fieldLinkNest RX10 102 "NumberPile$Pile" "now" "LNumberPile$State;" "NumberPile"))))
  have hiX5 : ∀ w ∈ u_ws RX5 TX5 15, w ∈ wsX10_forget := fun w h => List.mem_cons_of_mem _ (List.mem_append_left _ (List.mem_append_right _ h))
  have nf183 := va_Nw.use (A := args) rfl (hZ.1 _ (List.mem_of_getElem? (i := 15) (rfl : cz_nest[15]? = some (.fieldLinkNest RX10 183 "NumberPile$State" "sights" "I" "NumberPile"))))
  have hiX8 : ∀ w ∈ u_ws RX8 TX8 6, w ∈ wsX10_forget := fun w h => List.mem_cons_of_mem _ (List.mem_append_right _ h)
  unfold w_X10_forget at hw
  refine lv_aload_n hx hb dX10_forget_0 rfl (lv_at hl 0 rfl) ?_
  refine va_get (D := (dC, dI)) (ci := 12) (v := .ref (q 0)) (C := RX10) (T := TX10) (N := 6) hx hb hts hiX10 hown hK hP 0 rfl rfl 2 (by decide) hf40 (fun _ h9 => h9) rfl dX10_forget_1 ?_
  refine va_getN (D := (dC, dI)) (ci := 7) (v := .ref (q 3)) (C := RX5) (T := TX5) (N := 15) hx hb hts hiX5 hown hK hP 4 rfl rfl 4 (by decide) nf102 (fun _ h9 => h9) rfl dX10_forget_4 ?_
  refine va_getN (D := (dC, dI)) (ci := 10) (v := .int (f 3)) (C := RX8) (T := TX8) (N := 6) hx hb hts hiX8 hown hK hP 7 rfl rfl 4 (by decide) nf183 (fun _ h9 => h9) rfl dX10_forget_7 ?_
  refine lv_topi (fun x1 ex1 => ?_)
  replace hw := hw x1 ex1
  refine lv_istore_n (lv' := [(1, .int x1), (0, .ref np)]) hx hb dX10_forget_10 rfl hl (by decide) rfl (fun ls hl => ?_)
  refine lv_aload_n hx hb dX10_forget_11 rfl (lv_at hl 1 rfl) ?_
  refine va_get (D := (dC, dI)) (ci := 12) (v := .ref (q 0)) (C := RX10) (T := TX10) (N := 6) hx hb hts hiX10 hown hK hP 0 rfl rfl 2 (by decide) hf40 (fun _ h9 => h9) rfl dX10_forget_12 ?_
  refine va_getN (D := (dC, dI)) (ci := 7) (v := .ref (q 3)) (C := RX5) (T := TX5) (N := 15) hx hb hts hiX5 hown hK hP 4 rfl rfl 4 (by decide) nf102 (fun _ h9 => h9) rfl dX10_forget_15 ?_
  refine lv_iconst (v := 0) hx hb dX10_forget_18 (by decide) ?_
  refine va_putN (D := (dC, dI)) (ci := 10) (v := .int (0 : Int32)) (ty := (.int)) (C := RX8) (T := TX8) (N := 6) hx hb hts hiX8 tyX8 tyX8_ok nmX8 hown hK hP hD hS 7 rfl rfl 4 (by decide) nf183 (fun _ h9 => h9) rfl (by decide +kernel) rfl rfl (Nat.le_of_ble_eq_true rfl) dX10_forget_19 (fun H locs hP hD hS => ?_)
  replace hP : va_P (dC, dI) vwCl ((W_N adK adV cI cB cS cY np pg g q qb n k ni bv bm ml cn bt (upd f 3 (0 : Int32)) t a b sg) ++ va_pl sL (sgF sf)) H := hP
  replace hD : va_D A ((W_N adK adV cI cB cS cY np pg g q qb n k ni bv bm ml cn bt (upd f 3 (0 : Int32)) t a b sg) ++ va_pl sL (sgF sf)) := hD
  refine lv_iload_n hx hb dX10_forget_22 rfl (lv_at hl 0 rfl) ?_
  exact hret dX10_forget_23 hK hP hD hS hw

def w_X10_drawn (n : Nat) (k : Nat) (q : Nat → Nat) (ni : Nat → Int32) (bv : Nat) (bm : Nat) (ml : Int32) (cn : Int32) (bt : Nat → Int32) (f : Nat → Int32) (t : Nat) (a : Nat → Nat → Int32) (b : Nat → Nat → Int32) (sg : Nat → Nat → Option Nat) (sL : List Nat) (sf : Nat → Nat → Int32)  (p0 : Int32) (p1 : Int32) (p2 : Int32) (Q : Int32 → ((Nat → Nat → Int32)) → Prop) : Prop := w_X10_isWithin p0 (1 : Int32) (60 : Int32) (fun (r1 : Int32) => (((r1 = 0) → Q (-102 : Int32) a) ∧ (¬ (r1 = 0) → (((p1 < 0) → Q (-102 : Int32) a) ∧ (¬ (p1 < 0) → w_X10_isWithin p2 (0 : Int32) (2 : Int32) (fun (r4 : Int32) => (((¬ r4 = 0) → w_X10_hasPile n k q ni bv bm ml cn bt f t a b sg sL sf  (fun (r7 : Int32) (u6 : Unit) => (((¬ r7 = 0) → (∀ X14 : Int32 → Int32 → Int32 → Int32 → (Nat → Nat → Int32) → Prop, (∀ (x9 : Int32) (x10 : Int32) (x11 : Int32) (x12 : Int32) (av13 : (Nat → Nat → Int32)), ((((p0 ≤ x12) → (((¬ p2 = (2 : Int32)) → (((¬ p2 = 0) → Q x10 av13) ∧ (p2 = 0 → Q x9 av13))) ∧ (p2 = (2 : Int32) → Q x11 av13))) ∧ (¬ (p0 ≤ x12) → w_X5_draw n k q f t av13 b sg sL sf x11 (fun (r19 : Int32) (u18 : ((Nat → Nat → Int32))) => w_X5_guessedTop n k q f t u18 b sg sL sf  (fun (r21 : Int32) (u20 : Unit) => ∀ x22 : Int32, x22 = (x9 + r21) → w_X5_guessedTop n k q f t u18 b sg sL sf  (fun (r24 : Int32) (u23 : Unit) => ∀ x25 : Int32, x25 = (if x10 < r24 then r24 else x10) → ∀ x26 : Int32, x26 = x12 + (1 : Int32) → X14 x22 x25 r19 x26 u18)))))) → X14 x9 x10 x11 x12 av13) → X14 (0 : Int32) (0 : Int32) p1 (0 : Int32) a)) ∧ (r7 = 0 → Q (-103 : Int32) a)))) ∧ (r4 = 0 → Q (-102 : Int32) a))))))))
abbrev rmX10_drawn : Room := { frames := 4, cells := 0, slots := 0, locals := 108 }
set_option maxHeartbeats 4000000 in
set_option maxRecDepth 100000 in
theorem t_X10_drawn (l : Launch) (dC : Nat → ClassId) (dI : Nat → Nat → Nat) (adK : Nat → Nat) (adV : Nat → Nat) (cI : ClassId) (cB : ClassId) (cS : ClassId) (cY : ClassId) (np : Nat) (pg : Nat) (g : Nat) (q : Nat → Nat) (qb : Nat → Nat) (n : Nat) (k : Nat) (sz : Nat) (ni : Nat → Int32) (bv : Nat) (bm : Nat) (ml : Int32) (cn : Int32) (bt : Nat → Int32) (f : Nat → Int32) (t : Nat) (a : Nat → Nat → Int32) (b : Nat → Nat → Int32) (sg : Nat → Nat → Option Nat) (sL : List Nat) (sf : Nat → Nat → Int32)   (p0 : Int32) (p1 : Int32) (p2 : Int32) (Q0 : Int32 → ((Nat → Nat → Int32)) → Prop) (hw : w_X10_drawn n k q ni bv bm ml cn bt f t a b sg sL sf  p0 p1 p2 Q0) : Met l yX10_drawn wsX10_drawn rmX10_drawn (g_pre (cz adK adV) (dC, dI) vwCl [(cI, .int), (cB, .object RX0), (cS, .object RX7), (cY, .byte)] ((W_N adK adV cI cB cS cY np pg g q qb n k ni bv bm ml cn bt f t a b sg) ++ va_pl sL (sgF sf)) sz [.ref np, .int p0, .int p1, .int p2]) (g_qi (dC, dI) vwCl [(cI, .int), (cB, .object RX0), (cS, .object RX7), (cY, .byte)] (fun u : ((Nat → Nat → Int32)) => ((W_N adK adV cI cB cS cY np pg g q qb n k ni bv bm ml cn bt f t u b sg) ++ va_pl sL (sgF sf))) Q0 (va_A ((W_N adK adV cI cB cS cY np pg g q qb n k ni bv bm ml cn bt f t a b sg) ++ va_pl sL (sgF sf)) sz)) 0 0 (va_A ((W_N adK adV cI cB cS cY np pg g q qb n k ni bv bm ml cn bt f t a b sg) ++ va_pl sL (sgF sf)) sz) := by
  refine g_starti (by decide) rfl (Nat.le_of_ble_eq_true rfl) ?_
  intro p e s m args below meth c A Q ls hx hb hml hown hts hin hK hP hD hA hS hZ hret hl
  obtain ⟨H, eH⟩ : ∃ H : Heap, H = s.heap := ⟨_, rfl⟩
  obtain ⟨locs, eL⟩ : ∃ L : List Loc, L = [] := ⟨_, rfl⟩
  have hS : va_S A s.heap H locs := by rw [eH, eL]; exact hS
  rw [← eH] at hP
  suffices hg : W p l e rmX10_drawn s m args below meth c H locs 0 0 Q (F0 m 0 ls []) by rw [eH, eL] at hg; exact hg
  clear eH eL
  replace hl : lv_has ls 8 [(0, .ref np), (1, .int p0), (2, .int p1), (3, .int p2)] := hl
  have hf40 := hts (.fieldLink RX10 40 "NumberPile" "current" "LNumberPile$Pile;") (by decide +kernel)
  have hiX10 : ∀ w ∈ u_ws RX10 TX10 6, w ∈ wsX10_drawn := fun w h => List.mem_cons_of_mem _ (List.mem_append_left _ (List.mem_append_left _ (List.mem_append_right _ h)))
  have ml201 := hts (.methodLink RX10 201 Lib.Math.max.name) (by decide +kernel)
  have msmax := hts (.static Lib.Math.max.name) (by decide +kernel)
  have miMath := hts (.initialized "java/lang/Math") (by decide +kernel)
  have mcmax := hts (.code Lib.Math.max.name Lib.Math.max.code 2 (some .int)) (by decide +kernel)
  unfold w_X10_drawn at hw
  refine lv_iload_n hx hb dX10_drawn_0 rfl (lv_at hl 1 rfl) ?_
  refine lv_iconst (v := 1) hx hb dX10_drawn_1 (by decide) ?_
  refine lv_bipush (v := 60) hx hb dX10_drawn_2 (by decide) ?_
  refine g_c0 (rest := []) (va_runS (As := [.int p0, .int (1 : Int32), .int (60 : Int32)]) (rest := []) ⟨hx, hb, hml, hown, hts⟩ (t_X10_isWithin l  p0 (1 : Int32) (60 : Int32) _ hw) (va_cwS 3 hts gX10_drawn_X10_isWithin rfl rfl rfl (by decide +kernel) ⟨Nat.le_of_ble_eq_true rfl, Nat.le_of_ble_eq_true rfl⟩) g_p0S rfl rfl hl.1 rfl (lv_room (Nat.le_of_ble_eq_true rfl)) dX10_drawn_4 ⟨Nat.le_of_ble_eq_true rfl, Nat.le_of_ble_eq_true rfl⟩) (fun r1 hw => ?_)
  refine lv_if_eq (tgt := 23) hx hb dX10_drawn_7 (by decide) (fun hc2 => ?_) (fun hc2 => ?_)
  · replace hw := hw.1 hc2
    refine lv_bipush (v := -102) hx hb dX10_drawn_23 (by decide) ?_
    exact hret dX10_drawn_25 hK hP hD hS hw
  · replace hw := hw.2 hc2
    refine lv_iload_n hx hb dX10_drawn_10 rfl (lv_at hl 2 rfl) ?_
    refine lv_if_lt (tgt := 23) hx hb dX10_drawn_11 (by decide) (fun hc3 => ?_) (fun hc3 => ?_)
    · replace hw := hw.1 hc3
      refine lv_bipush (v := -102) hx hb dX10_drawn_23 (by decide) ?_
      exact hret dX10_drawn_25 hK hP hD hS hw
    · replace hw := hw.2 hc3
      refine lv_iload_n hx hb dX10_drawn_14 rfl (lv_at hl 3 rfl) ?_
      refine lv_iconst (v := 0) hx hb dX10_drawn_15 (by decide) ?_
      refine lv_iconst (v := 2) hx hb dX10_drawn_16 (by decide) ?_
      refine g_c0 (rest := []) (va_runS (As := [.int p2, .int (0 : Int32), .int (2 : Int32)]) (rest := []) ⟨hx, hb, hml, hown, hts⟩ (t_X10_isWithin l  p2 (0 : Int32) (2 : Int32) _ hw) (va_cwS 3 hts gX10_drawn_X10_isWithin rfl rfl rfl (by decide +kernel) ⟨Nat.le_of_ble_eq_true rfl, Nat.le_of_ble_eq_true rfl⟩) g_p0S rfl rfl hl.1 rfl (lv_room (Nat.le_of_ble_eq_true rfl)) dX10_drawn_17 ⟨Nat.le_of_ble_eq_true rfl, Nat.le_of_ble_eq_true rfl⟩) (fun r4 hw => ?_)
      refine lv_if_ne (tgt := 26) hx hb dX10_drawn_20 (by decide) (fun hc5 => ?_) (fun hc5 => ?_)
      · replace hw := hw.1 hc5
        refine lv_aload_n hx hb dX10_drawn_26 rfl (lv_at hl 0 rfl) ?_
        refine g_ci (g_J.poolP (W2 := fun u6 : Unit => (W_N adK adV cI cB cS cY np pg g q qb n k ni bv bm ml cn bt f t a b sg)) (pl := va_pl sL (sgF sf)) (PL := fun u6 : Unit => va_pl sL (sgF sf)) (RX := fun u6 : Unit => (W_N adK adV cI cB cS cY np pg g q qb n k ni bv bm ml cn bt f t a b sg)) [] [0, 1, 2, 3, 4, 5, 6, 7, 8, 9, 10, 11, 12, 13, 14, 15, 16, 17, 18, 19, 20, 21, 22, 23, 24, 25, 26, 27, 28, 29, 30] [] [0, 1, 2, 3, 4, 5, 6, 7, 8, 9, 10, 11, 12, 13, 14, 15, 16, 17, 18, 19, 20, 21, 22, 23, 24, 25, 26, 27, 28, 29, 30] rfl (by decide) rfl (by decide) (by decide) (fun _ => rfl) (by decide)) [0, 1, 2, 3] hK hP hD hS hA rfl (fun hPc hDc hKc hFc => va_runV (As := []) (rest := []) ⟨hx, hb, hml, hown, hts⟩ (t_X10_hasPile l dC dI adK adV cI cB cS cY np pg g q qb n k H.size ni bv bm ml cn bt f t a b sg sL sf  _ hw) (cwV 0 hts gX10_drawn_X10_hasPile rfl rfl rfl (by decide +kernel) ⟨Nat.le_of_ble_eq_true rfl, Nat.le_of_ble_eq_true rfl⟩) (g_pV czb (q0 := 0) rfl rfl hPc hDc hKc (czc hZ hS hFc)) rfl rfl hl.1 rfl (lv_room (Nat.le_of_ble_eq_true rfl)) dX10_drawn_27 ⟨Nat.le_of_ble_eq_true rfl, Nat.le_of_ble_eq_true rfl⟩) (fun r7 u6 H locs hw hP hD hS => ?_)
        replace hP : va_P (dC, dI) vwCl ((W_N adK adV cI cB cS cY np pg g q qb n k ni bv bm ml cn bt f t a b sg) ++ va_pl sL (sgF sf)) H := hP
        replace hD : va_D A ((W_N adK adV cI cB cS cY np pg g q qb n k ni bv bm ml cn bt f t a b sg) ++ va_pl sL (sgF sf)) := hD
        refine lv_if_ne (tgt := 36) hx hb dX10_drawn_30 (by decide) (fun hc8 => ?_) (fun hc8 => ?_)
        · replace hw := hw.1 hc8
          refine lv_iconst (v := 0) hx hb dX10_drawn_36 (by decide) ?_
          refine lv_istore (lv' := [(4, .int (0 : Int32)), (0, .ref np), (1, .int p0), (2, .int p1), (3, .int p2)]) hx hb dX10_drawn_37 hl (by decide) rfl (fun ls hl => ?_)
          refine lv_iconst (v := 0) hx hb dX10_drawn_39 (by decide) ?_
          refine lv_istore (lv' := [(5, .int (0 : Int32)), (4, .int (0 : Int32)), (0, .ref np), (1, .int p0), (2, .int p1), (3, .int p2)]) hx hb dX10_drawn_40 hl (by decide) rfl (fun ls hl => ?_)
          refine lv_iload_n hx hb dX10_drawn_42 rfl (lv_at hl 4 rfl) ?_
          refine lv_istore (lv' := [(6, .int p1), (5, .int (0 : Int32)), (4, .int (0 : Int32)), (0, .ref np), (1, .int p0), (2, .int p1), (3, .int p2)]) hx hb dX10_drawn_43 hl (by decide) rfl (fun ls hl => ?_)
          refine lv_iconst (v := 0) hx hb dX10_drawn_45 (by decide) ?_
          refine lv_istore (lv' := [(7, .int (0 : Int32)), (6, .int p1), (5, .int (0 : Int32)), (4, .int (0 : Int32)), (0, .ref np), (1, .int p0), (2, .int p1), (3, .int p2)]) hx hb dX10_drawn_46 hl (by decide) rfl (fun ls hl => ?_)
          refine hw (fun (x9 : Int32) (x10 : Int32) (x11 : Int32) (x12 : Int32) (av13 : (Nat → Nat → Int32)) => ∀ (H : Heap) (locs : List Loc) (ls : Array Slot), va_P (dC, dI) vwCl ((W_N adK adV cI cB cS cY np pg g q qb n k ni bv bm ml cn bt f t av13 b sg) ++ va_pl sL (sgF sf)) H → va_D A ((W_N adK adV cI cB cS cY np pg g q qb n k ni bv bm ml cn bt f t av13 b sg) ++ va_pl sL (sgF sf)) → va_S A s.heap H locs → lv_has ls 8 [(0, .ref np), (1, .int p0), (3, .int p2), (4, .int x9), (5, .int x10), (6, .int x11), (7, .int x12)] → W p l e rmX10_drawn s m args below meth c H locs 0 0 Q (F0 m 48 ls [])) ?_ H locs ls hP hD hS (lv_sub hl [4, 5, 7, 3, 2, 1, 0] rfl)
          · intro x9 x10 x11 x12 av13 hw H locs ls hP hD hS hl
            refine lv_iload hx hb dX10_drawn_48 (lv_at hl 6 rfl) ?_
            refine lv_iload_n hx hb dX10_drawn_50 rfl (lv_at hl 1 rfl) ?_
            refine lv_icmp_ge (tgt := 97) hx hb dX10_drawn_51 (by decide) (fun hc15 => ?_) (fun hc15 => ?_)
            · replace hw := hw.1 hc15
              refine lv_iload_n hx hb dX10_drawn_97 rfl (lv_at hl 2 rfl) ?_
              refine lv_iconst (v := 2) hx hb dX10_drawn_98 (by decide) ?_
              refine lv_icmp_ne (tgt := 105) hx hb dX10_drawn_99 (by decide) (fun hc16 => ?_) (fun hc16 => ?_)
              · replace hw := hw.1 hc16
                refine lv_iload_n hx hb dX10_drawn_105 rfl (lv_at hl 2 rfl) ?_
                refine lv_if_ne (tgt := 114) hx hb dX10_drawn_106 (by decide) (fun hc17 => ?_) (fun hc17 => ?_)
                · replace hw := hw.1 hc17
                  refine lv_iload hx hb dX10_drawn_114 (lv_at hl 4 rfl) ?_
                  exact hret dX10_drawn_116 hK hP hD hS hw
                · replace hw := hw.2 hc17
                  refine lv_iload hx hb dX10_drawn_109 (lv_at hl 3 rfl) ?_
                  refine lv_goto (tgt := 116) hx hb dX10_drawn_111 (by decide) ?_
                  exact hret dX10_drawn_116 hK hP hD hS hw
              · replace hw := hw.2 hc16
                refine lv_iload hx hb dX10_drawn_102 (lv_at hl 5 rfl) ?_
                exact hret dX10_drawn_104 hK hP hD hS hw
            · replace hw := hw.2 hc15
              refine lv_aload_n hx hb dX10_drawn_54 rfl (lv_at hl 0 rfl) ?_
              refine va_get (D := (dC, dI)) (ci := 12) (v := .ref (q 0)) (C := RX10) (T := TX10) (N := 6) hx hb hts hiX10 hown hK hP 0 rfl rfl 2 (by decide) hf40 (fun _ h9 => h9) rfl dX10_drawn_55 ?_
              refine lv_iload hx hb dX10_drawn_58 (lv_at hl 5 rfl) ?_
              refine g_ci (g_J.poolP (W2 := fun u18 : ((Nat → Nat → Int32)) => (W_N adK adV cI cB cS cY np pg g q qb n k ni bv bm ml cn bt f t u18 b sg)) (pl := va_pl sL (sgF sf)) (PL := fun u18 : ((Nat → Nat → Int32)) => va_pl sL (sgF sf)) (RX := fun u18 : ((Nat → Nat → Int32)) => (W_P adK adV cI cB cS q qb n k f t u18 b sg)) [(np, .inr (12, [.ref (q 1), .ref pg, .ref (q 0), .int (ni 0), .int (ni 1), .int (ni 2)])), (pg, .inr (6, [.ref g])), (g, .inr (1, [.ref bv, .int (0 : Int32), .int ml, .int cn])), (bv, .inl (cY, bm, .inl bt))] [4, 5, 6, 7, 8, 9, 10, 11, 12, 13, 14, 15, 16, 17, 18, 19, 20, 21, 22, 23, 24, 25, 26, 27, 28, 29, 30] [0, 1, 2, 3] [0, 1, 2, 3, 4, 5, 6, 7, 8, 9, 10, 11, 12, 13, 14, 15, 16, 17, 18, 19, 20, 21, 22, 23, 24, 25, 26, 27, 28, 29, 30] rfl (by decide) rfl (by decide) (by decide) (fun _ => rfl) (by decide)) [0, 1, 2] hK hP hD hS hA rfl (fun hPc hDc hKc hFc => va_runV (As := [.int x11]) (rest := []) ⟨hx, hb, hml, hown, hts⟩ (t_X5_draw l dC dI adK adV cI cB cS q qb n k H.size f t av13 b sg sL sf x11 _ hw) (cwV 1 hts gX10_drawn_X5_draw rfl rfl rfl (by decide +kernel) ⟨Nat.le_of_ble_eq_true rfl, Nat.le_of_ble_eq_true rfl⟩) (g_pV czb (q0 := 0) rfl rfl hPc hDc hKc (czc hZ hS hFc)) rfl rfl hl.1 rfl (lv_room (Nat.le_of_ble_eq_true rfl)) dX10_drawn_60 ⟨Nat.le_of_ble_eq_true rfl, Nat.le_of_ble_eq_true rfl⟩) (fun r19 u18 H locs hw hP hD hS => ?_)
              replace hP : va_P (dC, dI) vwCl ((W_N adK adV cI cB cS cY np pg g q qb n k ni bv bm ml cn bt f t u18 b sg) ++ va_pl sL (sgF sf)) H := hP
              replace hD : va_D A ((W_N adK adV cI cB cS cY np pg g q qb n k ni bv bm ml cn bt f t u18 b sg) ++ va_pl sL (sgF sf)) := hD
              refine lv_istore (lv' := [(6, .int r19), (0, .ref np), (1, .int p0), (3, .int p2), (4, .int x9), (5, .int x10), (7, .int x12)]) hx hb dX10_drawn_63 hl (by decide) rfl (fun ls hl => ?_)
              refine lv_iload hx hb dX10_drawn_65 (lv_at hl 4 rfl) ?_
              refine lv_aload_n hx hb dX10_drawn_67 rfl (lv_at hl 1 rfl) ?_
              refine va_get (D := (dC, dI)) (ci := 12) (v := .ref (q 0)) (C := RX10) (T := TX10) (N := 6) hx hb hts hiX10 hown hK hP 0 rfl rfl 2 (by decide) hf40 (fun _ h9 => h9) rfl dX10_drawn_68 ?_
              refine g_ci (g_J.poolP (W2 := fun u20 : Unit => (W_N adK adV cI cB cS cY np pg g q qb n k ni bv bm ml cn bt f t u18 b sg)) (pl := va_pl sL (sgF sf)) (PL := fun u20 : Unit => va_pl sL (sgF sf)) (RX := fun u20 : Unit => (W_P adK adV cI cB cS q qb n k f t u18 b sg)) [(np, .inr (12, [.ref (q 1), .ref pg, .ref (q 0), .int (ni 0), .int (ni 1), .int (ni 2)])), (pg, .inr (6, [.ref g])), (g, .inr (1, [.ref bv, .int (0 : Int32), .int ml, .int cn])), (bv, .inl (cY, bm, .inl bt))] [4, 5, 6, 7, 8, 9, 10, 11, 12, 13, 14, 15, 16, 17, 18, 19, 20, 21, 22, 23, 24, 25, 26, 27, 28, 29, 30] [0, 1, 2, 3] [0, 1, 2, 3, 4, 5, 6, 7, 8, 9, 10, 11, 12, 13, 14, 15, 16, 17, 18, 19, 20, 21, 22, 23, 24, 25, 26, 27, 28, 29, 30] rfl (by decide) rfl (by decide) (by decide) (fun _ => rfl) (by decide)) [0, 1, 2] hK hP hD hS hA rfl (fun hPc hDc hKc hFc => va_runV (As := []) (rest := [.int x9]) ⟨hx, hb, hml, hown, hts⟩ (t_X5_guessedTop l dC dI adK adV cI cB cS q qb n k H.size f t u18 b sg sL sf  _ hw) (cwV 0 hts gX10_drawn_X5_guessedTop rfl rfl rfl (by decide +kernel) ⟨Nat.le_of_ble_eq_true rfl, Nat.le_of_ble_eq_true rfl⟩) (g_pV czb (q0 := 0) rfl rfl hPc hDc hKc (czc hZ hS hFc)) rfl rfl hl.1 rfl (lv_room (Nat.le_of_ble_eq_true rfl)) dX10_drawn_71 ⟨Nat.le_of_ble_eq_true rfl, Nat.le_of_ble_eq_true rfl⟩) (fun r21 u20 H locs hw hP hD hS => ?_)
              replace hP : va_P (dC, dI) vwCl ((W_N adK adV cI cB cS cY np pg g q qb n k ni bv bm ml cn bt f t u18 b sg) ++ va_pl sL (sgF sf)) H := hP
              replace hD : va_D A ((W_N adK adV cI cB cS cY np pg g q qb n k ni bv bm ml cn bt f t u18 b sg) ++ va_pl sL (sgF sf)) := hD
              refine lv_iadd hx hb dX10_drawn_74 ?_
              refine lv_topi (fun x22 ex22 => ?_)
              replace hw := hw x22 ex22
              refine lv_istore (lv' := [(4, .int x22), (6, .int r19), (0, .ref np), (1, .int p0), (3, .int p2), (5, .int x10), (7, .int x12)]) hx hb dX10_drawn_75 hl (by decide) rfl (fun ls hl => ?_)
              refine lv_iload hx hb dX10_drawn_77 (lv_at hl 5 rfl) ?_
              refine lv_aload_n hx hb dX10_drawn_79 rfl (lv_at hl 2 rfl) ?_
              refine va_get (D := (dC, dI)) (ci := 12) (v := .ref (q 0)) (C := RX10) (T := TX10) (N := 6) hx hb hts hiX10 hown hK hP 0 rfl rfl 2 (by decide) hf40 (fun _ h9 => h9) rfl dX10_drawn_80 ?_
              refine g_ci (g_J.poolP (W2 := fun u23 : Unit => (W_N adK adV cI cB cS cY np pg g q qb n k ni bv bm ml cn bt f t u18 b sg)) (pl := va_pl sL (sgF sf)) (PL := fun u23 : Unit => va_pl sL (sgF sf)) (RX := fun u23 : Unit => (W_P adK adV cI cB cS q qb n k f t u18 b sg)) [(np, .inr (12, [.ref (q 1), .ref pg, .ref (q 0), .int (ni 0), .int (ni 1), .int (ni 2)])), (pg, .inr (6, [.ref g])), (g, .inr (1, [.ref bv, .int (0 : Int32), .int ml, .int cn])), (bv, .inl (cY, bm, .inl bt))] [4, 5, 6, 7, 8, 9, 10, 11, 12, 13, 14, 15, 16, 17, 18, 19, 20, 21, 22, 23, 24, 25, 26, 27, 28, 29, 30] [0, 1, 2, 3] [0, 1, 2, 3, 4, 5, 6, 7, 8, 9, 10, 11, 12, 13, 14, 15, 16, 17, 18, 19, 20, 21, 22, 23, 24, 25, 26, 27, 28, 29, 30] rfl (by decide) rfl (by decide) (by decide) (fun _ => rfl) (by decide)) [0, 1, 2] hK hP hD hS hA rfl (fun hPc hDc hKc hFc => va_runV (As := []) (rest := [.int x10]) ⟨hx, hb, hml, hown, hts⟩ (t_X5_guessedTop l dC dI adK adV cI cB cS q qb n k H.size f t u18 b sg sL sf  _ hw) (cwV 0 hts gX10_drawn_X5_guessedTop rfl rfl rfl (by decide +kernel) ⟨Nat.le_of_ble_eq_true rfl, Nat.le_of_ble_eq_true rfl⟩) (g_pV czb (q0 := 0) rfl rfl hPc hDc hKc (czc hZ hS hFc)) rfl rfl hl.1 rfl (lv_room (Nat.le_of_ble_eq_true rfl)) dX10_drawn_83 ⟨Nat.le_of_ble_eq_true rfl, Nat.le_of_ble_eq_true rfl⟩) (fun r24 u23 H locs hw hP hD hS => ?_)
              replace hP : va_P (dC, dI) vwCl ((W_N adK adV cI cB cS cY np pg g q qb n k ni bv bm ml cn bt f t u18 b sg) ++ va_pl sL (sgF sf)) H := hP
              replace hD : va_D A ((W_N adK adV cI cB cS cY np pg g q qb n k ni bv bm ml cn bt f t u18 b sg) ++ va_pl sL (sgF sf)) := hD
              refine va_mmax hx hb (hml.trans hl.1.symm) hown ml201 msmax miMath mcmax (Nat.le_of_ble_eq_true rfl) (Nat.le_of_ble_eq_true rfl) (Nat.le_of_ble_eq_true rfl) (Nat.le_of_ble_eq_true rfl) dX10_drawn_86 ?_
              refine lv_topi (fun x25 ex25 => ?_)
              replace hw := hw x25 ex25
              refine lv_istore (lv' := [(5, .int x25), (4, .int x22), (6, .int r19), (0, .ref np), (1, .int p0), (3, .int p2), (7, .int x12)]) hx hb dX10_drawn_89 hl (by decide) rfl (fun ls hl => ?_)
              obtain ⟨x26, ex26⟩ : ∃ y : Int32, y = x12 + (1 : Int32) := ⟨_, rfl⟩
              replace hw := hw x26 ex26
              refine lv_iinc (v := x26) (lv' := [(7, .int x26), (5, .int x25), (4, .int x22), (6, .int r19), (0, .ref np), (1, .int p0), (3, .int p2)]) hx hb dX10_drawn_91 hl (k := 6) rfl (by rw [ex26]; rfl) (by decide) rfl (fun ls hl => ?_)
              refine lv_goto (tgt := 48) hx hb dX10_drawn_94 (by decide) ?_
              exact hw H locs ls hP hD hS (lv_sub hl [4, 5, 6, 2, 1, 3, 0] rfl)
        · replace hw := hw.2 hc8
          refine lv_bipush (v := -103) hx hb dX10_drawn_33 (by decide) ?_
          exact hret dX10_drawn_35 hK hP hD hS hw
      · replace hw := hw.2 hc5
        refine lv_bipush (v := -102) hx hb dX10_drawn_23 (by decide) ?_
        exact hret dX10_drawn_25 hK hP hD hS hw

def w_X10_image (n : Nat) (k : Nat) (q : Nat → Nat) (ni : Nat → Int32) (bv : Nat) (bm : Nat) (ml : Int32) (cn : Int32) (bt : Nat → Int32) (f : Nat → Int32) (t : Nat) (a : Nat → Nat → Int32) (b : Nat → Nat → Int32) (sg : Nat → Nat → Option Nat) (sL : List Nat) (sf : Nat → Nat → Int32)   (Q : Int32 → ((Nat → Int32) × (Nat → Nat → Int32) × (Nat → Nat → Int32) × (Nat → Nat → Option Nat)) → Prop) : Prop := w_X10_hasPile n k q ni bv bm ml cn bt f t a b sg sL sf  (fun (r2 : Int32) (u1 : Unit) => (((¬ r2 = 0) → w_X5_keepImage n k q f t a b sg sL sf  (fun (u4 : ((Nat → Int32) × (Nat → Nat → Int32) × (Nat → Nat → Int32) × (Nat → Nat → Option Nat))) => Q (u4.1 4) (u4.1, u4.2.1, u4.2.2.1, u4.2.2.2))) ∧ (r2 = 0 → Q (-103 : Int32) (f, a, b, sg))))
abbrev rmX10_image : Room := { frames := 4, cells := 0, slots := 0, locals := 123 }
set_option maxHeartbeats 4000000 in
set_option maxRecDepth 100000 in
theorem t_X10_image (l : Launch) (dC : Nat → ClassId) (dI : Nat → Nat → Nat) (adK : Nat → Nat) (adV : Nat → Nat) (cI : ClassId) (cB : ClassId) (cS : ClassId) (cY : ClassId) (np : Nat) (pg : Nat) (g : Nat) (q : Nat → Nat) (qb : Nat → Nat) (n : Nat) (k : Nat) (sz : Nat) (ni : Nat → Int32) (bv : Nat) (bm : Nat) (ml : Int32) (cn : Int32) (bt : Nat → Int32) (f : Nat → Int32) (t : Nat) (a : Nat → Nat → Int32) (b : Nat → Nat → Int32) (sg : Nat → Nat → Option Nat) (sL : List Nat) (sf : Nat → Nat → Int32)    (Q0 : Int32 → ((Nat → Int32) × (Nat → Nat → Int32) × (Nat → Nat → Int32) × (Nat → Nat → Option Nat)) → Prop) (hw : w_X10_image n k q ni bv bm ml cn bt f t a b sg sL sf   Q0) : Met l yX10_image wsX10_image rmX10_image (g_pre (cz adK adV) (dC, dI) vwCl [(cI, .int), (cB, .object RX0), (cS, .object RX7), (cY, .byte)] ((W_N adK adV cI cB cS cY np pg g q qb n k ni bv bm ml cn bt f t a b sg) ++ va_pl sL (sgF sf)) sz [.ref np]) (g_qi (dC, dI) vwCl [(cI, .int), (cB, .object RX0), (cS, .object RX7), (cY, .byte)] (fun u : ((Nat → Int32) × (Nat → Nat → Int32) × (Nat → Nat → Int32) × (Nat → Nat → Option Nat)) => ((W_N adK adV cI cB cS cY np pg g q qb n k ni bv bm ml cn bt (u.1) t (u.2.1) (u.2.2.1) (u.2.2.2)) ++ va_pl sL (sgF sf))) Q0 (va_A ((W_N adK adV cI cB cS cY np pg g q qb n k ni bv bm ml cn bt f t a b sg) ++ va_pl sL (sgF sf)) sz)) 0 0 (va_A ((W_N adK adV cI cB cS cY np pg g q qb n k ni bv bm ml cn bt f t a b sg) ++ va_pl sL (sgF sf)) sz) := by
  refine g_starti (by decide) rfl (Nat.le_of_ble_eq_true rfl) ?_
  intro p e s m args below meth c A Q ls hx hb hml hown hts hin hK hP hD hA hS hZ hret hl
  obtain ⟨H, eH⟩ : ∃ H : Heap, H = s.heap := ⟨_, rfl⟩
  obtain ⟨locs, eL⟩ : ∃ L : List Loc, L = [] := ⟨_, rfl⟩
  have hS : va_S A s.heap H locs := by rw [eH, eL]; exact hS
  rw [← eH] at hP
  suffices hg : W p l e rmX10_image s m args below meth c H locs 0 0 Q (F0 m 0 ls []) by rw [eH, eL] at hg; exact hg
  clear eH eL
  replace hl : lv_has ls 1 [(0, .ref np)] := hl
  have hf40 := hts (.fieldLink RX10 40 "NumberPile" "current" "LNumberPile$Pile;") (by decide +kernel)
  have hiX10 : ∀ w ∈ u_ws RX10 TX10 6, w ∈ wsX10_image := fun w h => List.mem_cons_of_mem _ (List.mem_append_left _ (List.mem_append_left _ (List.mem_append_right _ h)))
  have nf102 := va_Nw.use (A := args) rfl (hZ.1 _ (List.mem_of_getElem? (i := 10) (rfl : cz_nest[10]? = some (.fieldLinkNest RX10 102 "NumberPile$Pile" "now" "LNumberPile$State;" "NumberPile"))))
  have hiX5 : ∀ w ∈ u_ws RX5 TX5 15, w ∈ wsX10_image := fun w h => List.mem_cons_of_mem _ (List.mem_append_left _ (List.mem_append_right _ h))
  have nf131 := va_Nw.use (A := args) rfl (hZ.1 _ (List.mem_of_getElem? (i := 12) (rfl : cz_nest[12]? = some (.fieldLinkNest RX10 131 "NumberPile$State" "changes" "I" "NumberPile"))))
  have hiX8 : ∀ w ∈ u_ws RX8 TX8 6, w ∈ wsX10_image := fun w h => List.mem_cons_of_mem _ (List.mem_append_right _ h)
  unfold w_X10_image at hw
  refine lv_aload_n hx hb dX10_image_0 rfl (lv_at hl 0 rfl) ?_
  refine g_ci (g_J.poolP (W2 := fun u1 : Unit => (W_N adK adV cI cB cS cY np pg g q qb n k ni bv bm ml cn bt f t a b sg)) (pl := va_pl sL (sgF sf)) (PL := fun u1 : Unit => va_pl sL (sgF sf)) (RX := fun u1 : Unit => (W_N adK adV cI cB cS cY np pg g q qb n k ni bv bm ml cn bt f t a b sg)) [] [0, 1, 2, 3, 4, 5, 6, 7, 8, 9, 10, 11, 12, 13, 14, 15, 16, 17, 18, 19, 20, 21, 22, 23, 24, 25, 26, 27, 28, 29, 30] [] [0, 1, 2, 3, 4, 5, 6, 7, 8, 9, 10, 11, 12, 13, 14, 15, 16, 17, 18, 19, 20, 21, 22, 23, 24, 25, 26, 27, 28, 29, 30] rfl (by decide) rfl (by decide) (by decide) (fun _ => rfl) (by decide)) [0, 1, 2, 3] hK hP hD hS hA rfl (fun hPc hDc hKc hFc => va_runV (As := []) (rest := []) ⟨hx, hb, hml, hown, hts⟩ (t_X10_hasPile l dC dI adK adV cI cB cS cY np pg g q qb n k H.size ni bv bm ml cn bt f t a b sg sL sf  _ hw) (cwV 0 hts gX10_image_X10_hasPile rfl rfl rfl (by decide +kernel) ⟨Nat.le_of_ble_eq_true rfl, Nat.le_of_ble_eq_true rfl⟩) (g_pV czb (q0 := 0) rfl rfl hPc hDc hKc (czc hZ hS hFc)) rfl rfl hl.1 rfl (lv_room (Nat.le_of_ble_eq_true rfl)) dX10_image_1 ⟨Nat.le_of_ble_eq_true rfl, Nat.le_of_ble_eq_true rfl⟩) (fun r2 u1 H locs hw hP hD hS => ?_)
  replace hP : va_P (dC, dI) vwCl ((W_N adK adV cI cB cS cY np pg g q qb n k ni bv bm ml cn bt f t a b sg) ++ va_pl sL (sgF sf)) H := hP
  replace hD : va_D A ((W_N adK adV cI cB cS cY np pg g q qb n k ni bv bm ml cn bt f t a b sg) ++ va_pl sL (sgF sf)) := hD
  refine lv_if_ne (tgt := 10) hx hb dX10_image_4 (by decide) (fun hc3 => ?_) (fun hc3 => ?_)
  · replace hw := hw.1 hc3
    refine lv_aload_n hx hb dX10_image_10 rfl (lv_at hl 0 rfl) ?_
    refine va_get (D := (dC, dI)) (ci := 12) (v := .ref (q 0)) (C := RX10) (T := TX10) (N := 6) hx hb hts hiX10 hown hK hP 0 rfl rfl 2 (by decide) hf40 (fun _ h9 => h9) rfl dX10_image_11 ?_
    refine g_cv (g_J.poolP (W2 := fun u4 : ((Nat → Int32) × (Nat → Nat → Int32) × (Nat → Nat → Int32) × (Nat → Nat → Option Nat)) => (W_N adK adV cI cB cS cY np pg g q qb n k ni bv bm ml cn bt (u4.1) t (u4.2.1) (u4.2.2.1) (u4.2.2.2))) (pl := va_pl sL (sgF sf)) (PL := fun u4 : ((Nat → Int32) × (Nat → Nat → Int32) × (Nat → Nat → Int32) × (Nat → Nat → Option Nat)) => va_pl sL (sgF sf)) (RX := fun u4 : ((Nat → Int32) × (Nat → Nat → Int32) × (Nat → Nat → Int32) × (Nat → Nat → Option Nat)) => (W_P adK adV cI cB cS q qb n k (u4.1) t (u4.2.1) (u4.2.2.1) (u4.2.2.2))) [(np, .inr (12, [.ref (q 1), .ref pg, .ref (q 0), .int (ni 0), .int (ni 1), .int (ni 2)])), (pg, .inr (6, [.ref g])), (g, .inr (1, [.ref bv, .int (0 : Int32), .int ml, .int cn])), (bv, .inl (cY, bm, .inl bt))] [4, 5, 6, 7, 8, 9, 10, 11, 12, 13, 14, 15, 16, 17, 18, 19, 20, 21, 22, 23, 24, 25, 26, 27, 28, 29, 30] [0, 1, 2, 3] [0, 1, 2, 3, 4, 5, 6, 7, 8, 9, 10, 11, 12, 13, 14, 15, 16, 17, 18, 19, 20, 21, 22, 23, 24, 25, 26, 27, 28, 29, 30] rfl (by decide) rfl (by decide) (by decide) (fun _ => rfl) (by decide)) [0, 1, 2] hK hP hD hS hA rfl (fun hPc hDc hKc hFc => va_runV (As := []) (rest := []) ⟨hx, hb, hml, hown, hts⟩ (t_X5_keepImage l dC dI adK adV cI cB cS q qb n k H.size f t a b sg sL sf  _ hw) (cwV 0 hts gX10_image_X5_keepImage rfl rfl rfl (by decide +kernel) ⟨Nat.le_of_ble_eq_true rfl, Nat.le_of_ble_eq_true rfl⟩) (g_pV czb (q0 := 0) rfl rfl hPc hDc hKc (czc hZ hS hFc)) rfl rfl hl.1 rfl (lv_room (Nat.le_of_ble_eq_true rfl)) dX10_image_14 ⟨Nat.le_of_ble_eq_true rfl, Nat.le_of_ble_eq_true rfl⟩) (fun u4 H locs hw hP hD hS => ?_)
    replace hP : va_P (dC, dI) vwCl ((W_N adK adV cI cB cS cY np pg g q qb n k ni bv bm ml cn bt (u4.1) t (u4.2.1) (u4.2.2.1) (u4.2.2.2)) ++ va_pl sL (sgF sf)) H := hP
    replace hD : va_D A ((W_N adK adV cI cB cS cY np pg g q qb n k ni bv bm ml cn bt (u4.1) t (u4.2.1) (u4.2.2.1) (u4.2.2.2)) ++ va_pl sL (sgF sf)) := hD
    refine lv_aload_n hx hb dX10_image_17 rfl (lv_at hl 0 rfl) ?_
    refine va_get (D := (dC, dI)) (ci := 12) (v := .ref (q 0)) (C := RX10) (T := TX10) (N := 6) hx hb hts hiX10 hown hK hP 0 rfl rfl 2 (by decide) hf40 (fun _ h9 => h9) rfl dX10_image_18 ?_
    refine va_getN (D := (dC, dI)) (ci := 7) (v := .ref (q 3)) (C := RX5) (T := TX5) (N := 15) hx hb hts hiX5 hown hK hP 4 rfl rfl 4 (by decide) nf102 (fun _ h9 => h9) rfl dX10_image_21 ?_
    refine va_getN (D := (dC, dI)) (ci := 10) (v := .int (u4.1 4)) (C := RX8) (T := TX8) (N := 6) hx hb hts hiX8 hown hK hP 7 rfl rfl 5 (by decide) nf131 (fun _ h9 => h9) rfl dX10_image_24 ?_
    exact hret dX10_image_27 hK hP hD hS hw
  · replace hw := hw.2 hc3
    refine lv_bipush (v := -103) hx hb dX10_image_7 (by decide) ?_
    exact hret dX10_image_9 hK hP hD hS hw
