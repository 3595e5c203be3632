def w_X10_restore (n : Nat) (k : Nat) (q : Nat → Nat) (ni : Nat → Int32) (bv : Nat) (bm : Nat) (ml : Int32) (cn : Int32) (bt : Nat → Int32) (f : Nat → Int32) (t : Nat) (a : Nat → Nat → Int32) (b : Nat → Nat → Int32) (sg : Nat → Nat → Option Nat) (sL : List Nat) (sf : Nat → Nat → Int32)   (Q : Int32 → ((Nat → Int32) × (Nat → Nat → Int32) × (Nat → Nat → Int32) × (Nat → Nat → Option Nat)) → Prop) : Prop := (((¬ (f 0) = 0) → w_X5_goBackToImage n k q f t a b sg sL sf  (fun (u2 : ((Nat → Int32) × (Nat → Nat → Int32) × (Nat → Nat → Int32) × (Nat → Nat → Option Nat))) => Q (u2.1 4) (u2.1, u2.2.1, u2.2.2.1, u2.2.2.2))) ∧ ((f 0) = 0 → Q (-103 : Int32) (f, a, b, sg)))
abbrev rmX10_restore : Room := { frames := 5, cells := 0, slots := 0, locals := 125 }
set_option maxHeartbeats 4000000 in
set_option maxRecDepth 100000 in
theorem t_X10_restore (l : Launch) (dC : Nat → ClassId) (dI : Nat → Nat → Nat) (adK : Nat → Nat) (adV : Nat → Nat) (cI : ClassId) (cB : ClassId) (cS : ClassId) (cY : ClassId) (np : Nat) (pg : Nat) (g : Nat) (q : Nat → Nat) (qb : Nat → Nat) (n : Nat) (k : Nat) (sz : Nat) (ni : Nat → Int32) (bv : Nat) (bm : Nat) (ml : Int32) (cn : Int32) (bt : Nat → Int32) (f : Nat → Int32) (t : Nat) (a : Nat → Nat → Int32) (b : Nat → Nat → Int32) (sg : Nat → Nat → Option Nat) (sL : List Nat) (sf : Nat → Nat → Int32)    (Q0 : Int32 → ((Nat → Int32) × (Nat → Nat → Int32) × (Nat → Nat → Int32) × (Nat → Nat → Option Nat)) → Prop) (hw : w_X10_restore n k q ni bv bm ml cn bt f t a b sg sL sf   Q0) : Met l yX10_restore wsX10_restore rmX10_restore (g_pre (cz adK adV) (dC, dI) vwCl [(cI, .int), (cB, .object RX0), (cS, .object RX7), (cY, .byte)] ((W_N adK adV cI cB cS cY np pg g q qb n k ni bv bm ml cn bt f t a b sg) ++ va_pl sL (sgF sf)) sz [.ref np]) (g_qi (dC, dI) vwCl [(cI, .int), (cB, .object RX0), (cS, .object RX7), (cY, .byte)] (fun u : ((Nat → Int32) × (Nat → Nat → Int32) × (Nat → Nat → Int32) × (Nat → Nat → Option Nat)) => ((W_N adK adV cI cB cS cY np pg g q qb n k ni bv bm ml cn bt (u.1) t (u.2.1) (u.2.2.1) (u.2.2.2)) ++ va_pl sL (sgF sf))) Q0 (va_A ((W_N adK adV cI cB cS cY np pg g q qb n k ni bv bm ml cn bt f t a b sg) ++ va_pl sL (sgF sf)) sz)) 0 0 (va_A ((W_N adK adV cI cB cS cY np pg g q qb n k ni bv bm ml cn bt f t a b sg) ++ va_pl sL (sgF sf)) sz) := by
  refine g_starti (by decide) rfl (Nat.le_of_ble_eq_true rfl) ?_
  intro p e s m args below meth c A Q ls hx hb hml hown hts hin hK hP hD hA hS hZ hret hl
  obtain ⟨H, eH⟩ : ∃ H : Heap, H = s.heap := ⟨_, rfl⟩
  obtain ⟨locs, eL⟩ : ∃ L : List Loc, L = [] := ⟨_, rfl⟩
  have hS : va_S A s.heap H locs := by rw [eH, eL]; exact hS
  rw [← eH] at hP
  suffices hg : W p l e rmX10_restore s m args below meth c H locs 0 0 Q (F0 m 0 ls []) by rw [eH, eL] at hg; exact hg
  clear eH eL
  replace hl : lv_has ls 1 [(0, .ref np)] := hl
  have hf40 := hts (.fieldLink RX10 40 "NumberPile" "current" "LNumberPile$Pile;") (by decide +kernel)
  have hiX10 : ∀ w ∈ u_ws RX10 TX10 6, w ∈ wsX10_restore := fun w h => List.mem_cons_of_mem _ (List.mem_append_left _ (List.mem_append_left _ (List.mem_append_right _ h)))
  have nf209 := va_Nw.use (A := args) rfl (hZ.1 _ (List.mem_of_getElem? (i := 16) (rfl : cz_nest[16]? = some (.fieldLinkNest RX10 209 "NumberPile$Pile" "hasImage" "Z" "NumberPile"))))
  have hiX5 : ∀ w ∈ u_ws RX5 TX5 15, w ∈ wsX10_restore := fun w h => List.mem_cons_of_mem _ (List.mem_append_left _ (List.mem_append_right _ h))
  have nf102 := va_Nw.use (A := args) rfl (hZ.1 _ (List.mem_of_getElem? (i := 10) (rfl : cz_nest[10]? = some (.fieldLinkNest RX10 102 "NumberPile$Pile" "now" "LNumberPile$State;" "NumberPile"))))
  have nf131 := va_Nw.use (A := args) rfl (hZ.1 _ (List.mem_of_getElem? (i := 12) (rfl : cz_nest[12]? = some (.fieldLinkNest RX10 131 "NumberPile$State" "changes" "I" "NumberPile"))))
  have hiX8 : ∀ w ∈ u_ws RX8 TX8 6, w ∈ wsX10_restore := fun w h => List.mem_cons_of_mem _ (List.mem_append_right _ h)
  unfold w_X10_restore at hw
  refine lv_aload_n hx hb dX10_restore_0 rfl (lv_at hl 0 rfl) ?_
  refine va_get (D := (dC, dI)) (ci := 12) (v := .ref (q 0)) (C := RX10) (T := TX10) (N := 6) hx hb hts hiX10 hown hK hP 0 rfl rfl 2 (by decide) hf40 (fun _ h9 => h9) rfl dX10_restore_1 ?_
  refine va_getN (D := (dC, dI)) (ci := 7) (v := .int (f 0)) (C := RX5) (T := TX5) (N := 15) hx hb hts hiX5 hown hK hP 4 rfl rfl 6 (by decide) nf209 (fun _ h9 => h9) rfl dX10_restore_4 ?_
  refine lv_if_ne (tgt := 13) hx hb dX10_restore_7 (by decide) (fun hc1 => ?_) (fun hc1 => ?_)
  · replace hw := hw.1 hc1
    refine lv_aload_n hx hb dX10_restore_13 rfl (lv_at hl 0 rfl) ?_
    refine va_get (D := (dC, dI)) (ci := 12) (v := .ref (q 0)) (C := RX10) (T := TX10) (N := 6) hx hb hts hiX10 hown hK hP 0 rfl rfl 2 (by decide) hf40 (fun _ h9 => h9) rfl dX10_restore_14 ?_
    refine g_cv (g_J.poolP (W2 := fun u2 : ((Nat → Int32) × (Nat → Nat → Int32) × (Nat → Nat → Int32) × (Nat → Nat → Option Nat)) => (W_N adK adV cI cB cS cY np pg g q qb n k ni bv bm ml cn bt (u2.1) t (u2.2.1) (u2.2.2.1) (u2.2.2.2))) (pl := va_pl sL (sgF sf)) (PL := fun u2 : ((Nat → Int32) × (Nat → Nat → Int32) × (Nat → Nat → Int32) × (Nat → Nat → Option Nat)) => va_pl sL (sgF sf)) (RX := fun u2 : ((Nat → Int32) × (Nat → Nat → Int32) × (Nat → Nat → Int32) × (Nat → Nat → Option Nat)) => (W_P adK adV cI cB cS q qb n k (u2.1) t (u2.2.1) (u2.2.2.1) (u2.2.2.2))) [(np, .inr (12, [.ref (q 1), .ref pg, .ref (q 0), .int (ni 0), .int (ni 1), .int (ni 2)])), (pg, .inr (6, [.ref g])), (g, .inr (1, [.ref bv, .int (0 : Int32), .int ml, .int cn])), (bv, .inl (cY, bm, .inl bt))] [4, 5, 6, 7, 8, 9, 10, 11, 12, 13, 14, 15, 16, 17, 18, 19, 20, 21, 22, 23, 24, 25, 26, 27, 28, 29, 30] [0, 1, 2, 3] [0, 1, 2, 3, 4, 5, 6, 7, 8, 9, 10, 11, 12, 13, 14, 15, 16, 17, 18, 19, 20, 21, 22, 23, 24, 25, 26, 27, 28, 29, 30] rfl (by decide) rfl (by decide) (by decide) (fun _ => rfl) (by decide)) [0, 1, 2] hK hP hD hS hA rfl (fun hPc hDc hKc hFc => va_runV (As := []) (rest := []) ⟨hx, hb, hml, hown, hts⟩ (t_X5_goBackToImage l dC dI adK adV cI cB cS q qb n k H.size f t a b sg sL sf  _ hw) (cwV 0 hts gX10_restore_X5_goBackToImage rfl rfl rfl (by decide +kernel) ⟨Nat.le_of_ble_eq_true rfl, Nat.le_of_ble_eq_true rfl⟩) (g_pV czb (q0 := 0) rfl rfl hPc hDc hKc (czc hZ hS hFc)) rfl rfl hl.1 rfl (lv_room (Nat.le_of_ble_eq_true rfl)) dX10_restore_17 ⟨Nat.le_of_ble_eq_true rfl, Nat.le_of_ble_eq_true rfl⟩) (fun u2 H locs hw hP hD hS => ?_)
    replace hP : va_P (dC, dI) vwCl ((W_N adK adV cI cB cS cY np pg g q qb n k ni bv bm ml cn bt (u2.1) t (u2.2.1) (u2.2.2.1) (u2.2.2.2)) ++ va_pl sL (sgF sf)) H := hP
    replace hD : va_D A ((W_N adK adV cI cB cS cY np pg g q qb n k ni bv bm ml cn bt (u2.1) t (u2.2.1) (u2.2.2.1) (u2.2.2.2)) ++ va_pl sL (sgF sf)) := hD
    refine lv_aload_n hx hb dX10_restore_20 rfl (lv_at hl 0 rfl) ?_
    refine va_get (D := (dC, dI)) (ci := 12) (v := .ref (q 0)) (C := RX10) (T := TX10) (N := 6) hx hb hts hiX10 hown hK hP 0 rfl rfl 2 (by decide) hf40 (fun _ h9 => h9) rfl dX10_restore_21 ?_
    refine va_getN (D := (dC, dI)) (ci := 7) (v := .ref (q 3)) (C := RX5) (T := TX5) (N := 15) hx hb hts hiX5 hown hK hP 4 rfl rfl 4 (by decide) nf102 (fun _ h9 => h9) rfl dX10_restore_24 ?_
    refine va_getN (D := (dC, dI)) (ci := 10) (v := .int (u2.1 4)) (C := RX8) (T := TX8) (N := 6) hx hb hts hiX8 hown hK hP 7 rfl rfl 5 (by decide) nf131 (fun _ h9 => h9) rfl dX10_restore_27 ?_
    exact hret dX10_restore_30 hK hP hD hS hw
  · replace hw := hw.2 hc1
    refine lv_bipush (v := -103) hx hb dX10_restore_10 (by decide) ?_
    exact hret dX10_restore_12 hK hP hD hS hw

def w_X10_count (n : Nat) (k : Nat) (q : Nat → Nat) (ni : Nat → Int32) (bv : Nat) (bm : Nat) (ml : Int32) (cn : Int32) (bt : Nat → Int32) (f : Nat → Int32) (t : Nat) (a : Nat → Nat → Int32) (b : Nat → Nat → Int32) (sg : Nat → Nat → Option Nat) (sL : List Nat) (sf : Nat → Nat → Int32)  (p0 : Int32) (Q : Int32 → Unit → Prop) : Prop := ((p0 = 0 → Q (nI n) ()) ∧ (¬ p0 = 0 → ((p0 = 1 → Q (nI k) ()) ∧ (¬ p0 = 1 → ((p0 = 2 → w_X10_hasPile n k q ni bv bm ml cn bt f t a b sg sL sf  (fun (r5 : Int32) (u4 : Unit) => (((r5 = 0) → Q (-1 : Int32) ()) ∧ (¬ (r5 = 0) → w_X5_top n k q f t a b sg sL sf  (fun (r8 : Int32) (u7 : Unit) => Q r8 ()))))) ∧ (¬ p0 = 2 → ((p0 = 3 → w_X5_sum n k q f t a b sg sL sf  (fun (r11 : Int32) (u10 : Unit) => Q r11 ())) ∧ (¬ p0 = 3 → ((p0 = 4 → w_X5_countTold n k q f t a b sg sL sf  (fun (r14 : Int32) (u13 : Unit) => Q r14 ())) ∧ (¬ p0 = 4 → ((p0 = 5 → w_X5_countTrue n k q f t a b sg sL sf  (fun (r17 : Int32) (u16 : Unit) => Q r17 ())) ∧ (¬ p0 = 5 → ((p0 = 6 → Q (f 4) ()) ∧ (¬ p0 = 6 → ((p0 = 7 → Q (f 3) ()) ∧ (¬ p0 = 7 → ((p0 = 8 → w_X4_length bv bm ml cn bt   (fun (r22 : Int32) (u21 : Unit) => Q r22 ())) ∧ (¬ p0 = 8 → ((p0 = 9 → Q (ni 0) ()) ∧ (¬ p0 = 9 → ((p0 = 10 → Q (ni 1) ()) ∧ (¬ p0 = 10 → ((p0 = 11 → Q (ni 2) ()) ∧ (¬ p0 = 11 → Q (-102 : Int32) ()))))))))))))))))))))))))
abbrev rmX10_count : Room := { frames := 3, cells := 0, slots := 0, locals := 60 }
set_option maxHeartbeats 4000000 in
set_option maxRecDepth 100000 in
theorem t_X10_count (l : Launch) (dC : Nat → ClassId) (dI : Nat → Nat → Nat) (adK : Nat → Nat) (adV : Nat → Nat) (cI : ClassId) (cB : ClassId) (cS : ClassId) (cY : ClassId) (np : Nat) (pg : Nat) (g : Nat) (q : Nat → Nat) (qb : Nat → Nat) (n : Nat) (k : Nat) (sz : Nat) (ni : Nat → Int32) (bv : Nat) (bm : Nat) (ml : Int32) (cn : Int32) (bt : Nat → Int32) (f : Nat → Int32) (t : Nat) (a : Nat → Nat → Int32) (b : Nat → Nat → Int32) (sg : Nat → Nat → Option Nat) (sL : List Nat) (sf : Nat → Nat → Int32)   (p0 : Int32) (Q0 : Int32 → Unit → Prop) (hw : w_X10_count n k q ni bv bm ml cn bt f t a b sg sL sf  p0 Q0) : Met l yX10_count wsX10_count rmX10_count (g_pre (cz adK adV) (dC, dI) vwCl [(cI, .int), (cB, .object RX0), (cS, .object RX7), (cY, .byte)] ((W_N adK adV cI cB cS cY np pg g q qb n k ni bv bm ml cn bt f t a b sg) ++ va_pl sL (sgF sf)) sz [.ref np, .int p0]) (g_qi (dC, dI) vwCl [(cI, .int), (cB, .object RX0), (cS, .object RX7), (cY, .byte)] (fun u : Unit => ((W_N adK adV cI cB cS cY np pg g q qb n k ni bv bm ml cn bt f t a b sg) ++ va_pl sL (sgF sf))) Q0 (va_A ((W_N adK adV cI cB cS cY np pg g q qb n k ni bv bm ml cn bt f t a b sg) ++ va_pl sL (sgF sf)) sz)) 0 0 (va_A ((W_N adK adV cI cB cS cY np pg g q qb n k ni bv bm ml cn bt f t a b sg) ++ va_pl sL (sgF sf)) sz) := by
  refine g_starti (by decide) rfl (Nat.le_of_ble_eq_true rfl) ?_
  intro p e s m args below meth c A Q ls hx hb hml hown hts hin hK hP hD hA hS hZ hret hl
  obtain ⟨H, eH⟩ : ∃ H : Heap, H = s.heap := ⟨_, rfl⟩
  obtain ⟨locs, eL⟩ : ∃ L : List Loc, L = [] := ⟨_, rfl⟩
  have hS : va_S A s.heap H locs := by rw [eH, eL]; exact hS
  rw [← eH] at hP
  suffices hg : W p l e rmX10_count s m args below meth c H locs 0 0 Q (F0 m 0 ls []) by rw [eH, eL] at hg; exact hg
  clear eH eL
  replace hl : lv_has ls 2 [(0, .ref np), (1, .int p0)] := hl
  have hf40 := hts (.fieldLink RX10 40 "NumberPile" "current" "LNumberPile$Pile;") (by decide +kernel)
  have hiX10 : ∀ w ∈ u_ws RX10 TX10 6, w ∈ wsX10_count := fun w h => List.mem_cons_of_mem _ (List.mem_append_left _ (List.mem_append_left _ (List.mem_append_left _ (List.mem_append_left _ (List.mem_append_right _ h)))))
  have nf216 := va_Nw.use (A := args) rfl (hZ.1 _ (List.mem_of_getElem? (i := 17) (rfl : cz_nest[17]? = some (.fieldLinkNest RX10 216 "NumberPile$Pile" "wide" "I" "NumberPile"))))
  have hiX5 : ∀ w ∈ u_ws RX5 TX5 15, w ∈ wsX10_count := fun w h => List.mem_cons_of_mem _ (List.mem_append_left _ (List.mem_append_left _ (List.mem_append_left _ (List.mem_append_right _ h))))
  have nf81 := va_Nw.use (A := args) rfl (hZ.1 _ (List.mem_of_getElem? (i := 7) (rfl : cz_nest[7]? = some (.fieldLinkNest RX10 81 "NumberPile$Pile" "size" "I" "NumberPile"))))
  have nf102 := va_Nw.use (A := args) rfl (hZ.1 _ (List.mem_of_getElem? (i := 10) (rfl : cz_nest[10]? = some (.fieldLinkNest RX10 102 "NumberPile$Pile" "now" "LNumberPile$State;" "NumberPile"))))
  have nf131 := va_Nw.use (A := args) rfl (hZ.1 _ (List.mem_of_getElem? (i := 12) (rfl : cz_nest[12]? = some (.fieldLinkNest RX10 131 "NumberPile$State" "changes" "I" "NumberPile"))))
  have hiX8 : ∀ w ∈ u_ws RX8 TX8 6, w ∈ wsX10_count := fun w h => List.mem_cons_of_mem _ (List.mem_append_left _ (List.mem_append_left _ (List.mem_append_right _ h)))
  have nf183 := va_Nw.use (A := args) rfl (hZ.1 _ (List.mem_of_getElem? (i := 15) (rfl : cz_nest[15]? = some (.fieldLinkNest RX10 183 "NumberPile$State" "sights" "I" "NumberPile"))))
  have hf31 := hts (.fieldLink RX10 31 "NumberPile" "page" "LNumberPile$Page;") (by decide +kernel)
  have hf77 := hts (.fieldLink RX10 77 "NumberPile" "reads" "I") (by decide +kernel)
  have hf162 := hts (.fieldLink RX10 162 "NumberPile" "needs" "I") (by decide +kernel)
  have hf171 := hts (.fieldLink RX10 171 "NumberPile" "looks" "I") (by decide +kernel)
  unfold w_X10_count at hw
  refine lv_iload_n hx hb dX10_count_0 rfl (lv_at hl 1 rfl) ?_
  by_cases hc1 : p0 = 0
  · replace hw := hw.1 hc1
    refine lv_tableIn (tgt := 64) hx hb dX10_count_1 (by rw [hc1]; decide) (by rw [hc1]; decide) (by rw [hc1]; rfl) (by decide) ?_
    refine lv_aload_n hx hb dX10_count_64 rfl (lv_at hl 0 rfl) ?_
    refine va_get (D := (dC, dI)) (ci := 12) (v := .ref (q 0)) (C := RX10) (T := TX10) (N := 6) hx hb hts hiX10 hown hK hP 0 rfl rfl 2 (by decide) hf40 (fun _ h9 => h9) rfl dX10_count_65 ?_
    refine va_getN (D := (dC, dI)) (ci := 7) (v := .int (nI n)) (C := RX5) (T := TX5) (N := 15) hx hb hts hiX5 hown hK hP 4 rfl rfl 0 (by decide) nf216 (fun _ h9 => h9) rfl dX10_count_68 ?_
    exact hret dX10_count_71 hK hP hD hS hw
  · replace hw := hw.2 hc1
    by_cases hc2 : p0 = 1
    · replace hw := hw.1 hc2
      refine lv_tableIn (tgt := 72) hx hb dX10_count_1 (by rw [hc2]; decide) (by rw [hc2]; decide) (by rw [hc2]; rfl) (by decide) ?_
      refine lv_aload_n hx hb dX10_count_72 rfl (lv_at hl 0 rfl) ?_
      refine va_get (D := (dC, dI)) (ci := 12) (v := .ref (q 0)) (C := RX10) (T := TX10) (N := 6) hx hb hts hiX10 hown hK hP 0 rfl rfl 2 (by decide) hf40 (fun _ h9 => h9) rfl dX10_count_73 ?_
      refine va_getN (D := (dC, dI)) (ci := 7) (v := .int (nI k)) (C := RX5) (T := TX5) (N := 15) hx hb hts hiX5 hown hK hP 4 rfl rfl 1 (by decide) nf81 (fun _ h9 => h9) rfl dX10_count_76 ?_
      exact hret dX10_count_79 hK hP hD hS hw
    · replace hw := hw.2 hc2
      by_cases hc3 : p0 = 2
      · replace hw := hw.1 hc3
        refine lv_tableIn (tgt := 80) hx hb dX10_count_1 (by rw [hc3]; decide) (by rw [hc3]; decide) (by rw [hc3]; rfl) (by decide) ?_
        refine lv_aload_n hx hb dX10_count_80 rfl (lv_at hl 0 rfl) ?_
        refine g_ci (g_J.poolP (W2 := fun u4 : Unit => (W_N adK adV cI cB cS cY np pg g q qb n k ni bv bm ml cn bt f t a b sg)) (pl := va_pl sL (sgF sf)) (PL := fun u4 : Unit => va_pl sL (sgF sf)) (RX := fun u4 : Unit => (W_N adK adV cI cB cS cY np pg g q qb n k ni bv bm ml cn bt f t a b sg)) [] [0, 1, 2, 3, 4, 5, 6, 7, 8, 9, 10, 11, 12, 13, 14, 15, 16, 17, 18, 19, 20, 21, 22, 23, 24, 25, 26, 27, 28, 29, 30] [] [0, 1, 2, 3, 4, 5, 6, 7, 8, 9, 10, 11, 12, 13, 14, 15, 16, 17, 18, 19, 20, 21, 22, 23, 24, 25, 26, 27, 28, 29, 30] rfl (by decide) rfl (by decide) (by decide) (fun _ => rfl) (by decide)) [0, 1, 2, 3] hK hP hD hS hA rfl (fun hPc hDc hKc hFc => va_runV (As := []) (rest := []) ⟨hx, hb, hml, hown, hts⟩ (t_X10_hasPile l dC dI adK adV cI cB cS cY np pg g q qb n k H.size ni bv bm ml cn bt f t a b sg sL sf  _ hw) (cwV 0 hts gX10_count_X10_hasPile rfl rfl rfl (by decide +kernel) ⟨Nat.le_of_ble_eq_true rfl, Nat.le_of_ble_eq_true rfl⟩) (g_pV czb (q0 := 0) rfl rfl hPc hDc hKc (czc hZ hS hFc)) rfl rfl hl.1 rfl (lv_room (Nat.le_of_ble_eq_true rfl)) dX10_count_81 ⟨Nat.le_of_ble_eq_true rfl, Nat.le_of_ble_eq_true rfl⟩) (fun r5 u4 H locs hw hP hD hS => ?_)
        replace hP : va_P (dC, dI) vwCl ((W_N adK adV cI cB cS cY np pg g q qb n k ni bv bm ml cn bt f t a b sg) ++ va_pl sL (sgF sf)) H := hP
        replace hD : va_D A ((W_N adK adV cI cB cS cY np pg g q qb n k ni bv bm ml cn bt f t a b sg) ++ va_pl sL (sgF sf)) := hD
        refine lv_if_eq (tgt := 97) hx hb dX10_count_84 (by decide) (fun hc6 => ?_) (fun hc6 => ?_)
        · replace hw := hw.1 hc6
          refine lv_iconst (v := -1) hx hb dX10_count_97 (by decide) ?_
          exact hret dX10_count_98 hK hP hD hS hw
        · replace hw := hw.2 hc6
          refine lv_aload_n hx hb dX10_count_87 rfl (lv_at hl 0 rfl) ?_
          refine va_get (D := (dC, dI)) (ci := 12) (v := .ref (q 0)) (C := RX10) (T := TX10) (N := 6) hx hb hts hiX10 hown hK hP 0 rfl rfl 2 (by decide) hf40 (fun _ h9 => h9) rfl dX10_count_88 ?_
          refine g_ci (g_J.poolP (W2 := fun u7 : Unit => (W_N adK adV cI cB cS cY np pg g q qb n k ni bv bm ml cn bt f t a b sg)) (pl := va_pl sL (sgF sf)) (PL := fun u7 : Unit => va_pl sL (sgF sf)) (RX := fun u7 : Unit => (W_P adK adV cI cB cS q qb n k f t a b sg)) [(np, .inr (12, [.ref (q 1), .ref pg, .ref (q 0), .int (ni 0), .int (ni 1), .int (ni 2)])), (pg, .inr (6, [.ref g])), (g, .inr (1, [.ref bv, .int (0 : Int32), .int ml, .int cn])), (bv, .inl (cY, bm, .inl bt))] [4, 5, 6, 7, 8, 9, 10, 11, 12, 13, 14, 15, 16, 17, 18, 19, 20, 21, 22, 23, 24, 25, 26, 27, 28, 29, 30] [0, 1, 2, 3] [0, 1, 2, 3, 4, 5, 6, 7, 8, 9, 10, 11, 12, 13, 14, 15, 16, 17, 18, 19, 20, 21, 22, 23, 24, 25, 26, 27, 28, 29, 30] rfl (by decide) rfl (by decide) (by decide) (fun _ => rfl) (by decide)) [0, 1, 2] hK hP hD hS hA rfl (fun hPc hDc hKc hFc => va_runV (As := []) (rest := []) ⟨hx, hb, hml, hown, hts⟩ (t_X5_top l dC dI adK adV cI cB cS q qb n k H.size f t a b sg sL sf  _ hw) (cwV 0 hts gX10_count_X5_top rfl rfl rfl (by decide +kernel) ⟨Nat.le_of_ble_eq_true rfl, Nat.le_of_ble_eq_true rfl⟩) (g_pV czb (q0 := 0) rfl rfl hPc hDc hKc (czc hZ hS hFc)) rfl rfl hl.1 rfl (lv_room (Nat.le_of_ble_eq_true rfl)) dX10_count_91 ⟨Nat.le_of_ble_eq_true rfl, Nat.le_of_ble_eq_true rfl⟩) (fun r8 u7 H locs hw hP hD hS => ?_)
          replace hP : va_P (dC, dI) vwCl ((W_N adK adV cI cB cS cY np pg g q qb n k ni bv bm ml cn bt f t a b sg) ++ va_pl sL (sgF sf)) H := hP
          replace hD : va_D A ((W_N adK adV cI cB cS cY np pg g q qb n k ni bv bm ml cn bt f t a b sg) ++ va_pl sL (sgF sf)) := hD
          refine lv_goto (tgt := 98) hx hb dX10_count_94 (by decide) ?_
          exact hret dX10_count_98 hK hP hD hS hw
      · replace hw := hw.2 hc3
        by_cases hc9 : p0 = 3
        · replace hw := hw.1 hc9
          refine lv_tableIn (tgt := 99) hx hb dX10_count_1 (by rw [hc9]; decide) (by rw [hc9]; decide) (by rw [hc9]; rfl) (by decide) ?_
          refine lv_aload_n hx hb dX10_count_99 rfl (lv_at hl 0 rfl) ?_
          refine va_get (D := (dC, dI)) (ci := 12) (v := .ref (q 0)) (C := RX10) (T := TX10) (N := 6) hx hb hts hiX10 hown hK hP 0 rfl rfl 2 (by decide) hf40 (fun _ h9 => h9) rfl dX10_count_100 ?_
          refine g_ci (g_J.poolP (W2 := fun u10 : Unit => (W_N adK adV cI cB cS cY np pg g q qb n k ni bv bm ml cn bt f t a b sg)) (pl := va_pl sL (sgF sf)) (PL := fun u10 : Unit => va_pl sL (sgF sf)) (RX := fun u10 : Unit => (W_P adK adV cI cB cS q qb n k f t a b sg)) [(np, .inr (12, [.ref (q 1), .ref pg, .ref (q 0), .int (ni 0), .int (ni 1), .int (ni 2)])), (pg, .inr (6, [.ref g])), (g, .inr (1, [.ref bv, .int (0 : Int32), .int ml, .int cn])), (bv, .inl (cY, bm, .inl bt))] [4, 5, 6, 7, 8, 9, 10, 11, 12, 13, 14, 15, 16, 17, 18, 19, 20, 21, 22, 23, 24, 25, 26, 27, 28, 29, 30] [0, 1, 2, 3] [0, 1, 2, 3, 4, 5, 6, 7, 8, 9, 10, 11, 12, 13, 14, 15, 16, 17, 18, 19, 20, 21, 22, 23, 24, 25, 26, 27, 28, 29, 30] rfl (by decide) rfl (by decide) (by decide) (fun _ => rfl) (by decide)) [0, 1, 2] hK hP hD hS hA rfl (fun hPc hDc hKc hFc => va_runV (As := []) (rest := []) ⟨hx, hb, hml, hown, hts⟩ (t_X5_sum l dC dI adK adV cI cB cS q qb n k H.size f t a b sg sL sf  _ hw) (cwV 0 hts gX10_count_X5_sum rfl rfl rfl (by decide +kernel) ⟨Nat.le_of_ble_eq_true rfl, Nat.le_of_ble_eq_true rfl⟩) (g_pV czb (q0 := 0) rfl rfl hPc hDc hKc (czc hZ hS hFc)) rfl rfl hl.1 rfl (lv_room (Nat.le_of_ble_eq_true rfl)) dX10_count_103 ⟨Nat.le_of_ble_eq_true rfl, Nat.le_of_ble_eq_true rfl⟩) (fun r11 u10 H locs hw hP hD hS => ?_)
          replace hP : va_P (dC, dI) vwCl ((W_N adK adV cI cB cS cY np pg g q qb n k ni bv bm ml cn bt f t a b sg) ++ va_pl sL (sgF sf)) H := hP
          replace hD : va_D A ((W_N adK adV cI cB cS cY np pg g q qb n k ni bv bm ml cn bt f t a b sg) ++ va_pl sL (sgF sf)) := hD
          exact hret dX10_count_106 hK hP hD hS hw
        · replace hw := hw.2 hc9
          by_cases hc12 : p0 = 4
          · replace hw := hw.1 hc12
            refine lv_tableIn (tgt := 107) hx hb dX10_count_1 (by rw [hc12]; decide) (by rw [hc12]; decide) (by rw [hc12]; rfl) (by decide) ?_
            refine lv_aload_n hx hb dX10_count_107 rfl (lv_at hl 0 rfl) ?_
            refine va_get (D := (dC, dI)) (ci := 12) (v := .ref (q 0)) (C := RX10) (T := TX10) (N := 6) hx hb hts hiX10 hown hK hP 0 rfl rfl 2 (by decide) hf40 (fun _ h9 => h9) rfl dX10_count_108 ?_
            refine g_ci (g_J.poolP (W2 := fun u13 : Unit => (W_N adK adV cI cB cS cY np pg g q qb n k ni bv bm ml cn bt f t a b sg)) (pl := va_pl sL (sgF sf)) (PL := fun u13 : Unit => va_pl sL (sgF sf)) (RX := fun u13 : Unit => (W_P adK adV cI cB cS q qb n k f t a b sg)) [(np, .inr (12, [.ref (q 1), .ref pg, .ref (q 0), .int (ni 0), .int (ni 1), .int (ni 2)])), (pg, .inr (6, [.ref g])), (g, .inr (1, [.ref bv, .int (0 : Int32), .int ml, .int cn])), (bv, .inl (cY, bm, .inl bt))] [4, 5, 6, 7, 8, 9, 10, 11, 12, 13, 14, 15, 16, 17, 18, 19, 20, 21, 22, 23, 24, 25, 26, 27, 28, 29, 30] [0, 1, 2, 3] [0, 1, 2, 3, 4, 5, 6, 7, 8, 9, 10, 11, 12, 13, 14, 15, 16, 17, 18, 19, 20, 21, 22, 23, 24, 25, 26, 27, 28, 29, 30] rfl (by decide) rfl (by decide) (by decide) (fun _ => rfl) (by decide)) [0, 1, 2] hK hP hD hS hA rfl (fun hPc hDc hKc hFc => va_runV (As := []) (rest := []) ⟨hx, hb, hml, hown, hts⟩ (t_X5_countTold l dC dI adK adV cI cB cS q qb n k H.size f t a b sg sL sf  _ hw) (cwV 0 hts gX10_count_X5_countTold rfl rfl rfl (by decide +kernel) ⟨Nat.le_of_ble_eq_true rfl, Nat.le_of_ble_eq_true rfl⟩) (g_pV czb (q0 := 0) rfl rfl hPc hDc hKc (czc hZ hS hFc)) rfl rfl hl.1 rfl (lv_room (Nat.le_of_ble_eq_true rfl)) dX10_count_111 ⟨Nat.le_of_ble_eq_true rfl, Nat.le_of_ble_eq_true rfl⟩) (fun r14 u13 H locs hw hP hD hS => ?_)
            replace hP : va_P (dC, dI) vwCl ((W_N adK adV cI cB cS cY np pg g q qb n k ni bv bm ml cn bt f t a b sg) ++ va_pl sL (sgF sf)) H := hP
            replace hD : va_D A ((W_N adK adV cI cB cS cY np pg g q qb n k ni bv bm ml cn bt f t a b sg) ++ va_pl sL (sgF sf)) := hD
            exact hret dX10_count_114 hK hP hD hS hw
          · replace hw := hw.2 hc12
            by_cases hc15 : p0 = 5
            · replace hw := hw.1 hc15
              refine lv_tableIn (tgt := 115) hx hb dX10_count_1 (by rw [hc15]; decide) (by rw [hc15]; decide) (by rw [hc15]; rfl) (by decide) ?_
              refine lv_aload_n hx hb dX10_count_115 rfl (lv_at hl 0 rfl) ?_
              refine va_get (D := (dC, dI)) (ci := 12) (v := .ref (q 0)) (C := RX10) (T := TX10) (N := 6) hx hb hts hiX10 hown hK hP 0 rfl rfl 2 (by decide) hf40 (fun _ h9 => h9) rfl dX10_count_116 ?_
              refine g_ci (g_J.poolP (W2 := fun u16 : Unit => (W_N adK adV cI cB cS cY np pg g q qb n k ni bv bm ml cn bt f t a b sg)) (pl := va_pl sL (sgF sf)) (PL := fun u16 : Unit => va_pl sL (sgF sf)) (RX := fun u16 : Unit => (W_P adK adV cI cB cS q qb n k f t a b sg)) [(np, .inr (12, [.ref (q 1), .ref pg, .ref (q 0), .int (ni 0), .int (ni 1), .int (ni 2)])), (pg, .inr (6, [.ref g])), (g, .inr (1, [.ref bv, .int (0 : Int32), .int ml, .int cn])), (bv, .inl (cY, bm, .inl bt))] [4, 5, 6, 7, 8, 9, 10, 11, 12, 13, 14, 15, 16, 17, 18, 19, 20, 21, 22, 23, 24, 25, 26, 27, 28, 29, 30] [0, 1, 2, 3] [0, 1, 2, 3, 4, 5, 6, 7, 8, 9, 10, 11, 12, 13, 14, 15, 16, 17, 18, 19, 20, 21, 22, 23, 24, 25, 26, 27, 28, 29, 30] rfl (by decide) rfl (by decide) (by decide) (fun _ => rfl) (by decide)) [0, 1, 2] hK hP hD hS hA rfl (fun hPc hDc hKc hFc => va_runV (As := []) (rest := []) ⟨hx, hb, hml, hown, hts⟩ (t_X5_countTrue l dC dI adK adV cI cB cS q qb n k H.size f t a b sg sL sf  _ hw) (cwV 0 hts gX10_count_X5_countTrue rfl rfl rfl (by decide +kernel) ⟨Nat.le_of_ble_eq_true rfl, Nat.le_of_ble_eq_true rfl⟩) (g_pV czb (q0 := 0) rfl rfl hPc hDc hKc (czc hZ hS hFc)) rfl rfl hl.1 rfl (lv_room (Nat.le_of_ble_eq_true rfl)) dX10_count_119 ⟨Nat.le_of_ble_eq_true rfl, Nat.le_of_ble_eq_true rfl⟩) (fun r17 u16 H locs hw hP hD hS => ?_)
              replace hP : va_P (dC, dI) vwCl ((W_N adK adV cI cB cS cY np pg g q qb n k ni bv bm ml cn bt f t a b sg) ++ va_pl sL (sgF sf)) H := hP
              replace hD : va_D A ((W_N adK adV cI cB cS cY np pg g q qb n k ni bv bm ml cn bt f t a b sg) ++ va_pl sL (sgF sf)) := hD
              exact hret dX10_count_122 hK hP hD hS hw
            · replace hw := hw.2 hc15
              by_cases hc18 : p0 = 6
              · replace hw := hw.1 hc18
                refine lv_tableIn (tgt := 123) hx hb dX10_count_1 (by rw [hc18]; decide) (by rw [hc18]; decide) (by rw [hc18]; rfl) (by decide) ?_
                refine lv_aload_n hx hb dX10_count_123 rfl (lv_at hl 0 rfl) ?_
                refine va_get (D := (dC, dI)) (ci := 12) (v := .ref (q 0)) (C := RX10) (T := TX10) (N := 6) hx hb hts hiX10 hown hK hP 0 rfl rfl 2 (by decide) hf40 (fun _ h9 => h9) rfl dX10_count_124 ?_
                refine va_getN (D := (dC, dI)) (ci := 7) (v := .ref (q 3)) (C := RX5) (T := TX5) (N := 15) hx hb hts hiX5 hown hK hP 4 rfl rfl 4 (by decide) nf102 (fun _ h9 => h9) rfl dX10_count_127 ?_
                refine va_getN (D := (dC, dI)) (ci := 10) (v := .int (f 4)) (C := RX8) (T := TX8) (N := 6) hx hb hts hiX8 hown hK hP 7 rfl rfl 5 (by decide) nf131 (fun _ h9 => h9) rfl dX10_count_130 ?_
                exact hret dX10_count_133 hK hP hD hS hw
              · replace hw := hw.2 hc18
                by_cases hc19 : p0 = 7
                · replace hw := hw.1 hc19
                  refine lv_tableIn (tgt := 134) hx hb dX10_count_1 (by rw [hc19]; decide) (by rw [hc19]; decide) (by rw [hc19]; rfl) (by decide) ?_
                  refine lv_aload_n hx hb dX10_count_134 rfl (lv_at hl 0 rfl) ?_
                  refine va_get (D := (dC, dI)) (ci := 12) (v := .ref (q 0)) (C := RX10) (T := TX10) (N := 6) hx hb hts hiX10 hown hK hP 0 rfl rfl 2 (by decide) hf40 (fun _ h9 => h9) rfl dX10_count_135 ?_
                  refine va_getN (D := (dC, dI)) (ci := 7) (v := .ref (q 3)) (C := RX5) (T := TX5) (N := 15) hx hb hts hiX5 hown hK hP 4 rfl rfl 4 (by decide) nf102 (fun _ h9 => h9) rfl dX10_count_138 ?_
                  refine va_getN (D := (dC, dI)) (ci := 10) (v := .int (f 3)) (C := RX8) (T := TX8) (N := 6) hx hb hts hiX8 hown hK hP 7 rfl rfl 4 (by decide) nf183 (fun _ h9 => h9) rfl dX10_count_141 ?_
                  exact hret dX10_count_144 hK hP hD hS hw
                · replace hw := hw.2 hc19
                  by_cases hc20 : p0 = 8
                  · replace hw := hw.1 hc20
                    refine lv_tableIn (tgt := 145) hx hb dX10_count_1 (by rw [hc20]; decide) (by rw [hc20]; decide) (by rw [hc20]; rfl) (by decide) ?_
                    refine lv_aload_n hx hb dX10_count_145 rfl (lv_at hl 0 rfl) ?_
                    refine va_get (D := (dC, dI)) (ci := 12) (v := .ref pg) (C := RX10) (T := TX10) (N := 6) hx hb hts hiX10 hown hK hP 0 rfl rfl 1 (by decide) hf31 (fun _ h9 => h9) rfl dX10_count_146 ?_
                    refine g_ci (g_J.poolQ (W2 := fun u21 : Unit => (W_N adK adV cI cB cS cY np pg g q qb n k ni bv bm ml cn bt f t a b sg)) (pl := va_pl sL (sgF sf)) [(np, .inr (12, [.ref (q 1), .ref pg, .ref (q 0), .int (ni 0), .int (ni 1), .int (ni 2)])), ((q 0), .inr (7, [.int (nI n), .int (nI k), .ref (q 1), .ref (q 2), .ref (q 3), .ref (q 8), .int (f 0), .ref (q 13), .ref (q 14), .ref (q 15), .ref (q 18), .ref (q 21), .int (f 1), .ref (q 17), .int (f 2)])), ((q 1), .inl (cB, (5), .inr (.inr (.inr (.inr (fun i => (kAll i).map qb)))))), ((q 2), .inl (cI, k, .inl (a 0))), ((q 3), .inr (10, [.ref (q 4), .ref (q 5), .ref (q 6), .ref (q 7), .int (f 3), .int (f 4)])), ((q 4), .inl (cI, (k - n), .inl (b 0))), ((q 5), .inl (cI, n, .inl (a 1))), ((q 6), .inl (cI, k, .inl (a 2))), ((q 7), .inl (cS, (6), .inr (.inr (.inr (.inr (sg 0)))))), ((q 8), .inr (10, [.ref (q 9), .ref (q 10), .ref (q 11), .ref (q 12), .int (f 5), .int (f 6)])), ((q 9), .inl (cI, (k - n), .inl (b 1))), ((q 10), .inl (cI, n, .inl (a 3))), ((q 11), .inl (cI, k, .inl (a 4))), ((q 12), .inl (cS, (6), .inr (.inr (.inr (.inr (sg 1)))))), ((q 13), .inl (cI, k, .inl (a 5))), ((q 14), .inl (cI, k, .inl (a 6))), ((q 15), .inr (8, [.int (nI n), .ref (q 1), .ref (q 4), .ref (q 16), .ref t, .int (f 7)])), ((q 16), .inl (cI, k, .inl (a 8))), ((q 17), .inl (cI, (10 * n), .inl (a 7))), ((q 18), .inr (14, [.ref (q 19), .ref (q 20)])), ((q 19), .inl (cI, (k + 1), .inl (b 2))), ((q 20), .inl (cI, (toL n), .inl (b 3))), ((q 21), .inl (cI, k, .inl (b 4))), ((qb 0), .inr (2, [])), ((qb 1), .inr (3, [])), ((qb 2), .inr (5, [])), ((qb 3), .inr (11, [])), ((qb 4), .inr (4, []))] [1, 2, 3] [0, 4, 5, 6, 7, 8, 9, 10, 11, 12, 13, 14, 15, 16, 17, 18, 19, 20, 21, 22, 23, 24, 25, 26, 27, 28, 29, 30] [0, 28, 29, 30, 1, 2, 3, 4, 5, 6, 7, 8, 9, 10, 11, 12, 13, 14, 15, 16, 17, 18, 19, 20, 21, 22, 23, 24, 25, 26, 27] rfl (by decide) rfl (by decide) (by decide) (fun _ => rfl) (by decide)) [3] hK hP hD hS hA rfl (fun hPc hDc hKc hFc => va_runV (As := []) (rest := []) ⟨hx, hb, hml, hown, hts⟩ (t_X4_length l dC dI adK adV cY pg g H.size bv bm ml cn bt   _ hw) (cwV 0 hts gX10_count_X4_length rfl rfl rfl (by decide +kernel) ⟨Nat.le_of_ble_eq_true rfl, Nat.le_of_ble_eq_true rfl⟩) (g_pV czb (q0 := 0) rfl rfl hPc hDc hKc (czc hZ hS hFc)) rfl rfl hl.1 rfl (lv_room (Nat.le_of_ble_eq_true rfl)) dX10_count_149 ⟨Nat.le_of_ble_eq_true rfl, Nat.le_of_ble_eq_true rfl⟩) (fun r22 u21 H locs hw hP hD hS => ?_)
                    replace hP : va_P (dC, dI) vwCl ((W_N adK adV cI cB cS cY np pg g q qb n k ni bv bm ml cn bt f t a b sg) ++ va_pl sL (sgF sf)) H := hP
                    replace hD : va_D A ((W_N adK adV cI cB cS cY np pg g q qb n k ni bv bm ml cn bt f t a b sg) ++ va_pl sL (sgF sf)) := hD
                    exact hret dX10_count_152 hK hP hD hS hw
                  · replace hw := hw.2 hc20
                    by_cases hc23 : p0 = 9
                    · replace hw := hw.1 hc23
                      refine lv_tableIn (tgt := 153) hx hb dX10_count_1 (by rw [hc23]; decide) (by rw [hc23]; decide) (by rw [hc23]; rfl) (by decide) ?_
                      refine lv_aload_n hx hb dX10_count_153 rfl (lv_at hl 0 rfl) ?_
                      refine va_get (D := (dC, dI)) (ci := 12) (v := .int (ni 0)) (C := RX10) (T := TX10) (N := 6) hx hb hts hiX10 hown hK hP 0 rfl rfl 3 (by decide) hf77 (fun _ h9 => h9) rfl dX10_count_154 ?_
                      exact hret dX10_count_157 hK hP hD hS hw
                    · replace hw := hw.2 hc23
                      by_cases hc24 : p0 = 10
                      · replace hw := hw.1 hc24
                        refine lv_tableIn (tgt := 158) hx hb dX10_count_1 (by rw [hc24]; decide) (by rw [hc24]; decide) (by rw [hc24]; rfl) (by decide) ?_
                        refine lv_aload_n hx hb dX10_count_158 rfl (lv_at hl 0 rfl) ?_
                        refine va_get (D := (dC, dI)) (ci := 12) (v := .int (ni 1)) (C := RX10) (T := TX10) (N := 6) hx hb hts hiX10 hown hK hP 0 rfl rfl 4 (by decide) hf162 (fun _ h9 => h9) rfl dX10_count_159 ?_
                        exact hret dX10_count_162 hK hP hD hS hw
                      · replace hw := hw.2 hc24
                        by_cases hc25 : p0 = 11
                        · replace hw := hw.1 hc25
                          refine lv_tableIn (tgt := 163) hx hb dX10_count_1 (by rw [hc25]; decide) (by rw [hc25]; decide) (by rw [hc25]; rfl) (by decide) ?_
                          refine lv_aload_n hx hb dX10_count_163 rfl (lv_at hl 0 rfl) ?_
                          refine va_get (D := (dC, dI)) (ci := 12) (v := .int (ni 2)) (C := RX10) (T := TX10) (N := 6) hx hb hts hiX10 hown hK hP 0 rfl rfl 5 (by decide) hf171 (fun _ h9 => h9) rfl dX10_count_164 ?_
                          exact hret dX10_count_167 hK hP hD hS hw
                        · replace hw := hw.2 hc25
                          refine lv_tableOut (tgt := 168) hx hb dX10_count_1 (by have z0 := lv_neT hc1 (a := 0) rfl; have z1 := lv_neT hc2 (a := 1) rfl; have z2 := lv_neT hc3 (a := 2) rfl; have z3 := lv_neT hc9 (a := 3) rfl; have z4 := lv_neT hc12 (a := 4) rfl; have z5 := lv_neT hc15 (a := 5) rfl; have z6 := lv_neT hc18 (a := 6) rfl; have z7 := lv_neT hc19 (a := 7) rfl; have z8 := lv_neT hc20 (a := 8) rfl; have z9 := lv_neT hc23 (a := 9) rfl; have z10 := lv_neT hc24 (a := 10) rfl; have z11 := lv_neT hc25 (a := 11) rfl; omega) (by decide) ?_
                          refine lv_bipush (v := -102) hx hb dX10_count_168 (by decide) ?_
                          exact hret dX10_count_170 hK hP hD hS hw

def w_X10_need (n : Nat) (k : Nat) (q : Nat → Nat) (ni : Nat → Int32) (bv : Nat) (bm : Nat) (ml : Int32) (cn : Int32) (bt : Nat → Int32) (f : Nat → Int32) (t : Nat) (a : Nat → Nat → Int32) (b : Nat → Nat → Int32) (sg : Nat → Nat → Option Nat) (sL : List Nat) (sf : Nat → Nat → Int32)  (p0 : Int32) (p1 : Int32) (Q : Int32 → ((Nat → Int32) × (Nat → Int32) × (Nat) × (Nat → Nat → Int32) × (Nat → Nat → Int32)) → Prop) : Prop := w_X10_isWithin p0 (0 : Int32) (999 : Int32) (fun (r1 : Int32) => (((r1 = 0) → Q (-102 : Int32) (ni, f, t, a, b)) ∧ (¬ (r1 = 0) → w_X10_isWithin p1 (0 : Int32) (1 : Int32) (fun (r3 : Int32) => (((¬ r3 = 0) → w_X10_hasPile n k q ni bv bm ml cn bt f t a b sg sL sf  (fun (r6 : Int32) (u5 : Unit) => (((r6 = 0) → Q (-103 : Int32) (ni, f, t, a, b)) ∧ (¬ (r6 = 0) → ((((ni 1) < (20 : Int32)) → ∀ x9 : Int32, x9 = ((ni 1) + (1 : Int32)) → w_X5_nearestWithTop n k q f t a b sg sL sf p0 (fun (r11 : Int32) (u10 : ((Nat → Int32) × (Nat) × (Nat → Nat → Int32) × (Nat → Nat → Int32))) => (((¬ r11 = (-1 : Int32)) → (((¬ p1 = 0) → Q (r11 - r11 / (10000 : Int32) * (10000 : Int32)) ((upd ni 1 x9), u10.1, u10.2.1, u10.2.2.1, u10.2.2.2)) ∧ (p1 = 0 → Q (r11 / (10000 : Int32)) ((upd ni 1 x9), u10.1, u10.2.1, u10.2.2.1, u10.2.2.2)))) ∧ (r11 = (-1 : Int32) → Q (-1 : Int32) ((upd ni 1 x9), u10.1, u10.2.1, u10.2.2.1, u10.2.2.2))))) ∧ (¬ ((ni 1) < (20 : Int32)) → Q (-103 : Int32) (ni, f, t, a, b))))))) ∧ (r3 = 0 → Q (-102 : Int32) (ni, f, t, a, b)))))))
abbrev rmX10_need : Room := { frames := 5, cells := 0, slots := 0, locals := 130 }
set_option maxHeartbeats 4000000 in
set_option maxRecDepth 100000 in
theorem t_X10_need (l : Launch) (dC : Nat → ClassId) (dI : Nat → Nat → Nat) (adK : Nat → Nat) (adV : Nat → Nat) (cI : ClassId) (cB : ClassId) (cS : ClassId) (cY : ClassId) (np : Nat) (pg : Nat) (g : Nat) (q : Nat → Nat) (qb : Nat → Nat) (n : Nat) (k : Nat) (sz : Nat) (ni : Nat → Int32) (bv : Nat) (bm : Nat) (ml : Int32) (cn : Int32) (bt : Nat → Int32) (f : Nat → Int32) (t : Nat) (a : Nat → Nat → Int32) (b : Nat → Nat → Int32) (sg : Nat → Nat → Option Nat) (sL : List Nat) (sf : Nat → Nat → Int32)   (p0 : Int32) (p1 : Int32) (Q0 : Int32 → ((Nat → Int32) × (Nat → Int32) × (Nat) × (Nat → Nat → Int32) × (Nat → Nat → Int32)) → Prop) (hw : w_X10_need n k q ni bv bm ml cn bt f t a b sg sL sf  p0 p1 Q0) : Met l yX10_need wsX10_need rmX10_need (g_pre (cz adK adV) (dC, dI) vwCl [(cI, .int), (cB, .object RX0), (cS, .object RX7), (cY, .byte)] ((W_N adK adV cI cB cS cY np pg g q qb n k ni bv bm ml cn bt f t a b sg) ++ va_pl sL (sgF sf)) sz [.ref np, .int p0, .int p1]) (g_qi (dC, dI) vwCl [(cI, .int), (cB, .object RX0), (cS, .object RX7), (cY, .byte)] (fun u : ((Nat → Int32) × (Nat → Int32) × (Nat) × (Nat → Nat → Int32) × (Nat → Nat → Int32)) => ((W_N adK adV cI cB cS cY np pg g q qb n k (u.1) bv bm ml cn bt (u.2.1) (u.2.2.1) (u.2.2.2.1) (u.2.2.2.2) sg) ++ va_pl sL (sgF sf))) Q0 (va_A ((W_N adK adV cI cB cS cY np pg g q qb n k ni bv bm ml cn bt f t a b sg) ++ va_pl sL (sgF sf)) sz)) 0 0 (va_A ((W_N adK adV cI cB cS cY np pg g q qb n k ni bv bm ml cn bt f t a b sg) ++ va_pl sL (sgF sf)) sz) := by
  refine g_starti (by decide) rfl (Nat.le_of_ble_eq_true rfl) ?_
  intro p e s m args below meth c A Q ls hx hb hml hown hts hin hK hP hD hA hS hZ hret hl
  obtain ⟨H, eH⟩ : ∃ H : Heap, H = s.heap := ⟨_, rfl⟩
  obtain ⟨locs, eL⟩ : ∃ L : List Loc, L = [] := ⟨_, rfl⟩
  have hS : va_S A s.heap H locs := by rw [eH, eL]; exact hS
  rw [← eH] at hP
  suffices hg : W p l e rmX10_need s m args below meth c H locs 0 0 Q (F0 m 0 ls []) by rw [eH, eL] at hg; exact hg
  clear eH eL
  replace hl : lv_has ls 4 [(0, .ref np), (1, .int p0), (2, .int p1)] := hl
  have hf162 := hts (.fieldLink RX10 162 "NumberPile" "needs" "I") (by decide +kernel)
  have hiX10 : ∀ w ∈ u_ws RX10 TX10 6, w ∈ wsX10_need := fun w h => List.mem_cons_of_mem _ (List.mem_append_left _ (List.mem_append_left _ (List.mem_append_left _ (List.mem_append_right _ h))))
  have hf40 := hts (.fieldLink RX10 40 "NumberPile" "current" "LNumberPile$Pile;") (by decide +kernel)
  unfold w_X10_need at hw
  refine lv_iload_n hx hb dX10_need_0 rfl (lv_at hl 1 rfl) ?_
  refine lv_iconst (v := 0) hx hb dX10_need_1 (by decide) ?_
  refine lv_sipush (v := 999) hx hb dX10_need_2 (by decide) ?_
  refine g_c0 (rest := []) (va_runS (As := [.int p0, .int (0 : Int32), .int (999 : Int32)]) (rest := []) ⟨hx, hb, hml, hown, hts⟩ (t_X10_isWithin l  p0 (0 : Int32) (999 : Int32) _ hw) (va_cwS 3 hts gX10_need_X10_isWithin rfl rfl rfl (by decide +kernel) ⟨Nat.le_of_ble_eq_true rfl, Nat.le_of_ble_eq_true rfl⟩) g_p0S rfl rfl hl.1 rfl (lv_room (Nat.le_of_ble_eq_true rfl)) dX10_need_5 ⟨Nat.le_of_ble_eq_true rfl, Nat.le_of_ble_eq_true rfl⟩) (fun r1 hw => ?_)
  refine lv_if_eq (tgt := 20) hx hb dX10_need_8 (by decide) (fun hc2 => ?_) (fun hc2 => ?_)
  · replace hw := hw.1 hc2
    refine lv_bipush (v := -102) hx hb dX10_need_20 (by decide) ?_
    exact hret dX10_need_22 hK hP hD hS hw
  · replace hw := hw.2 hc2
    refine lv_iload_n hx hb dX10_need_11 rfl (lv_at hl 2 rfl) ?_
    refine lv_iconst (v := 0) hx hb dX10_need_12 (by decide) ?_
    refine lv_iconst (v := 1) hx hb dX10_need_13 (by decide) ?_
    refine g_c0 (rest := []) (va_runS (As := [.int p1, .int (0 : Int32), .int (1 : Int32)]) (rest := []) ⟨hx, hb, hml, hown, hts⟩ (t_X10_isWithin l  p1 (0 : Int32) (1 : Int32) _ hw) (va_cwS 3 hts gX10_need_X10_isWithin rfl rfl rfl (by decide +kernel) ⟨Nat.le_of_ble_eq_true rfl, Nat.le_of_ble_eq_true rfl⟩) g_p0S rfl rfl hl.1 rfl (lv_room (Nat.le_of_ble_eq_true rfl)) dX10_need_14 ⟨Nat.le_of_ble_eq_true rfl, Nat.le_of_ble_eq_true rfl⟩) (fun r3 hw => ?_)
    refine lv_if_ne (tgt := 23) hx hb dX10_need_17 (by decide) (fun hc4 => ?_) (fun hc4 => ?_)
    · replace hw := hw.1 hc4
      refine lv_aload_n hx hb dX10_need_23 rfl (lv_at hl 0 rfl) ?_
      refine g_ci (g_J.poolP (W2 := fun u5 : Unit => (W_N adK adV cI cB cS cY np pg g q qb n k ni bv bm ml cn bt f t a b sg)) (pl := va_pl sL (sgF sf)) (PL := fun u5 : Unit => va_pl sL (sgF sf)) (RX := fun u5 : Unit => (W_N adK adV cI cB cS cY np pg g q qb n k ni bv bm ml cn bt f t a b sg)) [] [0, 1, 2, 3, 4, 5, 6, 7, 8, 9, 10, 11, 12, 13, 14, 15, 16, 17, 18, 19, 20, 21, 22, 23, 24, 25, 26, 27, 28, 29, 30] [] [0, 1, 2, 3, 4, 5, 6, 7, 8, 9, 10, 11, 12, 13, 14, 15, 16, 17, 18, 19, 20, 21, 22, 23, 24, 25, 26, 27, 28, 29, 30] rfl (by decide) rfl (by decide) (by decide) (fun _ => rfl) (by decide)) [0, 1, 2, 3] hK hP hD hS hA rfl (fun hPc hDc hKc hFc => va_runV (As := []) (rest := []) ⟨hx, hb, hml, hown, hts⟩ (t_X10_hasPile l dC dI adK adV cI cB cS cY np pg g q qb n k H.size ni bv bm ml cn bt f t a b sg sL sf  _ hw) (cwV 0 hts gX10_need_X10_hasPile rfl rfl rfl (by decide +kernel) ⟨Nat.le_of_ble_eq_true rfl, Nat.le_of_ble_eq_true rfl⟩) (g_pV czb (q0 := 0) rfl rfl hPc hDc hKc (czc hZ hS hFc)) rfl rfl hl.1 rfl (lv_room (Nat.le_of_ble_eq_true rfl)) dX10_need_24 ⟨Nat.le_of_ble_eq_true rfl, Nat.le_of_ble_eq_true rfl⟩) (fun r6 u5 H locs hw hP hD hS => ?_)
      replace hP : va_P (dC, dI) vwCl ((W_N adK adV cI cB cS cY np pg g q qb n k ni bv bm ml cn bt f t a b sg) ++ va_pl sL (sgF sf)) H := hP
      replace hD : va_D A ((W_N adK adV cI cB cS cY np pg g q qb n k ni bv bm ml cn bt f t a b sg) ++ va_pl sL (sgF sf)) := hD
      refine lv_if_eq (tgt := 39) hx hb dX10_need_27 (by decide) (fun hc7 => ?_) (fun hc7 => ?_)
      · replace hw := hw.1 hc7
        refine lv_bipush (v := -103) hx hb dX10_need_39 (by decide) ?_
        exact hret dX10_need_41 hK hP hD hS hw
      · replace hw := hw.2 hc7
        refine lv_aload_n hx hb dX10_need_30 rfl (lv_at hl 0 rfl) ?_
        refine va_get (D := (dC, dI)) (ci := 12) (v := .int (ni 1)) (C := RX10) (T := TX10) (N := 6) hx hb hts hiX10 hown hK hP 0 rfl rfl 4 (by decide) hf162 (fun _ h9 => h9) rfl dX10_need_31 ?_
        refine lv_bipush (v := 20) hx hb dX10_need_34 (by decide) ?_
        refine lv_icmp_lt (tgt := 42) hx hb dX10_need_36 (by decide) (fun hc8 => ?_) (fun hc8 => ?_)
        · replace hw := hw.1 hc8
          refine lv_aload_n hx hb dX10_need_42 rfl (lv_at hl 0 rfl) ?_
          refine lv_dup hx hb dX10_need_43 rfl ?_
          refine va_get (D := (dC, dI)) (ci := 12) (v := .int (ni 1)) (C := RX10) (T := TX10) (N := 6) hx hb hts hiX10 hown hK hP 0 rfl rfl 4 (by decide) hf162 (fun _ h9 => h9) rfl dX10_need_44 ?_
          refine lv_iconst (v := 1) hx hb dX10_need_47 (by decide) ?_
          refine lv_iadd hx hb dX10_need_48 ?_
          refine lv_topi (fun x9 ex9 => ?_)
          replace hw := hw x9 ex9
          refine va_put (D := (dC, dI)) (ci := 12) (v := .int x9) (ty := (.int)) (C := RX10) (T := TX10) (N := 6) hx hb hts hiX10 tyX10 tyX10_ok nmX10 hown hK hP hD hS 0 rfl rfl 4 (by decide) hf162 (fun _ h9 => h9) rfl (by decide +kernel) rfl rfl (Nat.le_of_ble_eq_true rfl) dX10_need_49 (fun H locs hP hD hS => ?_)
          replace hP : va_P (dC, dI) vwCl ((W_N adK adV cI cB cS cY np pg g q qb n k (upd ni 1 x9) bv bm ml cn bt f t a b sg) ++ va_pl sL (sgF sf)) H := hP
          replace hD : va_D A ((W_N adK adV cI cB cS cY np pg g q qb n k (upd ni 1 x9) bv bm ml cn bt f t a b sg) ++ va_pl sL (sgF sf)) := hD
          refine lv_aload_n hx hb dX10_need_52 rfl (lv_at hl 0 rfl) ?_
          refine va_get (D := (dC, dI)) (ci := 12) (v := .ref (q 0)) (C := RX10) (T := TX10) (N := 6) hx hb hts hiX10 hown hK hP 0 rfl rfl 2 (by decide) hf40 (fun _ h9 => h9) rfl dX10_need_53 ?_
          refine lv_iload_n hx hb dX10_need_56 rfl (lv_at hl 1 rfl) ?_
          refine g_ci (g_J.poolP (W2 := fun u10 : ((Nat → Int32) × (Nat) × (Nat → Nat → Int32) × (Nat → Nat → Int32)) => (W_N adK adV cI cB cS cY np pg g q qb n k (upd ni 1 x9) bv bm ml cn bt (u10.1) (u10.2.1) (u10.2.2.1) (u10.2.2.2) sg)) (pl := va_pl sL (sgF sf)) (PL := fun u10 : ((Nat → Int32) × (Nat) × (Nat → Nat → Int32) × (Nat → Nat → Int32)) => va_pl sL (sgF sf)) (RX := fun u10 : ((Nat → Int32) × (Nat) × (Nat → Nat → Int32) × (Nat → Nat → Int32)) => (W_P adK adV cI cB cS q qb n k (u10.1) (u10.2.1) (u10.2.2.1) (u10.2.2.2) sg)) [(np, .inr (12, [.ref (q 1), .ref pg, .ref (q 0), .int (ni 0), .int x9, .int (ni 2)])), (pg, .inr (6, [.ref g])), (g, .inr (1, [.ref bv, .int (0 : Int32), .int ml, .int cn])), (bv, .inl (cY, bm, .inl bt))] [4, 5, 6, 7, 8, 9, 10, 11, 12, 13, 14, 15, 16, 17, 18, 19, 20, 21, 22, 23, 24, 25, 26, 27, 28, 29, 30] [0, 1, 2, 3] [0, 1, 2, 3, 4, 5, 6, 7, 8, 9, 10, 11, 12, 13, 14, 15, 16, 17, 18, 19, 20, 21, 22, 23, 24, 25, 26, 27, 28, 29, 30] rfl (by decide) rfl (by decide) (by decide) (fun _ => rfl) (by decide)) [0, 1, 2] hK hP hD hS hA rfl (fun hPc hDc hKc hFc => va_runV (As := [.int p0]) (rest := []) ⟨hx, hb, hml, hown, hts⟩ (t_X5_nearestWithTop l dC dI adK adV cI cB cS q qb n k H.size f t a b sg sL sf p0 _ hw) (cwV 1 hts gX10_need_X5_nearestWithTop rfl rfl rfl (by decide +kernel) ⟨Nat.le_of_ble_eq_true rfl, Nat.le_of_ble_eq_true rfl⟩) (g_pV czb (q0 := 0) rfl rfl hPc hDc hKc (czc hZ hS hFc)) rfl rfl hl.1 rfl (lv_room (Nat.le_of_ble_eq_true rfl)) dX10_need_57 ⟨Nat.le_of_ble_eq_true rfl, Nat.le_of_ble_eq_true rfl⟩) (fun r11 u10 H locs hw hP hD hS => ?_)
          replace hP : va_P (dC, dI) vwCl ((W_N adK adV cI cB cS cY np pg g q qb n k (upd ni 1 x9) bv bm ml cn bt (u10.1) (u10.2.1) (u10.2.2.1) (u10.2.2.2) sg) ++ va_pl sL (sgF sf)) H := hP
          replace hD : va_D A ((W_N adK adV cI cB cS cY np pg g q qb n k (upd ni 1 x9) bv bm ml cn bt (u10.1) (u10.2.1) (u10.2.2.1) (u10.2.2.2) sg) ++ va_pl sL (sgF sf)) := hD
          refine lv_istore_n (lv' := [(3, .int r11), (0, .ref np), (1, .int p0), (2, .int p1)]) hx hb dX10_need_60 rfl hl (by decide) rfl (fun ls hl => ?_)
          refine lv_iload_n hx hb dX10_need_61 rfl (lv_at hl 0 rfl) ?_
          refine lv_iconst (v := -1) hx hb dX10_need_62 (by decide) ?_
          refine lv_icmp_ne (tgt := 68) hx hb dX10_need_63 (by decide) (fun hc12 => ?_) (fun hc12 => ?_)
          · replace hw := hw.1 hc12
            refine lv_iload_n hx hb dX10_need_68 rfl (lv_at hl 3 rfl) ?_
            refine lv_if_ne (tgt := 80) hx hb dX10_need_69 (by decide) (fun hc13 => ?_) (fun hc13 => ?_)
            · replace hw := hw.1 hc13
              refine lv_iload_n hx hb dX10_need_80 rfl (lv_at hl 0 rfl) ?_
              refine lv_sipush (v := 10000) hx hb dX10_need_81 (by decide) ?_
              refine lv_irem hx hb dX10_need_84 (by decide) ?_
              exact hret dX10_need_85 hK hP hD hS hw
            · replace hw := hw.2 hc13
              refine lv_iload_n hx hb dX10_need_72 rfl (lv_at hl 0 rfl) ?_
              refine lv_sipush (v := 10000) hx hb dX10_need_73 (by decide) ?_
              refine lv_idiv hx hb dX10_need_76 (by decide) ?_
              refine lv_goto (tgt := 85) hx hb dX10_need_77 (by decide) ?_
              exact hret dX10_need_85 hK hP hD hS hw
          · replace hw := hw.2 hc12
            refine lv_iconst (v := -1) hx hb dX10_need_66 (by decide) ?_
            exact hret dX10_need_67 hK hP hD hS hw
        · replace hw := hw.2 hc8
          refine lv_bipush (v := -103) hx hb dX10_need_39 (by decide) ?_
          exact hret dX10_need_41 hK hP hD hS hw
    · replace hw := hw.2 hc4
      refine lv_bipush (v := -102) hx hb dX10_need_20 (by decide) ?_
      exact hret dX10_need_22 hK hP hD hS hw

def w_X10_digest (n : Nat) (k : Nat) (q : Nat → Nat) (ni : Nat → Int32) (bv : Nat) (bm : Nat) (ml : Int32) (cn : Int32) (bt : Nat → Int32) (f : Nat → Int32) (t : Nat) (a : Nat → Nat → Int32) (b : Nat → Nat → Int32) (sg : Nat → Nat → Option Nat) (sL : List Nat) (sf : Nat → Nat → Int32)   (Q : Int64 → ((Nat → Int32) × (Nat) × (Nat → Nat → Int32)) → Prop) : Prop := (∀ X3 : Int64 → Int32 → Prop, (∀ (x1 : Int64) (x2 : Int32), (((((nI k) ≤ x2) → (∀ X10 : Int64 → Int32 → (Nat → Int32) → (Nat) → (Nat → Nat → Int32) → Prop, (∀ (x5 : Int64) (x6 : Int32) (fv7 : (Nat → Int32)) (tv8 : (Nat)) (av9 : (Nat → Nat → Int32)), (((((nI n) ≤ x6) → w_X10_hasPile n k q ni bv bm ml cn bt fv7 tv8 av9 b sg sL sf  (fun (r13 : Int32) (u12 : Unit) => ∀ J18 : Int64 → (Nat → Int32) → (Nat) → (Nat → Nat → Int32) → Prop, (∀ (x14 : Int64) (fv15 : (Nat → Int32)) (tv16 : (Nat)) (av17 : (Nat → Nat → Int32)), ((∀ X21 : Int64 → Int32 → Prop, (∀ (x19 : Int64) (x20 : Int32), (w_X4_length bv bm ml cn bt   (fun (r23 : Int32) (u22 : Unit) => (((r23 ≤ x20) → (∀ X27 : Int64 → Int32 → Prop, (∀ (x25 : Int64) (x26 : Int32), (((((12 : Int32) ≤ x26) → Q x25 (fv15, tv16, av17)) ∧ (¬ ((12 : Int32) ≤ x26) → w_X10_count n k q ni bv bm ml cn bt fv15 tv16 av17 b sg sL sf x26 (fun (r30 : Int32) (u29 : Unit) => ∀ x31 : Int64, x31 = (((31 : Int64) * x25) + (r30.toInt64)) → ∀ x32 : Int32, x32 = x26 + (1 : Int32) → X27 x31 x32)))) → X27 x25 x26) → X27 x19 (0 : Int32))) ∧ (¬ (r23 ≤ x20) → w_X4_letterAt bv bm ml cn bt  x20 (fun (r34 : Int32) (u33 : Unit) => ∀ x35 : Int64, x35 = (((31 : Int64) * x19) + (r34.toInt64)) → ∀ x36 : Int32, x36 = x20 + (1 : Int32) → X21 x35 x36))))) → X21 x19 x20) → X21 x14 (0 : Int32))) → J18 x14 fv15 tv16 av17) → (((r13 = 0) → J18 x5 fv7 tv8 av9) ∧ (¬ (r13 = 0) → w_X10_order n k q ni bv bm ml cn bt fv7 tv8 av9 b sg sL sf (0 : Int32) (fun (r39 : Int32) (u38 : ((Nat → Nat → Int32))) => ∀ x40 : Int64, x40 = (((31 : Int64) * x5) + (r39.toInt64)) → w_X10_order n k q ni bv bm ml cn bt fv7 tv8 u38 b sg sL sf (1 : Int32) (fun (r42 : Int32) (u41 : ((Nat → Nat → Int32))) => ∀ x43 : Int64, x43 = (((31 : Int64) * x40) + (r42.toInt64)) → w_X10_left n k q ni bv bm ml cn bt fv7 tv8 u41 b sg sL sf  (fun (r45 : Int32) (u44 : ((Nat → Int32) × (Nat) × (Nat → Nat → Int32))) => ∀ x46 : Int64, x46 = (((31 : Int64) * x43) + (r45.toInt64)) → w_X10_fits n k q ni bv bm ml cn bt (u44.1) (u44.2.1) (u44.2.2) b sg sL sf (0 : Int32) (fun (r48 : Int32) (u47 : ((Nat → Int32) × (Nat) × (Nat → Nat → Int32))) => ∀ x49 : Int64, x49 = (((31 : Int64) * x46) + (r48.toInt64)) → J18 x49 (u47.1) (u47.2.1) (u47.2.2))))))))) ∧ (¬ ((nI n) ≤ x6) → w_X10_swing n k q ni bv bm ml cn bt fv7 tv8 av9 b sg sL sf x6 (fun (r51 : Int32) (u50 : ((Nat → Nat → Int32))) => ∀ x52 : Int64, x52 = (((31 : Int64) * x5) + (r51.toInt64)) → w_X10_odds n k q ni bv bm ml cn bt fv7 tv8 u50 b sg sL sf x6 (3 : Int32) (0 : Int32) (fun (r54 : Int32) (u53 : ((Nat → Int32) × (Nat) × (Nat → Nat → Int32))) => ∀ x55 : Int64, x55 = (((31 : Int64) * x52) + (r54.toInt64)) → w_X10_odds n k q ni bv bm ml cn bt (u53.1) (u53.2.1) (u53.2.2) b sg sL sf x6 (3 : Int32) (1 : Int32) (fun (r57 : Int32) (u56 : ((Nat → Int32) × (Nat) × (Nat → Nat → Int32))) => ∀ x58 : Int64, x58 = (((31 : Int64) * x55) + (r57.toInt64)) → ∀ x59 : Int32, x59 = x6 + (1 : Int32) → X10 x58 x59 (u56.1) (u56.2.1) (u56.2.2))))))) → X10 x5 x6 fv7 tv8 av9) → X10 x1 (0 : Int32) f t a)) ∧ (¬ ((nI k) ≤ x2) → (∀ X62 : Int64 → Int32 → Prop, (∀ (x60 : Int64) (x61 : Int32), (((((7 : Int32) ≤ x61) → ∀ x64 : Int32, x64 = x2 + (1 : Int32) → X3 x60 x64) ∧ (¬ ((7 : Int32) ≤ x61) → w_X10_brick n k q ni bv bm ml cn bt f t a b sg sL sf x2 x61 (fun (r66 : Int32) (u65 : Unit) => ∀ x67 : Int64, x67 = (((31 : Int64) * x60) + (r66.toInt64)) → ∀ x68 : Int32, x68 = x61 + (1 : Int32) → X62 x67 x68)))) → X62 x60 x61) → X62 x1 (0 : Int32))))) → X3 x1 x2) → X3 (1327 : Int64) (0 : Int32))
abbrev rmX10_digest : Room := { frames := 11, cells := 0, slots := 0, locals := 270 }
set_option maxHeartbeats 4000000 in
set_option maxRecDepth 100000 in
theorem t_X10_digest (l : Launch) (dC : Nat → ClassId) (dI : Nat → Nat → Nat) (adK : Nat → Nat) (adV : Nat → Nat) (cI : ClassId) (cB : ClassId) (cS : ClassId) (cY : ClassId) (np : Nat) (pg : Nat) (g : Nat) (q : Nat → Nat) (qb : Nat → Nat) (n : Nat) (k : Nat) (sz : Nat) (ni : Nat → Int32) (bv : Nat) (bm : Nat) (ml : Int32) (cn : Int32) (bt : Nat → Int32) (f : Nat → Int32) (t : Nat) (a : Nat → Nat → Int32) (b : Nat → Nat → Int32) (sg : Nat → Nat → Option Nat) (sL : List Nat) (sf : Nat → Nat → Int32)    (Q0 : Int64 → ((Nat → Int32) × (Nat) × (Nat → Nat → Int32)) → Prop) (hw : w_X10_digest n k q ni bv bm ml cn bt f t a b sg sL sf   Q0) : Met l yX10_digest wsX10_digest rmX10_digest (g_pre (cz adK adV) (dC, dI) vwCl [(cI, .int), (cB, .object RX0), (cS, .object RX7), (cY, .byte)] ((W_N adK adV cI cB cS cY np pg g q qb n k ni bv bm ml cn bt f t a b sg) ++ va_pl sL (sgF sf)) sz [.ref np]) (g_ql (dC, dI) vwCl [(cI, .int), (cB, .object RX0), (cS, .object RX7), (cY, .byte)] (fun u : ((Nat → Int32) × (Nat) × (Nat → Nat → Int32)) => ((W_N adK adV cI cB cS cY np pg g q qb n k ni bv bm ml cn bt (u.1) (u.2.1) (u.2.2) b sg) ++ va_pl sL (sgF sf))) Q0 (va_A ((W_N adK adV cI cB cS cY np pg g q qb n k ni bv bm ml cn bt f t a b sg) ++ va_pl sL (sgF sf)) sz)) 0 0 (va_A ((W_N adK adV cI cB cS cY np pg g q qb n k ni bv bm ml cn bt f t a b sg) ++ va_pl sL (sgF sf)) sz) := by
  refine g_startl (by decide) rfl (Nat.le_of_ble_eq_true rfl) ?_
  intro p e s m args below meth c A Q ls hx hb hml hown hts hin hK hP hD hA hS hZ hret hl
  obtain ⟨H, eH⟩ : ∃ H : Heap, H = s.heap := ⟨_, rfl⟩
  obtain ⟨locs, eL⟩ : ∃ L : List Loc, L = [] := ⟨_, rfl⟩
  have hS : va_S A s.heap H locs := by rw [eH, eL]; exact hS
  rw [← eH] at hP
  suffices hg : W p l e rmX10_digest s m args below meth c H locs 0 0 Q (F0 m 0 ls []) by rw [eH, eL] at hg; exact hg
  clear eH eL
  replace hl : lv_has ls 5 [(0, .ref np)] := hl
  have kc230 := hts (.constantLong RX10 230 (1327)) (by decide +kernel)
  have hf40 := hts (.fieldLink RX10 40 "NumberPile" "current" "LNumberPile$Pile;") (by decide +kernel)
  have hiX10 : ∀ w ∈ u_ws RX10 TX10 6, w ∈ wsX10_digest := fun w h => List.mem_cons_of_mem _ (List.mem_append_left _ (List.mem_append_left _ (List.mem_append_left _ (List.mem_append_left _ (List.mem_append_left _ (List.mem_append_left _ (List.mem_append_right _ h)))))))
  have nf81 := va_Nw.use (A := args) rfl (hZ.1 _ (List.mem_of_getElem? (i := 7) (rfl : cz_nest[7]? = some (.fieldLinkNest RX10 81 "NumberPile$Pile" "size" "I" "NumberPile"))))
  have hiX5 : ∀ w ∈ u_ws RX5 TX5 15, w ∈ wsX10_digest := fun w h => List.mem_cons_of_mem _ (List.mem_append_left _ (List.mem_append_left _ (List.mem_append_left _ (List.mem_append_left _ (List.mem_append_left _ (List.mem_append_right _ h))))))
  have nf216 := va_Nw.use (A := args) rfl (hZ.1 _ (List.mem_of_getElem? (i := 17) (rfl : cz_nest[17]? = some (.fieldLinkNest RX10 216 "NumberPile$Pile" "wide" "I" "NumberPile"))))
  have hf31 := hts (.fieldLink RX10 31 "NumberPile" "page" "LNumberPile$Page;") (by decide +kernel)
  have kc232 := hts (.constantLong RX10 232 (31)) (by decide +kernel)
  unfold w_X10_digest at hw
  refine lv_ldc2 hx hb hown kc230 dX10_digest_0 ?_
  refine lv_lstore_n (lv' := [(1, .long (1327 : Int64)), (0, .ref np)]) hx hb dX10_digest_3 rfl hl (by decide) rfl (fun ls hl => ?_)
  refine lv_iconst (v := 0) hx hb dX10_digest_4 (by decide) ?_
  refine lv_istore_n (lv' := [(3, .int (0 : Int32)), (1, .long (1327 : Int64)), (0, .ref np)]) hx hb dX10_digest_5 rfl hl (by decide) rfl (fun ls hl => ?_)
  refine hw (fun (x1 : Int64) (x2 : Int32) => ∀ (H : Heap) (locs : List Loc) (ls : Array Slot), va_P (dC, dI) vwCl ((W_N adK adV cI cB cS cY np pg g q qb n k ni bv bm ml cn bt f t a b sg) ++ va_pl sL (sgF sf)) H → va_D A ((W_N adK adV cI cB cS cY np pg g q qb n k ni bv bm ml cn bt f t a b sg) ++ va_pl sL (sgF sf)) → va_S A s.heap H locs → lv_has ls 5 [(0, .ref np), (1, .long x1), (3, .int x2)] → W p l e rmX10_digest s m args below meth c H locs 0 0 Q (F0 m 6 ls [])) ?_ H locs ls hP hD hS (lv_sub hl [2, 1, 0] rfl)
  · intro x1 x2 hw H locs ls hP hD hS hl
    refine lv_iload_n hx hb dX10_digest_6 rfl (lv_at hl 2 rfl) ?_
    refine lv_aload_n hx hb dX10_digest_7 rfl (lv_at hl 0 rfl) ?_
    refine va_get (D := (dC, dI)) (ci := 12) (v := .ref (q 0)) (C := RX10) (T := TX10) (N := 6) hx hb hts hiX10 hown hK hP 0 rfl rfl 2 (by decide) hf40 (fun _ h9 => h9) rfl dX10_digest_8 ?_
    refine va_getN (D := (dC, dI)) (ci := 7) (v := .int (nI k)) (C := RX5) (T := TX5) (N := 15) hx hb hts hiX5 hown hK hP 4 rfl rfl 1 (by decide) nf81 (fun _ h9 => h9) rfl dX10_digest_11 ?_
    refine lv_icmp_ge (tgt := 54) hx hb dX10_digest_14 (by decide) (fun hc4 => ?_) (fun hc4 => ?_)
    · replace hw := hw.1 hc4
      refine lv_iconst (v := 0) hx hb dX10_digest_54 (by decide) ?_
      refine lv_istore_n (lv' := [(3, .int (0 : Int32)), (0, .ref np), (1, .long x1)]) hx hb dX10_digest_55 rfl hl (by decide) rfl (fun ls hl => ?_)
      refine hw (fun (x5 : Int64) (x6 : Int32) (fv7 : (Nat → Int32)) (tv8 : (Nat)) (av9 : (Nat → Nat → Int32)) => ∀ (H : Heap) (locs : List Loc) (ls : Array Slot), va_P (dC, dI) vwCl ((W_N adK adV cI cB cS cY np pg g q qb n k ni bv bm ml cn bt fv7 tv8 av9 b sg) ++ va_pl sL (sgF sf)) H → va_D A ((W_N adK adV cI cB cS cY np pg g q qb n k ni bv bm ml cn bt fv7 tv8 av9 b sg) ++ va_pl sL (sgF sf)) → va_S A s.heap H locs → lv_has ls 5 [(0, .ref np), (1, .long x5), (3, .int x6)] → W p l e rmX10_digest s m args below meth c H locs 0 0 Q (F0 m 56 ls [])) ?_ H locs ls hP hD hS (lv_sub hl [1, 2, 0] rfl)
      · intro x5 x6 fv7 tv8 av9 hw H locs ls hP hD hS hl
        refine lv_iload_n hx hb dX10_digest_56 rfl (lv_at hl 2 rfl) ?_
        refine lv_aload_n hx hb dX10_digest_57 rfl (lv_at hl 0 rfl) ?_
        refine va_get (D := (dC, dI)) (ci := 12) (v := .ref (q 0)) (C := RX10) (T := TX10) (N := 6) hx hb hts hiX10 hown hK hP 0 rfl rfl 2 (by decide) hf40 (fun _ h9 => h9) rfl dX10_digest_58 ?_
        refine va_getN (D := (dC, dI)) (ci := 7) (v := .int (nI n)) (C := RX5) (T := TX5) (N := 15) hx hb hts hiX5 hown hK hP 4 rfl rfl 0 (by decide) nf216 (fun _ h9 => h9) rfl dX10_digest_61 ?_
        refine lv_icmp_ge (tgt := 116) hx hb dX10_digest_64 (by decide) (fun hc11 => ?_) (fun hc11 => ?_)
        · replace hw := hw.1 hc11
          refine lv_aload_n hx hb dX10_digest_116 rfl (lv_at hl 0 rfl) ?_
          refine g_ci (g_J.poolP (W2 := fun u12 : Unit => (W_N adK adV cI cB cS cY np pg g q qb n k ni bv bm ml cn bt fv7 tv8 av9 b sg)) (pl := va_pl sL (sgF sf)) (PL := fun u12 : Unit => va_pl sL (sgF sf)) (RX := fun u12 : Unit => (W_N adK adV cI cB cS cY np pg g q qb n k ni bv bm ml cn bt fv7 tv8 av9 b sg)) [] [0, 1, 2, 3, 4, 5, 6, 7, 8, 9, 10, 11, 12, 13, 14, 15, 16, 17, 18, 19, 20, 21, 22, 23, 24, 25, 26, 27, 28, 29, 30] [] [0, 1, 2, 3, 4, 5, 6, 7, 8, 9, 10, 11, 12, 13, 14, 15, 16, 17, 18, 19, 20, 21, 22, 23, 24, 25, 26, 27, 28, 29, 30] rfl (by decide) rfl (by decide) (by decide) (fun _ => rfl) (by decide)) [0, 1, 2, 3] hK hP hD hS hA rfl (fun hPc hDc hKc hFc => va_runV (As := []) (rest := []) ⟨hx, hb, hml, hown, hts⟩ (t_X10_hasPile l dC dI adK adV cI cB cS cY np pg g q qb n k H.size ni bv bm ml cn bt fv7 tv8 av9 b sg sL sf  _ hw) (cwV 0 hts gX10_digest_X10_hasPile rfl rfl rfl (by decide +kernel) ⟨Nat.le_of_ble_eq_true rfl, Nat.le_of_ble_eq_true rfl⟩) (g_pV czb (q0 := 0) rfl rfl hPc hDc hKc (czc hZ hS hFc)) rfl rfl hl.1 rfl (lv_room (Nat.le_of_ble_eq_true rfl)) dX10_digest_117 ⟨Nat.le_of_ble_eq_true rfl, Nat.le_of_ble_eq_true rfl⟩) (fun r13 u12 H locs hw hP hD hS => ?_)
          replace hP : va_P (dC, dI) vwCl ((W_N adK adV cI cB cS cY np pg g q qb n k ni bv bm ml cn bt fv7 tv8 av9 b sg) ++ va_pl sL (sgF sf)) H := hP
          replace hD : va_D A ((W_N adK adV cI cB cS cY np pg g q qb n k ni bv bm ml cn bt fv7 tv8 av9 b sg) ++ va_pl sL (sgF sf)) := hD
          replace hw := hw (fun (x14 : Int64) (fv15 : (Nat → Int32)) (tv16 : (Nat)) (av17 : (Nat → Nat → Int32)) => ∀ (H : Heap) (locs : List Loc) (ls : Array Slot), va_P (dC, dI) vwCl ((W_N adK adV cI cB cS cY np pg g q qb n k ni bv bm ml cn bt fv15 tv16 av17 b sg) ++ va_pl sL (sgF sf)) H → va_D A ((W_N adK adV cI cB cS cY np pg g q qb n k ni bv bm ml cn bt fv15 tv16 av17 b sg) ++ va_pl sL (sgF sf)) → va_S A s.heap H locs → lv_has ls 5 [(0, .ref np), (1, .long x14)] → W p l e rmX10_digest s m args below meth c H locs 0 0 Q (F0 m 174 ls [])) (by
            intro x14 fv15 tv16 av17 hw H locs ls hP hD hS hl
            refine lv_iconst (v := 0) hx hb dX10_digest_174 (by decide) ?_
            refine lv_istore_n (lv' := [(3, .int (0 : Int32)), (0, .ref np), (1, .long x14)]) hx hb dX10_digest_175 rfl hl (by decide) rfl (fun ls hl => ?_)
            refine hw (fun (x19 : Int64) (x20 : Int32) => ∀ (H : Heap) (locs : List Loc) (ls : Array Slot), va_P (dC, dI) vwCl ((W_N adK adV cI cB cS cY np pg g q qb n k ni bv bm ml cn bt fv15 tv16 av17 b sg) ++ va_pl sL (sgF sf)) H → va_D A ((W_N adK adV cI cB cS cY np pg g q qb n k ni bv bm ml cn bt fv15 tv16 av17 b sg) ++ va_pl sL (sgF sf)) → va_S A s.heap H locs → lv_has ls 5 [(0, .ref np), (1, .long x19), (3, .int x20)] → W p l e rmX10_digest s m args below meth c H locs 0 0 Q (F0 m 176 ls [])) ?_ H locs ls hP hD hS (lv_sub hl [1, 2, 0] rfl)
            · intro x19 x20 hw H locs ls hP hD hS hl
              refine lv_iload_n hx hb dX10_digest_176 rfl (lv_at hl 2 rfl) ?_
              refine lv_aload_n hx hb dX10_digest_177 rfl (lv_at hl 0 rfl) ?_
              refine va_get (D := (dC, dI)) (ci := 12) (v := .ref pg) (C := RX10) (T := TX10) (N := 6) hx hb hts hiX10 hown hK hP 0 rfl rfl 1 (by decide) hf31 (fun _ h9 => h9) rfl dX10_digest_178 ?_
              refine g_ci (g_J.poolQ (W2 := fun u22 : Unit => (W_N adK adV cI cB cS cY np pg g q qb n k ni bv bm ml cn bt fv15 tv16 av17 b sg)) (pl := va_pl sL (sgF sf)) [(np, .inr (12, [.ref (q 1), .ref pg, .ref (q 0), .int (ni 0), .int (ni 1), .int (ni 2)])), ((q 0), .inr (7, [.int (nI n), .int (nI k), .ref (q 1), .ref (q 2), .ref (q 3), .ref (q 8), .int (fv15 0), .ref (q 13), .ref (q 14), .ref (q 15), .ref (q 18), .ref (q 21), .int (fv15 1), .ref (q 17), .int (fv15 2)])), ((q 1), .inl (cB, (5), .inr (.inr (.inr (.inr (fun i => (kAll i).map qb)))))), ((q 2), .inl (cI, k, .inl (av17 0))), ((q 3), .inr (10, [.ref (q 4), .ref (q 5), .ref (q 6), .ref (q 7), .int (fv15 3), .int (fv15 4)])), ((q 4), .inl (cI, (k - n), .inl (b 0))), ((q 5), .inl (cI, n, .inl (av17 1))), ((q 6), .inl (cI, k, .inl (av17 2))), ((q 7), .inl (cS, (6), .inr (.inr (.inr (.inr (sg 0)))))), ((q 8), .inr (10, [.ref (q 9), .ref (q 10), .ref (q 11), .ref (q 12), .int (fv15 5), .int (fv15 6)])), ((q 9), .inl (cI, (k - n), .inl (b 1))), ((q 10), .inl (cI, n, .inl (av17 3))), ((q 11), .inl (cI, k, .inl (av17 4))), ((q 12), .inl (cS, (6), .inr (.inr (.inr (.inr (sg 1)))))), ((q 13), .inl (cI, k, .inl (av17 5))), ((q 14), .inl (cI, k, .inl (av17 6))), ((q 15), .inr (8, [.int (nI n), .ref (q 1), .ref (q 4), .ref (q 16), .ref tv16, .int (fv15 7)])), ((q 16), .inl (cI, k, .inl (av17 8))), ((q 17), .inl (cI, (10 * n), .inl (av17 7))), ((q 18), .inr (14, [.ref (q 19), .ref (q 20)])), ((q 19), .inl (cI, (k + 1), .inl (b 2))), ((q 20), .inl (cI, (toL n), .inl (b 3))), ((q 21), .inl (cI, k, .inl (b 4))), ((qb 0), .inr (2, [])), ((qb 1), .inr (3, [])), ((qb 2), .inr (5, [])), ((qb 3), .inr (11, [])), ((qb 4), .inr (4, []))] [1, 2, 3] [0, 4, 5, 6, 7, 8, 9, 10, 11, 12, 13, 14, 15, 16, 17, 18, 19, 20, 21, 22, 23, 24, 25, 26, 27, 28, 29, 30] [0, 28, 29, 30, 1, 2, 3, 4, 5, 6, 7, 8, 9, 10, 11, 12, 13, 14, 15, 16, 17, 18, 19, 20, 21, 22, 23, 24, 25, 26, 27] rfl (by decide) rfl (by decide) (by decide) (fun _ => rfl) (by decide)) [3] hK hP hD hS hA rfl (fun hPc hDc hKc hFc => va_runV (As := []) (rest := [.int x20]) ⟨hx, hb, hml, hown, hts⟩ (t_X4_length l dC dI adK adV cY pg g H.size bv bm ml cn bt   _ hw) (cwV 0 hts gX10_digest_X4_length rfl rfl rfl (by decide +kernel) ⟨Nat.le_of_ble_eq_true rfl, Nat.le_of_ble_eq_true rfl⟩) (g_pV czb (q0 := 0) rfl rfl hPc hDc hKc (czc hZ hS hFc)) rfl rfl hl.1 rfl (lv_room (Nat.le_of_ble_eq_true rfl)) dX10_digest_181 ⟨Nat.le_of_ble_eq_true rfl, Nat.le_of_ble_eq_true rfl⟩) (fun r23 u22 H locs hw hP hD hS => ?_)
              replace hP : va_P (dC, dI) vwCl ((W_N adK adV cI cB cS cY np pg g q qb n k ni bv bm ml cn bt fv15 tv16 av17 b sg) ++ va_pl sL (sgF sf)) H := hP
              replace hD : va_D A ((W_N adK adV cI cB cS cY np pg g q qb n k ni bv bm ml cn bt fv15 tv16 av17 b sg) ++ va_pl sL (sgF sf)) := hD
              refine lv_icmp_ge (tgt := 209) hx hb dX10_digest_184 (by decide) (fun hc24 => ?_) (fun hc24 => ?_)
              · replace hw := hw.1 hc24
                refine lv_iconst (v := 0) hx hb dX10_digest_209 (by decide) ?_
                refine lv_istore_n (lv' := [(3, .int (0 : Int32)), (0, .ref np), (1, .long x19)]) hx hb dX10_digest_210 rfl hl (by decide) rfl (fun ls hl => ?_)
                refine hw (fun (x25 : Int64) (x26 : Int32) => ∀ (H : Heap) (locs : List Loc) (ls : Array Slot), va_P (dC, dI) vwCl ((W_N adK adV cI cB cS cY np pg g q qb n k ni bv bm ml cn bt fv15 tv16 av17 b sg) ++ va_pl sL (sgF sf)) H → va_D A ((W_N adK adV cI cB cS cY np pg g q qb n k ni bv bm ml cn bt fv15 tv16 av17 b sg) ++ va_pl sL (sgF sf)) → va_S A s.heap H locs → lv_has ls 5 [(0, .ref np), (1, .long x25), (3, .int x26)] → W p l e rmX10_digest s m args below meth c H locs 0 0 Q (F0 m 211 ls [])) ?_ H locs ls hP hD hS (lv_sub hl [1, 2, 0] rfl)
                · intro x25 x26 hw H locs ls hP hD hS hl
                  refine lv_iload_n hx hb dX10_digest_211 rfl (lv_at hl 2 rfl) ?_
                  refine lv_bipush (v := 12) hx hb dX10_digest_212 (by decide) ?_
                  refine lv_icmp_ge (tgt := 236) hx hb dX10_digest_214 (by decide) (fun hc28 => ?_) (fun hc28 => ?_)
                  · replace hw := hw.1 hc28
                    refine lv_lload_n hx hb dX10_digest_236 rfl (lv_at hl 1 rfl) ?_
                    exact hret dX10_digest_237 hK hP hD hS hw
                  · replace hw := hw.2 hc28
                    refine lv_ldc2 hx hb hown kc232 dX10_digest_217 ?_
                    refine lv_lload_n hx hb dX10_digest_220 rfl (lv_at hl 1 rfl) ?_
                    refine lv_lmul hx hb dX10_digest_221 ?_
                    refine lv_aload_n hx hb dX10_digest_222 rfl (lv_at hl 0 rfl) ?_
                    refine lv_iload_n hx hb dX10_digest_223 rfl (lv_at hl 2 rfl) ?_
                    refine g_ci (g_J.poolP (W2 := fun u29 : Unit => (W_N adK adV cI cB cS cY np pg g q qb n k ni bv bm ml cn bt fv15 tv16 av17 b sg)) (pl := va_pl sL (sgF sf)) (PL := fun u29 : Unit => va_pl sL (sgF sf)) (RX := fun u29 : Unit => (W_N adK adV cI cB cS cY np pg g q qb n k ni bv bm ml cn bt fv15 tv16 av17 b sg)) [] [0, 1, 2, 3, 4, 5, 6, 7, 8, 9, 10, 11, 12, 13, 14, 15, 16, 17, 18, 19, 20, 21, 22, 23, 24, 25, 26, 27, 28, 29, 30] [] [0, 1, 2, 3, 4, 5, 6, 7, 8, 9, 10, 11, 12, 13, 14, 15, 16, 17, 18, 19, 20, 21, 22, 23, 24, 25, 26, 27, 28, 29, 30] rfl (by decide) rfl (by decide) (by decide) (fun _ => rfl) (by decide)) [0, 1, 2, 3] hK hP hD hS hA rfl (fun hPc hDc hKc hFc => va_runV (As := [.int x26]) (rest := [.long ((31 : Int64) * x25)]) ⟨hx, hb, hml, hown, hts⟩ (t_X10_count l dC dI adK adV cI cB cS cY np pg g q qb n k H.size ni bv bm ml cn bt fv15 tv16 av17 b sg sL sf x26 _ hw) (cwV 1 hts gX10_digest_X10_count rfl rfl rfl (by decide +kernel) ⟨Nat.le_of_ble_eq_true rfl, Nat.le_of_ble_eq_true rfl⟩) (g_pV czb (q0 := 0) rfl rfl hPc hDc hKc (czc hZ hS hFc)) rfl rfl hl.1 rfl (lv_room (Nat.le_of_ble_eq_true rfl)) dX10_digest_224 ⟨Nat.le_of_ble_eq_true rfl, Nat.le_of_ble_eq_true rfl⟩) (fun r30 u29 H locs hw hP hD hS => ?_)
                    replace hP : va_P (dC, dI) vwCl ((W_N adK adV cI cB cS cY np pg g q qb n k ni bv bm ml cn bt fv15 tv16 av17 b sg) ++ va_pl sL (sgF sf)) H := hP
                    replace hD : va_D A ((W_N adK adV cI cB cS cY np pg g q qb n k ni bv bm ml cn bt fv15 tv16 av17 b sg) ++ va_pl sL (sgF sf)) := hD
                    refine lv_i2l hx hb dX10_digest_227 rfl ?_
                    refine lv_ladd hx hb dX10_digest_228 ?_
                    refine lv_topl (fun x31 ex31 => ?_)
                    replace hw := hw x31 ex31
                    refine lv_lstore_n (lv' := [(1, .long x31), (0, .ref np), (3, .int x26)]) hx hb dX10_digest_229 rfl hl (by decide) rfl (fun ls hl => ?_)
                    obtain ⟨x32, ex32⟩ : ∃ y : Int32, y = x26 + (1 : Int32) := ⟨_, rfl⟩
                    replace hw := hw x32 ex32
                    refine lv_iinc (v := x32) (lv' := [(3, .int x32), (1, .long x31), (0, .ref np)]) hx hb dX10_digest_230 hl (k := 2) rfl (by rw [ex32]; rfl) (by decide) rfl (fun ls hl => ?_)
                    refine lv_goto (tgt := 211) hx hb dX10_digest_233 (by decide) ?_
                    exact hw H locs ls hP hD hS (lv_sub hl [2, 1, 0] rfl)
              · replace hw := hw.2 hc24
                refine lv_ldc2 hx hb hown kc232 dX10_digest_187 ?_
                refine lv_lload_n hx hb dX10_digest_190 rfl (lv_at hl 1 rfl) ?_
                refine lv_lmul hx hb dX10_digest_191 ?_
                refine lv_aload_n hx hb dX10_digest_192 rfl (lv_at hl 0 rfl) ?_
                refine va_get (D := (dC, dI)) (ci := 12) (v := .ref pg) (C := RX10) (T := TX10) (N := 6) hx hb hts hiX10 hown hK hP 0 rfl rfl 1 (by decide) hf31 (fun _ h9 => h9) rfl dX10_digest_193 ?_
                refine lv_iload_n hx hb dX10_digest_196 rfl (lv_at hl 2 rfl) ?_
                refine g_ci (g_J.poolQ (W2 := fun u33 : Unit => (W_N adK adV cI cB cS cY np pg g q qb n k ni bv bm ml cn bt fv15 tv16 av17 b sg)) (pl := va_pl sL (sgF sf)) [(np, .inr (12, [.ref (q 1), .ref pg, .ref (q 0), .int (ni 0), .int (ni 1), .int (ni 2)])), ((q 0), .inr (7, [.int (nI n), .int (nI k), .ref (q 1), .ref (q 2), .ref (q 3), .ref (q 8), .int (fv15 0), .ref (q 13), .ref (q 14), .ref (q 15), .ref (q 18), .ref (q 21), .int (fv15 1), .ref (q 17), .int (fv15 2)])), ((q 1), .inl (cB, (5), .inr (.inr (.inr (.inr (fun i => (kAll i).map qb)))))), ((q 2), .inl (cI, k, .inl (av17 0))), ((q 3), .inr (10, [.ref (q 4), .ref (q 5), .ref (q 6), .ref (q 7), .int (fv15 3), .int (fv15 4)])), ((q 4), .inl (cI, (k - n), .inl (b 0))), ((q 5), .inl (cI, n, .inl (av17 1))), ((q 6), .inl (cI, k, .inl (av17 2))), ((q 7), .inl (cS, (6), .inr (.inr (.inr (.inr (sg 0)))))), ((q 8), .inr (10, [.ref (q 9), .ref (q 10), .ref (q 11), .ref (q 12), .int (fv15 5), .int (fv15 6)])), ((q 9), .inl (cI, (k - n), .inl (b 1))), ((q 10), .inl (cI, n, .inl (av17 3))), ((q 11), .inl (cI, k, .inl (av17 4))), ((q 12), .inl (cS, (6), .inr (.inr (.inr (.inr (sg 1)))))), ((q 13), .inl (cI, k, .inl (av17 5))), ((q 14), .inl (cI, k, .inl (av17 6))), ((q 15), .inr (8, [.int (nI n), .ref (q 1), .ref (q 4), .ref (q 16), .ref tv16, .int (fv15 7)])), ((q 16), .inl (cI, k, .inl (av17 8))), ((q 17), .inl (cI, (10 * n), .inl (av17 7))), ((q 18), .inr (14, [.ref (q 19), .ref (q 20)])), ((q 19), .inl (cI, (k + 1), .inl (b 2))), ((q 20), .inl (cI, (toL n), .inl (b 3))), ((q 21), .inl (cI, k, .inl (b 4))), ((qb 0), .inr (2, [])), ((qb 1), .inr (3, [])), ((qb 2), .inr (5, [])), ((qb 3), .inr (11, [])), ((qb 4), .inr (4, []))] [1, 2, 3] [0, 4, 5, 6, 7, 8, 9, 10, 11, 12, 13, 14, 15, 16, 17, 18, 19, 20, 21, 22, 23, 24, 25, 26, 27, 28, 29, 30] [0, 28, 29, 30, 1, 2, 3, 4, 5, 6, 7, 8, 9, 10, 11, 12, 13, 14, 15, 16, 17, 18, 19, 20, 21, 22, 23, 24, 25, 26, 27] rfl (by decide) rfl (by decide) (by decide) (fun _ => rfl) (by decide)) [3] hK hP hD hS hA rfl (fun hPc hDc hKc hFc => va_runV (As := [.int x20]) (rest := [.long ((31 : Int64) * x19)]) ⟨hx, hb, hml, hown, hts⟩ (t_X4_letterAt l dC dI adK adV cY pg g H.size bv bm ml cn bt  x20 _ hw) (cwV 1 hts gX10_digest_X4_letterAt rfl rfl rfl (by decide +kernel) ⟨Nat.le_of_ble_eq_true rfl, Nat.le_of_ble_eq_true rfl⟩) (g_pV czb (q0 := 0) rfl rfl hPc hDc hKc (czc hZ hS hFc)) rfl rfl hl.1 rfl (lv_room (Nat.le_of_ble_eq_true rfl)) dX10_digest_197 ⟨Nat.le_of_ble_eq_true rfl, Nat.le_of_ble_eq_true rfl⟩) (fun r34 u33 H locs hw hP hD hS => ?_)
                replace hP : va_P (dC, dI) vwCl ((W_N adK adV cI cB cS cY np pg g q qb n k ni bv bm ml cn bt fv15 tv16 av17 b sg) ++ va_pl sL (sgF sf)) H := hP
                replace hD : va_D A ((W_N adK adV cI cB cS cY np pg g q qb n k ni bv bm ml cn bt fv15 tv16 av17 b sg) ++ va_pl sL (sgF sf)) := hD
                refine lv_i2l hx hb dX10_digest_200 rfl ?_
                refine lv_ladd hx hb dX10_digest_201 ?_
                refine lv_topl (fun x35 ex35 => ?_)
                replace hw := hw x35 ex35
                refine lv_lstore_n (lv' := [(1, .long x35), (0, .ref np), (3, .int x20)]) hx hb dX10_digest_202 rfl hl (by decide) rfl (fun ls hl => ?_)
                obtain ⟨x36, ex36⟩ : ∃ y : Int32, y = x20 + (1 : Int32) := ⟨_, rfl⟩
                replace hw := hw x36 ex36
                refine lv_iinc (v := x36) (lv' := [(3, .int x36), (1, .long x35), (0, .ref np)]) hx hb dX10_digest_203 hl (k := 2) rfl (by rw [ex36]; rfl) (by decide) rfl (fun ls hl => ?_)
                refine lv_goto (tgt := 176) hx hb dX10_digest_206 (by decide) ?_
                exact hw H locs ls hP hD hS (lv_sub hl [2, 1, 0] rfl))
          refine lv_if_eq (tgt := 174) hx hb dX10_digest_120 (by decide) (fun hc37 => ?_) (fun hc37 => ?_)
          · replace hw := hw.1 hc37
            exact hw H locs ls hP hD hS (lv_sub hl [0, 1] rfl)
          · replace hw := hw.2 hc37
            refine lv_ldc2 hx hb hown kc232 dX10_digest_123 ?_
            refine lv_lload_n hx hb dX10_digest_126 rfl (lv_at hl 1 rfl) ?_
            refine lv_lmul hx hb dX10_digest_127 ?_
            refine lv_aload_n hx hb dX10_digest_128 rfl (lv_at hl 0 rfl) ?_
            refine lv_iconst (v := 0) hx hb dX10_digest_129 (by decide) ?_
            refine g_ci (g_J.poolP (W2 := fun u38 : ((Nat → Nat → Int32)) => (W_N adK adV cI cB cS cY np pg g q qb n k ni bv bm ml cn bt fv7 tv8 u38 b sg)) (pl := va_pl sL (sgF sf)) (PL := fun u38 : ((Nat → Nat → Int32)) => va_pl sL (sgF sf)) (RX := fun u38 : ((Nat → Nat → Int32)) => (W_N adK adV cI cB cS cY np pg g q qb n k ni bv bm ml cn bt fv7 tv8 u38 b sg)) [] [0, 1, 2, 3, 4, 5, 6, 7, 8, 9, 10, 11, 12, 13, 14, 15, 16, 17, 18, 19, 20, 21, 22, 23, 24, 25, 26, 27, 28, 29, 30] [] [0, 1, 2, 3, 4, 5, 6, 7, 8, 9, 10, 11, 12, 13, 14, 15, 16, 17, 18, 19, 20, 21, 22, 23, 24, 25, 26, 27, 28, 29, 30] rfl (by decide) rfl (by decide) (by decide) (fun _ => rfl) (by decide)) [0, 1, 2, 3] hK hP hD hS hA rfl (fun hPc hDc hKc hFc => va_runV (As := [.int (0 : Int32)]) (rest := [.long ((31 : Int64) * x5)]) ⟨hx, hb, hml, hown, hts⟩ (t_X10_order l dC dI adK adV cI cB cS cY np pg g q qb n k H.size ni bv bm ml cn bt fv7 tv8 av9 b sg sL sf (0 : Int32) _ hw) (cwV 1 hts gX10_digest_X10_order rfl rfl rfl (by decide +kernel) ⟨Nat.le_of_ble_eq_true rfl, Nat.le_of_ble_eq_true rfl⟩) (g_pV czb (q0 := 0) rfl rfl hPc hDc hKc (czc hZ hS hFc)) rfl rfl hl.1 rfl (lv_room (Nat.le_of_ble_eq_true rfl)) dX10_digest_130 ⟨Nat.le_of_ble_eq_true rfl, Nat.le_of_ble_eq_true rfl⟩) (fun r39 u38 H locs hw hP hD hS => ?_)
            replace hP : va_P (dC, dI) vwCl ((W_N adK adV cI cB cS cY np pg g q qb n k ni bv bm ml cn bt fv7 tv8 u38 b sg) ++ va_pl sL (sgF sf)) H := hP
            replace hD : va_D A ((W_N adK adV cI cB cS cY np pg g q qb n k ni bv bm ml cn bt fv7 tv8 u38 b sg) ++ va_pl sL (sgF sf)) := hD
            refine lv_i2l hx hb dX10_digest_133 rfl ?_
            refine lv_ladd hx hb dX10_digest_134 ?_
            refine lv_topl (fun x40 ex40 => ?_)
            replace hw := hw x40 ex40
            refine lv_lstore_n (lv' := [(1, .long x40), (0, .ref np), (3, .int x6)]) hx hb dX10_digest_135 rfl hl (by decide) rfl (fun ls hl => ?_)
            refine lv_ldc2 hx hb hown kc232 dX10_digest_136 ?_
            refine lv_lload_n hx hb dX10_digest_139 rfl (lv_at hl 0 rfl) ?_
            refine lv_lmul hx hb dX10_digest_140 ?_
            refine lv_aload_n hx hb dX10_digest_141 rfl (lv_at hl 1 rfl) ?_
            refine lv_iconst (v := 1) hx hb dX10_digest_142 (by decide) ?_
            refine g_ci (g_J.poolP (W2 := fun u41 : ((Nat → Nat → Int32)) => (W_N adK adV cI cB cS cY np pg g q qb n k ni bv bm ml cn bt fv7 tv8 u41 b sg)) (pl := va_pl sL (sgF sf)) (PL := fun u41 : ((Nat → Nat → Int32)) => va_pl sL (sgF sf)) (RX := fun u41 : ((Nat → Nat → Int32)) => (W_N adK adV cI cB cS cY np pg g q qb n k ni bv bm ml cn bt fv7 tv8 u41 b sg)) [] [0, 1, 2, 3, 4, 5, 6, 7, 8, 9, 10, 11, 12, 13, 14, 15, 16, 17, 18, 19, 20, 21, 22, 23, 24, 25, 26, 27, 28, 29, 30] [] [0, 1, 2, 3, 4, 5, 6, 7, 8, 9, 10, 11, 12, 13, 14, 15, 16, 17, 18, 19, 20, 21, 22, 23, 24, 25, 26, 27, 28, 29, 30] rfl (by decide) rfl (by decide) (by decide) (fun _ => rfl) (by decide)) [0, 1, 2, 3] hK hP hD hS hA rfl (fun hPc hDc hKc hFc => va_runV (As := [.int (1 : Int32)]) (rest := [.long ((31 : Int64) * x40)]) ⟨hx, hb, hml, hown, hts⟩ (t_X10_order l dC dI adK adV cI cB cS cY np pg g q qb n k H.size ni bv bm ml cn bt fv7 tv8 u38 b sg sL sf (1 : Int32) _ hw) (cwV 1 hts gX10_digest_X10_order rfl rfl rfl (by decide +kernel) ⟨Nat.le_of_ble_eq_true rfl, Nat.le_of_ble_eq_true rfl⟩) (g_pV czb (q0 := 0) rfl rfl hPc hDc hKc (czc hZ hS hFc)) rfl rfl hl.1 rfl (lv_room (Nat.le_of_ble_eq_true rfl)) dX10_digest_143 ⟨Nat.le_of_ble_eq_true rfl, Nat.le_of_ble_eq_true rfl⟩) (fun r42 u41 H locs hw hP hD hS => ?_)
            replace hP : va_P (dC, dI) vwCl ((W_N adK adV cI cB cS cY np pg g q qb n k ni bv bm ml cn bt fv7 tv8 u41 b sg) ++ va_pl sL (sgF sf)) H := hP
            replace hD : va_D A ((W_N adK adV cI cB cS cY np pg g q qb n k ni bv bm ml cn bt fv7 tv8 u41 b sg) ++ va_pl sL (sgF sf)) := hD
            refine lv_i2l hx hb dX10_digest_146 rfl ?_
            refine lv_ladd hx hb dX10_digest_147 ?_
            refine lv_topl (fun x43 ex43 => ?_)
            replace hw := hw x43 ex43
            refine lv_lstore_n (lv' := [(1, .long x43), (0, .ref np), (3, .int x6)]) hx hb dX10_digest_148 rfl hl (by decide) rfl (fun ls hl => ?_)
            refine lv_ldc2 hx hb hown kc232 dX10_digest_149 ?_
            refine lv_lload_n hx hb dX10_digest_152 rfl (lv_at hl 0 rfl) ?_
            refine lv_lmul hx hb dX10_digest_153 ?_
            refine lv_aload_n hx hb dX10_digest_154 rfl (lv_at hl 1 rfl) ?_
            refine g_ci (g_J.poolP (W2 := fun u44 : ((Nat → Int32) × (Nat) × (Nat → Nat → Int32)) => (W_N adK adV cI cB cS cY np pg g q qb n k ni bv bm ml cn bt (u44.1) (u44.2.1) (u44.2.2) b sg)) (pl := va_pl sL (sgF sf)) (PL := fun u44 : ((Nat → Int32) × (Nat) × (Nat → Nat → Int32)) => va_pl sL (sgF sf)) (RX := fun u44 : ((Nat → Int32) × (Nat) × (Nat → Nat → Int32)) => (W_N adK adV cI cB cS cY np pg g q qb n k ni bv bm ml cn bt (u44.1) (u44.2.1) (u44.2.2) b sg)) [] [0, 1, 2, 3, 4, 5, 6, 7, 8, 9, 10, 11, 12, 13, 14, 15, 16, 17, 18, 19, 20, 21, 22, 23, 24, 25, 26, 27, 28, 29, 30] [] [0, 1, 2, 3, 4, 5, 6, 7, 8, 9, 10, 11, 12, 13, 14, 15, 16, 17, 18, 19, 20, 21, 22, 23, 24, 25, 26, 27, 28, 29, 30] rfl (by decide) rfl (by decide) (by decide) (fun _ => rfl) (by decide)) [0, 1, 2, 3] hK hP hD hS hA rfl (fun hPc hDc hKc hFc => va_runV (As := []) (rest := [.long ((31 : Int64) * x43)]) ⟨hx, hb, hml, hown, hts⟩ (t_X10_left l dC dI adK adV cI cB cS cY np pg g q qb n k H.size ni bv bm ml cn bt fv7 tv8 u41 b sg sL sf  _ hw) (cwV 0 hts gX10_digest_X10_left rfl rfl rfl (by decide +kernel) ⟨Nat.le_of_ble_eq_true rfl, Nat.le_of_ble_eq_true rfl⟩) (g_pV czb (q0 := 0) rfl rfl hPc hDc hKc (czc hZ hS hFc)) rfl rfl hl.1 rfl (lv_room (Nat.le_of_ble_eq_true rfl)) dX10_digest_155 ⟨Nat.le_of_ble_eq_true rfl, Nat.le_of_ble_eq_true rfl⟩) (fun r45 u44 H locs hw hP hD hS => ?_)
            replace hP : va_P (dC, dI) vwCl ((W_N adK adV cI cB cS cY np pg g q qb n k ni bv bm ml cn bt (u44.1) (u44.2.1) (u44.2.2) b sg) ++ va_pl sL (sgF sf)) H := hP
            replace hD : va_D A ((W_N adK adV cI cB cS cY np pg g q qb n k ni bv bm ml cn bt (u44.1) (u44.2.1) (u44.2.2) b sg) ++ va_pl sL (sgF sf)) := hD
            refine lv_i2l hx hb dX10_digest_158 rfl ?_
            refine lv_ladd hx hb dX10_digest_159 ?_
            refine lv_topl (fun x46 ex46 => ?_)
            replace hw := hw x46 ex46
            refine lv_lstore_n (lv' := [(1, .long x46), (0, .ref np), (3, .int x6)]) hx hb dX10_digest_160 rfl hl (by decide) rfl (fun ls hl => ?_)
            refine lv_ldc2 hx hb hown kc232 dX10_digest_161 ?_
            refine lv_lload_n hx hb dX10_digest_164 rfl (lv_at hl 0 rfl) ?_
            refine lv_lmul hx hb dX10_digest_165 ?_
            refine lv_aload_n hx hb dX10_digest_166 rfl (lv_at hl 1 rfl) ?_
            refine lv_iconst (v := 0) hx hb dX10_digest_167 (by decide) ?_
            refine g_ci (g_J.poolP (W2 := fun u47 : ((Nat → Int32) × (Nat) × (Nat → Nat → Int32)) => (W_N adK adV cI cB cS cY np pg g q qb n k ni bv bm ml cn bt (u47.1) (u47.2.1) (u47.2.2) b sg)) (pl := va_pl sL (sgF sf)) (PL := fun u47 : ((Nat → Int32) × (Nat) × (Nat → Nat → Int32)) => va_pl sL (sgF sf)) (RX := fun u47 : ((Nat → Int32) × (Nat) × (Nat → Nat → Int32)) => (W_N adK adV cI cB cS cY np pg g q qb n k ni bv bm ml cn bt (u47.1) (u47.2.1) (u47.2.2) b sg)) [] [0, 1, 2, 3, 4, 5, 6, 7, 8, 9, 10, 11, 12, 13, 14, 15, 16, 17, 18, 19, 20, 21, 22, 23, 24, 25, 26, 27, 28, 29, 30] [] [0, 1, 2, 3, 4, 5, 6, 7, 8, 9, 10, 11, 12, 13, 14, 15, 16, 17, 18, 19, 20, 21, 22, 23, 24, 25, 26, 27, 28, 29, 30] rfl (by decide) rfl (by decide) (by decide) (fun _ => rfl) (by decide)) [0, 1, 2, 3] hK hP hD hS hA rfl (fun hPc hDc hKc hFc => va_runV (As := [.int (0 : Int32)]) (rest := [.long ((31 : Int64) * x46)]) ⟨hx, hb, hml, hown, hts⟩ (t_X10_fits l dC dI adK adV cI cB cS cY np pg g q qb n k H.size ni bv bm ml cn bt (u44.1) (u44.2.1) (u44.2.2) b sg sL sf (0 : Int32) _ hw) (cwV 1 hts gX10_digest_X10_fits rfl rfl rfl (by decide +kernel) ⟨Nat.le_of_ble_eq_true rfl, Nat.le_of_ble_eq_true rfl⟩) (g_pV czb (q0 := 0) rfl rfl hPc hDc hKc (czc hZ hS hFc)) rfl rfl hl.1 rfl (lv_room (Nat.le_of_ble_eq_true rfl)) dX10_digest_168 ⟨Nat.le_of_ble_eq_true rfl, Nat.le_of_ble_eq_true rfl⟩) (fun r48 u47 H locs hw hP hD hS => ?_)
            replace hP : va_P (dC, dI) vwCl ((W_N adK adV cI cB cS cY np pg g q qb n k ni bv bm ml cn bt (u47.1) (u47.2.1) (u47.2.2) b sg) ++ va_pl sL (sgF sf)) H := hP
            replace hD : va_D A ((W_N adK adV cI cB cS cY np pg g q qb n k ni bv bm ml cn bt (u47.1) (u47.2.1) (u47.2.2) b sg) ++ va_pl sL (sgF sf)) := hD
            refine lv_i2l hx hb dX10_digest_171 rfl ?_
            refine lv_ladd hx hb dX10_digest_172 ?_
            refine lv_topl (fun x49 ex49 => ?_)
            replace hw := hw x49 ex49
            refine lv_lstore_n (lv' := [(1, .long x49), (0, .ref np), (3, .int x6)]) hx hb dX10_digest_173 rfl hl (by decide) rfl (fun ls hl => ?_)
            exact hw H locs ls hP hD hS (lv_sub hl [1, 0] rfl)
        · replace hw := hw.2 hc11
          refine lv_ldc2 hx hb hown kc232 dX10_digest_67 ?_
          refine lv_lload_n hx hb dX10_digest_70 rfl (lv_at hl 1 rfl) ?_
          refine lv_lmul hx hb dX10_digest_71 ?_
          refine lv_aload_n hx hb dX10_digest_72 rfl (lv_at hl 0 rfl) ?_
          refine lv_iload_n hx hb dX10_digest_73 rfl (lv_at hl 2 rfl) ?_
          refine g_ci (g_J.poolP (W2 := fun u50 : ((Nat → Nat → Int32)) => (W_N adK adV cI cB cS cY np pg g q qb n k ni bv bm ml cn bt fv7 tv8 u50 b sg)) (pl := va_pl sL (sgF sf)) (PL := fun u50 : ((Nat → Nat → Int32)) => va_pl sL (sgF sf)) (RX := fun u50 : ((Nat → Nat → Int32)) => (W_N adK adV cI cB cS cY np pg g q qb n k ni bv bm ml cn bt fv7 tv8 u50 b sg)) [] [0, 1, 2, 3, 4, 5, 6, 7, 8, 9, 10, 11, 12, 13, 14, 15, 16, 17, 18, 19, 20, 21, 22, 23, 24, 25, 26, 27, 28, 29, 30] [] [0, 1, 2, 3, 4, 5, 6, 7, 8, 9, 10, 11, 12, 13, 14, 15, 16, 17, 18, 19, 20, 21, 22, 23, 24, 25, 26, 27, 28, 29, 30] rfl (by decide) rfl (by decide) (by decide) (fun _ => rfl) (by decide)) [0, 1, 2, 3] hK hP hD hS hA rfl (fun hPc hDc hKc hFc => va_runV (As := [.int x6]) (rest := [.long ((31 : Int64) * x5)]) ⟨hx, hb, hml, hown, hts⟩ (t_X10_swing l dC dI adK adV cI cB cS cY np pg g q qb n k H.size ni bv bm ml cn bt fv7 tv8 av9 b sg sL sf x6 _ hw) (cwV 1 hts gX10_digest_X10_swing rfl rfl rfl (by decide +kernel) ⟨Nat.le_of_ble_eq_true rfl, Nat.le_of_ble_eq_true rfl⟩) (g_pV czb (q0 := 0) rfl rfl hPc hDc hKc (czc hZ hS hFc)) rfl rfl hl.1 rfl (lv_room (Nat.le_of_ble_eq_true rfl)) dX10_digest_74 ⟨Nat.le_of_ble_eq_true rfl, Nat.le_of_ble_eq_true rfl⟩) (fun r51 u50 H locs hw hP hD hS => ?_)
          replace hP : va_P (dC, dI) vwCl ((W_N adK adV cI cB cS cY np pg g q qb n k ni bv bm ml cn bt fv7 tv8 u50 b sg) ++ va_pl sL (sgF sf)) H := hP
          replace hD : va_D A ((W_N adK adV cI cB cS cY np pg g q qb n k ni bv bm ml cn bt fv7 tv8 u50 b sg) ++ va_pl sL (sgF sf)) := hD
          refine lv_i2l hx hb dX10_digest_77 rfl ?_
          refine lv_ladd hx hb dX10_digest_78 ?_
          refine lv_topl (fun x52 ex52 => ?_)
          replace hw := hw x52 ex52
          refine lv_lstore_n (lv' := [(1, .long x52), (0, .ref np), (3, .int x6)]) hx hb dX10_digest_79 rfl hl (by decide) rfl (fun ls hl => ?_)
          refine lv_ldc2 hx hb hown kc232 dX10_digest_80 ?_
          refine lv_lload_n hx hb dX10_digest_83 rfl (lv_at hl 0 rfl) ?_
          refine lv_lmul hx hb dX10_digest_84 ?_
          refine lv_aload_n hx hb dX10_digest_85 rfl (lv_at hl 1 rfl) ?_
          refine lv_iload_n hx hb dX10_digest_86 rfl (lv_at hl 2 rfl) ?_
          refine lv_iconst (v := 3) hx hb dX10_digest_87 (by decide) ?_
          refine lv_iconst (v := 0) hx hb dX10_digest_88 (by decide) ?_
          refine g_ci (g_J.poolP (W2 := fun u53 : ((Nat → Int32) × (Nat) × (Nat → Nat → Int32)) => (W_N adK adV cI cB cS cY np pg g q qb n k ni bv bm ml cn bt (u53.1) (u53.2.1) (u53.2.2) b sg)) (pl := va_pl sL (sgF sf)) (PL := fun u53 : ((Nat → Int32) × (Nat) × (Nat → Nat → Int32)) => va_pl sL (sgF sf)) (RX := fun u53 : ((Nat → Int32) × (Nat) × (Nat → Nat → Int32)) => (W_N adK adV cI cB cS cY np pg g q qb n k ni bv bm ml cn bt (u53.1) (u53.2.1) (u53.2.2) b sg)) [] [0, 1, 2, 3, 4, 5, 6, 7, 8, 9, 10, 11, 12, 13, 14, 15, 16, 17, 18, 19, 20, 21, 22, 23, 24, 25, 26, 27, 28, 29, 30] [] [0, 1, 2, 3, 4, 5, 6, 7, 8, 9, 10, 11, 12, 13, 14, 15, 16, 17, 18, 19, 20, 21, 22, 23, 24, 25, 26, 27, 28, 29, 30] rfl (by decide) rfl (by decide) (by decide) (fun _ => rfl) (by decide)) [0, 1, 2, 3] hK hP hD hS hA rfl (fun hPc hDc hKc hFc => va_runV (As := [.int x6, .int (3 : Int32), .int (0 : Int32)]) (rest := [.long ((31 : Int64) * x52)]) ⟨hx, hb, hml, hown, hts⟩ (t_X10_odds l dC dI adK adV cI cB cS cY np pg g q qb n k H.size ni bv bm ml cn bt fv7 tv8 u50 b sg sL sf x6 (3 : Int32) (0 : Int32) _ hw) (cwV 3 hts gX10_digest_X10_odds rfl rfl rfl (by decide +kernel) ⟨Nat.le_of_ble_eq_true rfl, Nat.le_of_ble_eq_true rfl⟩) (g_pV czb (q0 := 0) rfl rfl hPc hDc hKc (czc hZ hS hFc)) rfl rfl hl.1 rfl (lv_room (Nat.le_of_ble_eq_true rfl)) dX10_digest_89 ⟨Nat.le_of_ble_eq_true rfl, Nat.le_of_ble_eq_true rfl⟩) (fun r54 u53 H locs hw hP hD hS => ?_)
          replace hP : va_P (dC, dI) vwCl ((W_N adK adV cI cB cS cY np pg g q qb n k ni bv bm ml cn bt (u53.1) (u53.2.1) (u53.2.2) b sg) ++ va_pl sL (sgF sf)) H := hP
          replace hD : va_D A ((W_N adK adV cI cB cS cY np pg g q qb n k ni bv bm ml cn bt (u53.1) (u53.2.1) (u53.2.2) b sg) ++ va_pl sL (sgF sf)) := hD
          refine lv_i2l hx hb dX10_digest_92 rfl ?_
          refine lv_ladd hx hb dX10_digest_93 ?_
          refine lv_topl (fun x55 ex55 => ?_)
          replace hw := hw x55 ex55
          refine lv_lstore_n (lv' := [(1, .long x55), (0, .ref np), (3, .int x6)]) hx hb dX10_digest_94 rfl hl (by decide) rfl (fun ls hl => ?_)
          refine lv_ldc2 hx hb hown kc232 dX10_digest_95 ?_
          refine lv_lload_n hx hb dX10_digest_98 rfl (lv_at hl 0 rfl) ?_
          refine lv_lmul hx hb dX10_digest_99 ?_
          refine lv_aload_n hx hb dX10_digest_100 rfl (lv_at hl 1 rfl) ?_
          refine lv_iload_n hx hb dX10_digest_101 rfl (lv_at hl 2 rfl) ?_
          refine lv_iconst (v := 3) hx hb dX10_digest_102 (by decide) ?_
          refine lv_iconst (v := 1) hx hb dX10_digest_103 (by decide) ?_
          refine g_ci (g_J.poolP (W2 := fun u56 : ((Nat → Int32) × (Nat) × (Nat → Nat → Int32)) => (W_N adK adV cI cB cS cY np pg g q qb n k ni bv bm ml cn bt (u56.1) (u56.2.1) (u56.2.2) b sg)) (pl := va_pl sL (sgF sf)) (PL := fun u56 : ((Nat → Int32) × (Nat) × (Nat → Nat → Int32)) => va_pl sL (sgF sf)) (RX := fun u56 : ((Nat → Int32) × (Nat) × (Nat → Nat → Int32)) => (W_N adK adV cI cB cS cY np pg g q qb n k ni bv bm ml cn bt (u56.1) (u56.2.1) (u56.2.2) b sg)) [] [0, 1, 2, 3, 4, 5, 6, 7, 8, 9, 10, 11, 12, 13, 14, 15, 16, 17, 18, 19, 20, 21, 22, 23, 24, 25, 26, 27, 28, 29, 30] [] [0, 1, 2, 3, 4, 5, 6, 7, 8, 9, 10, 11, 12, 13, 14, 15, 16, 17, 18, 19, 20, 21, 22, 23, 24, 25, 26, 27, 28, 29, 30] rfl (by decide) rfl (by decide) (by decide) (fun _ => rfl) (by decide)) [0, 1, 2, 3] hK hP hD hS hA rfl (fun hPc hDc hKc hFc => va_runV (As := [.int x6, .int (3 : Int32), .int (1 : Int32)]) (rest := [.long ((31 : Int64) * x55)]) ⟨hx, hb, hml, hown, hts⟩ (t_X10_odds l dC dI adK adV cI cB cS cY np pg g q qb n k H.size ni bv bm ml cn bt (u53.1) (u53.2.1) (u53.2.2) b sg sL sf x6 (3 : Int32) (1 : Int32) _ hw) (cwV 3 hts gX10_digest_X10_odds rfl rfl rfl (by decide +kernel) ⟨Nat.le_of_ble_eq_true rfl, Nat.le_of_ble_eq_true rfl⟩) (g_pV czb (q0 := 0) rfl rfl hPc hDc hKc (czc hZ hS hFc)) rfl rfl hl.1 rfl (lv_room (Nat.le_of_ble_eq_true rfl)) dX10_digest_104 ⟨Nat.le_of_ble_eq_true rfl, Nat.le_of_ble_eq_true rfl⟩) (fun r57 u56 H locs hw hP hD hS => ?_)
          replace hP : va_P (dC, dI) vwCl ((W_N adK adV cI cB cS cY np pg g q qb n k ni bv bm ml cn bt (u56.1) (u56.2.1) (u56.2.2) b sg) ++ va_pl sL (sgF sf)) H := hP
          replace hD : va_D A ((W_N adK adV cI cB cS cY np pg g q qb n k ni bv bm ml cn bt (u56.1) (u56.2.1) (u56.2.2) b sg) ++ va_pl sL (sgF sf)) := hD
          refine lv_i2l hx hb dX10_digest_107 rfl ?_
          refine lv_ladd hx hb dX10_digest_108 ?_
          refine lv_topl (fun x58 ex58 => ?_)
          replace hw := hw x58 ex58
          refine lv_lstore_n (lv' := [(1, .long x58), (0, .ref np), (3, .int x6)]) hx hb dX10_digest_109 rfl hl (by decide) rfl (fun ls hl => ?_)
          obtain ⟨x59, ex59⟩ : ∃ y : Int32, y = x6 + (1 : Int32) := ⟨_, rfl⟩
          replace hw := hw x59 ex59
          refine lv_iinc (v := x59) (lv' := [(3, .int x59), (1, .long x58), (0, .ref np)]) hx hb dX10_digest_110 hl (k := 2) rfl (by rw [ex59]; rfl) (by decide) rfl (fun ls hl => ?_)
          refine lv_goto (tgt := 56) hx hb dX10_digest_113 (by decide) ?_
          exact hw H locs ls hP hD hS (lv_sub hl [2, 1, 0] rfl)
    · replace hw := hw.2 hc4
      refine lv_iconst (v := 0) hx hb dX10_digest_17 (by decide) ?_
      refine lv_istore (lv' := [(4, .int (0 : Int32)), (0, .ref np), (1, .long x1), (3, .int x2)]) hx hb dX10_digest_18 hl (by decide) rfl (fun ls hl => ?_)
      refine hw (fun (x60 : Int64) (x61 : Int32) => ∀ (H : Heap) (locs : List Loc) (ls : Array Slot), va_P (dC, dI) vwCl ((W_N adK adV cI cB cS cY np pg g q qb n k ni bv bm ml cn bt f t a b sg) ++ va_pl sL (sgF sf)) H → va_D A ((W_N adK adV cI cB cS cY np pg g q qb n k ni bv bm ml cn bt f t a b sg) ++ va_pl sL (sgF sf)) → va_S A s.heap H locs → lv_has ls 5 [(0, .ref np), (1, .long x60), (3, .int x2), (4, .int x61)] → W p l e rmX10_digest s m args below meth c H locs 0 0 Q (F0 m 20 ls [])) ?_ H locs ls hP hD hS (lv_sub hl [1, 2, 3, 0] rfl)
      · intro x60 x61 hw H locs ls hP hD hS hl
        refine lv_iload hx hb dX10_digest_20 (lv_at hl 3 rfl) ?_
        refine lv_bipush (v := 7) hx hb dX10_digest_22 (by decide) ?_
        refine lv_icmp_ge (tgt := 48) hx hb dX10_digest_24 (by decide) (fun hc63 => ?_) (fun hc63 => ?_)
        · replace hw := hw.1 hc63
          obtain ⟨x64, ex64⟩ : ∃ y : Int32, y = x2 + (1 : Int32) := ⟨_, rfl⟩
          replace hw := hw x64 ex64
          refine lv_iinc (v := x64) (lv' := [(3, .int x64), (0, .ref np), (1, .long x60), (4, .int x61)]) hx hb dX10_digest_48 hl (k := 2) rfl (by rw [ex64]; rfl) (by decide) rfl (fun ls hl => ?_)
          refine lv_goto (tgt := 6) hx hb dX10_digest_51 (by decide) ?_
          exact hw H locs ls hP hD hS (lv_sub hl [1, 2, 0] rfl)
        · replace hw := hw.2 hc63
          refine lv_ldc2 hx hb hown kc232 dX10_digest_27 ?_
          refine lv_lload_n hx hb dX10_digest_30 rfl (lv_at hl 1 rfl) ?_
          refine lv_lmul hx hb dX10_digest_31 ?_
          refine lv_aload_n hx hb dX10_digest_32 rfl (lv_at hl 0 rfl) ?_
          refine lv_iload_n hx hb dX10_digest_33 rfl (lv_at hl 2 rfl) ?_
          refine lv_iload hx hb dX10_digest_34 (lv_at hl 3 rfl) ?_
          refine g_ci (g_J.poolP (W2 := fun u65 : Unit => (W_N adK adV cI cB cS cY np pg g q qb n k ni bv bm ml cn bt f t a b sg)) (pl := va_pl sL (sgF sf)) (PL := fun u65 : Unit => va_pl sL (sgF sf)) (RX := fun u65 : Unit => (W_N adK adV cI cB cS cY np pg g q qb n k ni bv bm ml cn bt f t a b sg)) [] [0, 1, 2, 3, 4, 5, 6, 7, 8, 9, 10, 11, 12, 13, 14, 15, 16, 17, 18, 19, 20, 21, 22, 23, 24, 25, 26, 27, 28, 29, 30] [] [0, 1, 2, 3, 4, 5, 6, 7, 8, 9, 10, 11, 12, 13, 14, 15, 16, 17, 18, 19, 20, 21, 22, 23, 24, 25, 26, 27, 28, 29, 30] rfl (by decide) rfl (by decide) (by decide) (fun _ => rfl) (by decide)) [0, 1, 2, 3] hK hP hD hS hA rfl (fun hPc hDc hKc hFc => va_runV (As := [.int x2, .int x61]) (rest := [.long ((31 : Int64) * x60)]) ⟨hx, hb, hml, hown, hts⟩ (t_X10_brick l dC dI adK adV cI cB cS cY np pg g q qb n k H.size ni bv bm ml cn bt f t a b sg sL sf x2 x61 _ hw) (cwV 2 hts gX10_digest_X10_brick rfl rfl rfl (by decide +kernel) ⟨Nat.le_of_ble_eq_true rfl, Nat.le_of_ble_eq_true rfl⟩) (g_pV czb (q0 := 0) rfl rfl hPc hDc hKc (czc hZ hS hFc)) rfl rfl hl.1 rfl (lv_room (Nat.le_of_ble_eq_true rfl)) dX10_digest_36 ⟨Nat.le_of_ble_eq_true rfl, Nat.le_of_ble_eq_true rfl⟩) (fun r66 u65 H locs hw hP hD hS => ?_)
          replace hP : va_P (dC, dI) vwCl ((W_N adK adV cI cB cS cY np pg g q qb n k ni bv bm ml cn bt f t a b sg) ++ va_pl sL (sgF sf)) H := hP
          replace hD : va_D A ((W_N adK adV cI cB cS cY np pg g q qb n k ni bv bm ml cn bt f t a b sg) ++ va_pl sL (sgF sf)) := hD
          refine lv_i2l hx hb dX10_digest_39 rfl ?_
          refine lv_ladd hx hb dX10_digest_40 ?_
          refine lv_topl (fun x67 ex67 => ?_)
          replace hw := hw x67 ex67
          refine lv_lstore_n (lv' := [(1, .long x67), (0, .ref np), (3, .int x2), (4, .int x61)]) hx hb dX10_digest_41 rfl hl (by decide) rfl (fun ls hl => ?_)
          obtain ⟨x68, ex68⟩ : ∃ y : Int32, y = x61 + (1 : Int32) := ⟨_, rfl⟩
          replace hw := hw x68 ex68
          refine lv_iinc (v := x68) (lv' := [(4, .int x68), (1, .long x67), (0, .ref np), (3, .int x2)]) hx hb dX10_digest_42 hl (k := 3) rfl (by rw [ex68]; rfl) (by decide) rfl (fun ls hl => ?_)
          refine lv_goto (tgt := 20) hx hb dX10_digest_45 (by decide) ?_
          exact hw H locs ls hP hD hS (lv_sub hl [2, 1, 3, 0] rfl)
