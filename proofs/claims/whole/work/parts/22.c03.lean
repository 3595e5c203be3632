def w_X5_build (n : Nat) (k : Nat) (q : Nat → Nat) (f : Nat → Int32) (t : Nat) (a : Nat → Nat → Int32) (b : Nat → Nat → Int32) (sg : Nat → Nat → Option Nat) (sL : List Nat) (sf : Nat → Nat → Int32)   (Q : ((Nat → Nat → Int32)) → Prop) : Prop := w_X10_copy n k (a 1) (a 5)   (fun (u1 : ((Nat → Int32))) => w_X5_raise_v n k q f t (va_up a 5 u1) b sg sL sf  (fun (u2 : ((Nat → Nat → Int32))) => Q u2))
abbrev rmX5_build : Room := { frames := 3, cells := 0, slots := 0, locals := 85 }
set_option maxHeartbeats 4000000 in
set_option maxRecDepth 100000 in
theorem t_X5_build (l : Launch) (dC : Nat → ClassId) (dI : Nat → Nat → Nat) (adK : Nat → Nat) (adV : Nat → Nat) (cI : ClassId) (cB : ClassId) (cS : ClassId) (q : Nat → Nat) (qb : Nat → Nat) (n : Nat) (k : Nat) (sz : Nat) (f : Nat → Int32) (t : Nat) (a : Nat → Nat → Int32) (b : Nat → Nat → Int32) (sg : Nat → Nat → Option Nat) (sL : List Nat) (sf : Nat → Nat → Int32)    (Q0 : ((Nat → Nat → Int32)) → Prop) (hw : w_X5_build n k q f t a b sg sL sf   Q0) : Met l yX5_build wsX5_build rmX5_build (g_pre (cz adK adV) (dC, dI) vwCl [(cI, .int), (cB, .object RX0), (cS, .object RX7)] ((W_P adK adV cI cB cS q qb n k f t a b sg) ++ va_pl sL (sgF sf)) sz [.ref (q 0)]) (g_qv (dC, dI) vwCl [(cI, .int), (cB, .object RX0), (cS, .object RX7)] (fun u : ((Nat → Nat → Int32)) => ((W_P adK adV cI cB cS q qb n k f t u b sg) ++ va_pl sL (sgF sf))) Q0 (va_A ((W_P adK adV cI cB cS q qb n k f t a b sg) ++ va_pl sL (sgF sf)) sz)) 0 0 (va_A ((W_P adK adV cI cB cS q qb n k f t a b sg) ++ va_pl sL (sgF sf)) sz) := by
  refine g_startv (by decide) rfl (Nat.le_of_ble_eq_true rfl) ?_
  intro p e s m args below meth c A Q ls hx hb hml hown hts hin hK hP hD hA hS hZ hret hl
  obtain ⟨H, eH⟩ : ∃ H : Heap, H = s.heap := ⟨_, rfl⟩
  obtain ⟨locs, eL⟩ : ∃ L : List Loc, L = [] := ⟨_, rfl⟩
  have hS : va_S A s.heap H locs := by rw [eH, eL]; exact hS
  rw [← eH] at hP
  suffices hg : W p l e rmX5_build s m args below meth c H locs 0 0 Q (F0 m 0 ls []) by rw [eH, eL] at hg; exact hg
  clear eH eL
  replace hl : lv_has ls 1 [(0, .ref (q 0))] := hl
  have hf31 := hts (.fieldLink RX5 31 "NumberPile$Pile" "now" "LNumberPile$State;") (by decide +kernel)
  have hiX5 : ∀ w ∈ u_ws RX5 TX5 15, w ∈ wsX5_build := fun w h => List.mem_cons_of_mem _ (List.mem_append_left _ (List.mem_append_right _ h))
  have nf98 := va_Nw.use (A := args) rfl (hZ.1 _ (List.mem_of_getElem? (i := 25) (rfl : cz_nest[25]? = some (.fieldLinkNest RX5 98 "NumberPile$State" "figures" "[I" "NumberPile"))))
  have hiX8 : ∀ w ∈ u_ws RX8 TX8 6, w ∈ wsX5_build := fun w h => List.mem_cons_of_mem _ (List.mem_append_right _ h)
  have hf38 := hts (.fieldLink RX5 38 "NumberPile$Pile" "values" "[I") (by decide +kernel)
  have nm104 := hZ.1 _ (List.mem_of_getElem? (i := 26) (rfl : cz_nest[26]? = some (.methodLinkNest RX5 104 yX10_copy "NumberPile")))
  have iniRX10 := hts (.initialized RX10) (by decide +kernel)
  have st104 := hts (.static yX10_copy) (by decide +kernel)
  unfold w_X5_build at hw
  refine lv_aload_n hx hb dX5_build_0 rfl (lv_at hl 0 rfl) ?_
  refine va_get (D := (dC, dI)) (ci := 7) (v := .ref (q 3)) (C := RX5) (T := TX5) (N := 15) hx hb hts hiX5 hown hK hP 0 rfl rfl 4 (by decide) hf31 (fun _ h9 => h9) rfl dX5_build_1 ?_
  refine va_getN (D := (dC, dI)) (ci := 10) (v := .ref (q 5)) (C := RX8) (T := TX8) (N := 6) hx hb hts hiX8 hown hK hP 3 rfl rfl 1 (by decide) nf98 (fun _ h9 => h9) rfl dX5_build_4 ?_
  refine lv_aload_n hx hb dX5_build_7 rfl (lv_at hl 0 rfl) ?_
  refine va_get (D := (dC, dI)) (ci := 7) (v := .ref (q 13)) (C := RX5) (T := TX5) (N := 15) hx hb hts hiX5 hown hK hP 0 rfl rfl 7 (by decide) hf38 (fun _ h9 => h9) rfl dX5_build_8 ?_
  refine g_cv (g_J.poolQ (W2 := fun u1 : ((Nat → Int32)) => (W_P adK adV cI cB cS q qb n k f t (va_up a 5 u1) b sg)) (pl := va_pl sL (sgF sf)) [((q 0), .inr (7, [.int (nI n), .int (nI k), .ref (q 1), .ref (q 2), .ref (q 3), .ref (q 8), .int (f 0), .ref (q 13), .ref (q 14), .ref (q 15), .ref (q 18), .ref (q 21), .int (f 1), .ref (q 17), .int (f 2)])), ((q 1), .inl (cB, (5), .inr (.inr (.inr (.inr (fun i => (kAll i).map qb)))))), ((q 2), .inl (cI, k, .inl (a 0))), ((q 3), .inr (10, [.ref (q 4), .ref (q 5), .ref (q 6), .ref (q 7), .int (f 3), .int (f 4)])), ((q 4), .inl (cI, (k - n), .inl (b 0))), ((q 6), .inl (cI, k, .inl (a 2))), ((q 7), .inl (cS, (6), .inr (.inr (.inr (.inr (sg 0)))))), ((q 8), .inr (10, [.ref (q 9), .ref (q 10), .ref (q 11), .ref (q 12), .int (f 5), .int (f 6)])), ((q 9), .inl (cI, (k - n), .inl (b 1))), ((q 10), .inl (cI, n, .inl (a 3))), ((q 11), .inl (cI, k, .inl (a 4))), ((q 12), .inl (cS, (6), .inr (.inr (.inr (.inr (sg 1)))))), ((q 14), .inl (cI, k, .inl (a 6))), ((q 15), .inr (8, [.int (nI n), .ref (q 1), .ref (q 4), .ref (q 16), .ref t, .int (f 7)])), ((q 16), .inl (cI, k, .inl (a 8))), ((q 17), .inl (cI, (10 * n), .inl (a 7))), ((q 18), .inr (14, [.ref (q 19), .ref (q 20)])), ((q 19), .inl (cI, (k + 1), .inl (b 2))), ((q 20), .inl (cI, (toL n), .inl (b 3))), ((q 21), .inl (cI, k, .inl (b 4))), ((qb 0), .inr (2, [])), ((qb 1), .inr (3, [])), ((qb 2), .inr (5, [])), ((qb 3), .inr (11, [])), ((qb 4), .inr (4, []))] [5, 13] [0, 1, 2, 3, 4, 6, 7, 8, 9, 10, 11, 12, 14, 15, 16, 17, 18, 19, 20, 21, 22, 23, 24, 25, 26] [0, 1, 2, 3, 4, 25, 5, 6, 7, 8, 9, 10, 11, 26, 12, 13, 14, 15, 16, 17, 18, 19, 20, 21, 22, 23, 24] rfl (by decide) rfl (by decide) (by decide) (fun _ => rfl) (by decide)) [0] hK hP hD hS hA rfl (fun hPc hDc hKc hFc => va_runSN (As := [.ref (q 5), .ref (q 13)]) (rest := []) ⟨hx, hb, hml, hown, hts⟩ (t_X10_copy l dC dI cI (q 5) (q 13) n k (a 1) H.size (a 5)   _ hw) ⟨va_cnB 2 hts gX5_build_X10_copy_n104 rfl rfl rfl nm104 iniRX10 (by decide +kernel) ⟨Nat.le_of_ble_eq_true rfl, Nat.le_of_ble_eq_true rfl⟩, st104, trivial⟩ (g_pS g_Tb hPc hDc hKc (fun _ _ _ => trivial)) rfl rfl hl.1 rfl (lv_room (Nat.le_of_ble_eq_true rfl)) dX5_build_11 ⟨Nat.le_of_ble_eq_true rfl, Nat.le_of_ble_eq_true rfl⟩) (fun u1 H locs hw hP hD hS => ?_)
  replace hP : va_P (dC, dI) vwCl ((W_P adK adV cI cB cS q qb n k f t (va_up a 5 u1) b sg) ++ va_pl sL (sgF sf)) H := hP
  replace hD : va_D A ((W_P adK adV cI cB cS q qb n k f t (va_up a 5 u1) b sg) ++ va_pl sL (sgF sf)) := hD
  refine lv_aload_n hx hb dX5_build_14 rfl (lv_at hl 0 rfl) ?_
  refine lv_aload_n hx hb dX5_build_15 rfl (lv_at hl 0 rfl) ?_
  refine va_get (D := (dC, dI)) (ci := 7) (v := .ref (q 13)) (C := RX5) (T := TX5) (N := 15) hx hb hts hiX5 hown hK hP 0 rfl rfl 7 (by decide) hf38 (fun _ h9 => h9) rfl dX5_build_16 ?_
  refine g_cv (g_J.poolP (W2 := fun u2 : ((Nat → Nat → Int32)) => (W_P adK adV cI cB cS q qb n k f t u2 b sg)) (pl := va_pl sL (sgF sf)) (PL := fun u2 : ((Nat → Nat → Int32)) => va_pl sL (sgF sf)) (RX := fun u2 : ((Nat → Nat → Int32)) => (W_P adK adV cI cB cS q qb n k f t u2 b sg)) [] [0, 1, 2, 3, 4, 5, 6, 7, 8, 9, 10, 11, 12, 13, 14, 15, 16, 17, 18, 19, 20, 21, 22, 23, 24, 25, 26] [] [0, 1, 2, 3, 4, 5, 6, 7, 8, 9, 10, 11, 12, 13, 14, 15, 16, 17, 18, 19, 20, 21, 22, 23, 24, 25, 26] rfl (by decide) rfl (by decide) (by decide) (fun _ => rfl) (by decide)) [0, 1, 2] hK hP hD hS hA rfl (fun hPc hDc hKc hFc => va_runV (As := [.ref (q 13)]) (rest := []) ⟨hx, hb, hml, hown, hts⟩ (t_X5_raise_v l dC dI adK adV cI cB cS q qb n k H.size f t (va_up a 5 u1) b sg sL sf  _ hw) (cwV 1 hts gX5_build_X5_raise rfl rfl rfl (by decide +kernel) ⟨Nat.le_of_ble_eq_true rfl, Nat.le_of_ble_eq_true rfl⟩) (g_pV czb (q0 := 0) rfl rfl hPc hDc hKc (czc hZ hS hFc)) rfl rfl hl.1 rfl (lv_room (Nat.le_of_ble_eq_true rfl)) dX5_build_19 ⟨Nat.le_of_ble_eq_true rfl, Nat.le_of_ble_eq_true rfl⟩) (fun u2 H locs hw hP hD hS => ?_)
  replace hP : va_P (dC, dI) vwCl ((W_P adK adV cI cB cS q qb n k f t u2 b sg) ++ va_pl sL (sgF sf)) H := hP
  replace hD : va_D A ((W_P adK adV cI cB cS q qb n k f t u2 b sg) ++ va_pl sL (sgF sf)) := hD
  exact hret dX5_build_22 hK hP hD hS hw

def w_X5_top (n : Nat) (k : Nat) (q : Nat → Nat) (f : Nat → Int32) (t : Nat) (a : Nat → Nat → Int32) (b : Nat → Nat → Int32) (sg : Nat → Nat → Option Nat) (sL : List Nat) (sf : Nat → Nat → Int32)   (Q : Int32 → Unit → Prop) : Prop := ((((nI k) ≤ 0) → Q (-1 : Int32) ()) ∧ (¬ ((nI k) ≤ 0) → (vp_in ((nI k) - (1 : Int32)) k) ∧ Q ((a 5) ((nI k) - (1 : Int32)).toNatClampNeg) ()))
abbrev rmX5_top : Room := { frames := 0, cells := 0, slots := 0, locals := 0 }
set_option maxHeartbeats 4000000 in
set_option maxRecDepth 100000 in
theorem t_X5_top (l : Launch) (dC : Nat → ClassId) (dI : Nat → Nat → Nat) (adK : Nat → Nat) (adV : Nat → Nat) (cI : ClassId) (cB : ClassId) (cS : ClassId) (q : Nat → Nat) (qb : Nat → Nat) (n : Nat) (k : Nat) (sz : Nat) (f : Nat → Int32) (t : Nat) (a : Nat → Nat → Int32) (b : Nat → Nat → Int32) (sg : Nat → Nat → Option Nat) (sL : List Nat) (sf : Nat → Nat → Int32)    (Q0 : Int32 → Unit → Prop) (hw : w_X5_top n k q f t a b sg sL sf   Q0) : Met l yX5_top wsX5_top rmX5_top (g_pre (cz adK adV) (dC, dI) vwCl [(cI, .int), (cB, .object RX0), (cS, .object RX7)] ((W_P adK adV cI cB cS q qb n k f t a b sg) ++ va_pl sL (sgF sf)) sz [.ref (q 0)]) (g_qi (dC, dI) vwCl [(cI, .int), (cB, .object RX0), (cS, .object RX7)] (fun u : Unit => ((W_P adK adV cI cB cS q qb n k f t a b sg) ++ va_pl sL (sgF sf))) Q0 (va_A ((W_P adK adV cI cB cS q qb n k f t a b sg) ++ va_pl sL (sgF sf)) sz)) 0 0 (va_A ((W_P adK adV cI cB cS q qb n k f t a b sg) ++ va_pl sL (sgF sf)) sz) := by
  refine g_starti (by decide) rfl (Nat.le_of_ble_eq_true rfl) ?_
  intro p e s m args below meth c A Q ls hx hb hml hown hts hin hK hP hD hA hS hZ hret hl
  obtain ⟨H, eH⟩ : ∃ H : Heap, H = s.heap := ⟨_, rfl⟩
  obtain ⟨locs, eL⟩ : ∃ L : List Loc, L = [] := ⟨_, rfl⟩
  have hS : va_S A s.heap H locs := by rw [eH, eL]; exact hS
  rw [← eH] at hP
  suffices hg : W p l e rmX5_top s m args below meth c H locs 0 0 Q (F0 m 0 ls []) by rw [eH, eL] at hg; exact hg
  clear eH eL
  replace hl : lv_has ls 1 [(0, .ref (q 0))] := hl
  have hf19 := hts (.fieldLink RX5 19 "NumberPile$Pile" "size" "I") (by decide +kernel)
  have hiX5 : ∀ w ∈ u_ws RX5 TX5 15, w ∈ wsX5_top := fun w h => List.mem_cons_of_mem _ (List.mem_append_right _ h)
  have hf38 := hts (.fieldLink RX5 38 "NumberPile$Pile" "values" "[I") (by decide +kernel)
  unfold w_X5_top at hw
  refine lv_aload_n hx hb dX5_top_0 rfl (lv_at hl 0 rfl) ?_
  refine va_get (D := (dC, dI)) (ci := 7) (v := .int (nI k)) (C := RX5) (T := TX5) (N := 15) hx hb hts hiX5 hown hK hP 0 rfl rfl 1 (by decide) hf19 (fun _ h9 => h9) rfl dX5_top_1 ?_
  refine lv_if_le (tgt := 21) hx hb dX5_top_4 (by decide) (fun hc1 => ?_) (fun hc1 => ?_)
  · replace hw := hw.1 hc1
    refine lv_iconst (v := -1) hx hb dX5_top_21 (by decide) ?_
    exact hret dX5_top_22 hK hP hD hS hw
  · replace hw := hw.2 hc1
    refine lv_aload_n hx hb dX5_top_7 rfl (lv_at hl 0 rfl) ?_
    refine va_get (D := (dC, dI)) (ci := 7) (v := .ref (q 13)) (C := RX5) (T := TX5) (N := 15) hx hb hts hiX5 hown hK hP 0 rfl rfl 7 (by decide) hf38 (fun _ h9 => h9) rfl dX5_top_8 ?_
    refine lv_aload_n hx hb dX5_top_11 rfl (lv_at hl 0 rfl) ?_
    refine va_get (D := (dC, dI)) (ci := 7) (v := .int (nI k)) (C := RX5) (T := TX5) (N := 15) hx hb hts hiX5 hown hK hP 0 rfl rfl 1 (by decide) hf19 (fun _ h9 => h9) rfl dX5_top_12 ?_
    refine lv_iconst (v := 1) hx hb dX5_top_15 (by decide) ?_
    refine lv_isub hx hb dX5_top_16 ?_
    obtain ⟨hb2, hw⟩ := hw
    refine va_iald hx hb hK hP 13 0 rfl rfl hb2 dX5_top_17 ?_
    refine lv_goto (tgt := 22) hx hb dX5_top_18 (by decide) ?_
    exact hret dX5_top_22 hK hP hD hS hw

def w_X5_guessedTop (n : Nat) (k : Nat) (q : Nat → Nat) (f : Nat → Int32) (t : Nat) (a : Nat → Nat → Int32) (b : Nat → Nat → Int32) (sg : Nat → Nat → Option Nat) (sL : List Nat) (sf : Nat → Nat → Int32)   (Q : Int32 → Unit → Prop) : Prop := ((((nI k) ≤ 0) → Q (-1 : Int32) ()) ∧ (¬ ((nI k) ≤ 0) → (vp_in ((nI k) - (1 : Int32)) k) ∧ Q ((a 6) ((nI k) - (1 : Int32)).toNatClampNeg) ()))
abbrev rmX5_guessedTop : Room := { frames := 0, cells := 0, slots := 0, locals := 0 }
set_option maxHeartbeats 4000000 in
set_option maxRecDepth 100000 in
theorem t_X5_guessedTop (l : Launch) (dC : Nat → ClassId) (dI : Nat → Nat → Nat) (adK : Nat → Nat) (adV : Nat → Nat) (cI : ClassId) (cB : ClassId) (cS : ClassId) (q : Nat → Nat) (qb : Nat → Nat) (n : Nat) (k : Nat) (sz : Nat) (f : Nat → Int32) (t : Nat) (a : Nat → Nat → Int32) (b : Nat → Nat → Int32) (sg : Nat → Nat → Option Nat) (sL : List Nat) (sf : Nat → Nat → Int32)    (Q0 : Int32 → Unit → Prop) (hw : w_X5_guessedTop n k q f t a b sg sL sf   Q0) : Met l yX5_guessedTop wsX5_guessedTop rmX5_guessedTop (g_pre (cz adK adV) (dC, dI) vwCl [(cI, .int), (cB, .object RX0), (cS, .object RX7)] ((W_P adK adV cI cB cS q qb n k f t a b sg) ++ va_pl sL (sgF sf)) sz [.ref (q 0)]) (g_qi (dC, dI) vwCl [(cI, .int), (cB, .object RX0), (cS, .object RX7)] (fun u : Unit => ((W_P adK adV cI cB cS q qb n k f t a b sg) ++ va_pl sL (sgF sf))) Q0 (va_A ((W_P adK adV cI cB cS q qb n k f t a b sg) ++ va_pl sL (sgF sf)) sz)) 0 0 (va_A ((W_P adK adV cI cB cS q qb n k f t a b sg) ++ va_pl sL (sgF sf)) sz) := by
  refine g_starti (by decide) rfl (Nat.le_of_ble_eq_true rfl) ?_
  intro p e s m args below meth c A Q ls hx hb hml hown hts hin hK hP hD hA hS hZ hret hl
  obtain ⟨H, eH⟩ : ∃ H : Heap, H = s.heap := ⟨_, rfl⟩
  obtain ⟨locs, eL⟩ : ∃ L : List Loc, L = [] := ⟨_, rfl⟩
  have hS : va_S A s.heap H locs := by rw [eH, eL]; exact hS
  rw [← eH] at hP
  suffices hg : W p l e rmX5_guessedTop s m args below meth c H locs 0 0 Q (F0 m 0 ls []) by rw [eH, eL] at hg; exact hg
  clear eH eL
  replace hl : lv_has ls 1 [(0, .ref (q 0))] := hl
  have hf19 := hts (.fieldLink RX5 19 "NumberPile$Pile" "size" "I") (by decide +kernel)
  have hiX5 : ∀ w ∈ u_ws RX5 TX5 15, w ∈ wsX5_guessedTop := fun w h => List.mem_cons_of_mem _ (List.mem_append_right _ h)
  have hf41 := hts (.fieldLink RX5 41 "NumberPile$Pile" "guess" "[I") (by decide +kernel)
  unfold w_X5_guessedTop at hw
  refine lv_aload_n hx hb dX5_guessedTop_0 rfl (lv_at hl 0 rfl) ?_
  refine va_get (D := (dC, dI)) (ci := 7) (v := .int (nI k)) (C := RX5) (T := TX5) (N := 15) hx hb hts hiX5 hown hK hP 0 rfl rfl 1 (by decide) hf19 (fun _ h9 => h9) rfl dX5_guessedTop_1 ?_
  refine lv_if_le (tgt := 21) hx hb dX5_guessedTop_4 (by decide) (fun hc1 => ?_) (fun hc1 => ?_)
  · replace hw := hw.1 hc1
    refine lv_iconst (v := -1) hx hb dX5_guessedTop_21 (by decide) ?_
    exact hret dX5_guessedTop_22 hK hP hD hS hw
  · replace hw := hw.2 hc1
    refine lv_aload_n hx hb dX5_guessedTop_7 rfl (lv_at hl 0 rfl) ?_
    refine va_get (D := (dC, dI)) (ci := 7) (v := .ref (q 14)) (C := RX5) (T := TX5) (N := 15) hx hb hts hiX5 hown hK hP 0 rfl rfl 8 (by decide) hf41 (fun _ h9 => h9) rfl dX5_guessedTop_8 ?_
    refine lv_aload_n hx hb dX5_guessedTop_11 rfl (lv_at hl 0 rfl) ?_
    refine va_get (D := (dC, dI)) (ci := 7) (v := .int (nI k)) (C := RX5) (T := TX5) (N := 15) hx hb hts hiX5 hown hK hP 0 rfl rfl 1 (by decide) hf19 (fun _ h9 => h9) rfl dX5_guessedTop_12 ?_
    refine lv_iconst (v := 1) hx hb dX5_guessedTop_15 (by decide) ?_
    refine lv_isub hx hb dX5_guessedTop_16 ?_
    obtain ⟨hb2, hw⟩ := hw
    refine va_iald hx hb hK hP 14 0 rfl rfl hb2 dX5_guessedTop_17 ?_
    refine lv_goto (tgt := 22) hx hb dX5_guessedTop_18 (by decide) ?_
    exact hret dX5_guessedTop_22 hK hP hD hS hw

def w_X5_sum (n : Nat) (k : Nat) (q : Nat → Nat) (f : Nat → Int32) (t : Nat) (a : Nat → Nat → Int32) (b : Nat → Nat → Int32) (sg : Nat → Nat → Option Nat) (sL : List Nat) (sf : Nat → Nat → Int32)   (Q : Int32 → Unit → Prop) : Prop := ∀ x1 : Int32, x1 = (nI k) → (∀ X4 : Int32 → Int32 → Prop, (∀ (x2 : Int32) (x3 : Int32), ((((x1 ≤ x3) → Q x2 ()) ∧ (¬ (x1 ≤ x3) → (vp_in x3 k) ∧ ∀ x7 : Int32, x7 = ((a 5) x3.toNatClampNeg) → ∀ x8 : Int32, x8 = (x2 + x7) → ∀ x9 : Int32, x9 = x3 + (1 : Int32) → X4 x8 x9))) → X4 x2 x3) → X4 (0 : Int32) (0 : Int32))
abbrev rmX5_sum : Room := { frames := 0, cells := 0, slots := 0, locals := 0 }
set_option maxHeartbeats 4000000 in
set_option maxRecDepth 100000 in
theorem t_X5_sum (l : Launch) (dC : Nat → ClassId) (dI : Nat → Nat → Nat) (adK : Nat → Nat) (adV : Nat → Nat) (cI : ClassId) (cB : ClassId) (cS : ClassId) (q : Nat → Nat) (qb : Nat → Nat) (n : Nat) (k : Nat) (sz : Nat) (f : Nat → Int32) (t : Nat) (a : Nat → Nat → Int32) (b : Nat → Nat → Int32) (sg : Nat → Nat → Option Nat) (sL : List Nat) (sf : Nat → Nat → Int32)    (Q0 : Int32 → Unit → Prop) (hw : w_X5_sum n k q f t a b sg sL sf   Q0) : Met l yX5_sum wsX5_sum rmX5_sum (g_pre (cz adK adV) (dC, dI) vwCl [(cI, .int), (cB, .object RX0), (cS, .object RX7)] ((W_P adK adV cI cB cS q qb n k f t a b sg) ++ va_pl sL (sgF sf)) sz [.ref (q 0)]) (g_qi (dC, dI) vwCl [(cI, .int), (cB, .object RX0), (cS, .object RX7)] (fun u : Unit => ((W_P adK adV cI cB cS q qb n k f t a b sg) ++ va_pl sL (sgF sf))) Q0 (va_A ((W_P adK adV cI cB cS q qb n k f t a b sg) ++ va_pl sL (sgF sf)) sz)) 0 0 (va_A ((W_P adK adV cI cB cS q qb n k f t a b sg) ++ va_pl sL (sgF sf)) sz) := by
  refine g_starti (by decide) rfl (Nat.le_of_ble_eq_true rfl) ?_
  intro p e s m args below meth c A Q ls hx hb hml hown hts hin hK hP hD hA hS hZ hret hl
  obtain ⟨H, eH⟩ : ∃ H : Heap, H = s.heap := ⟨_, rfl⟩
  obtain ⟨locs, eL⟩ : ∃ L : List Loc, L = [] := ⟨_, rfl⟩
  have hS : va_S A s.heap H locs := by rw [eH, eL]; exact hS
  rw [← eH] at hP
  suffices hg : W p l e rmX5_sum s m args below meth c H locs 0 0 Q (F0 m 0 ls []) by rw [eH, eL] at hg; exact hg
  clear eH eL
  replace hl : lv_has ls 6 [(0, .ref (q 0))] := hl
  have hf38 := hts (.fieldLink RX5 38 "NumberPile$Pile" "values" "[I") (by decide +kernel)
  have hiX5 : ∀ w ∈ u_ws RX5 TX5 15, w ∈ wsX5_sum := fun w h => List.mem_cons_of_mem _ (List.mem_append_right _ h)
  unfold w_X5_sum at hw
  refine lv_iconst (v := 0) hx hb dX5_sum_0 (by decide) ?_
  refine lv_istore_n (lv' := [(1, .int (0 : Int32)), (0, .ref (q 0))]) hx hb dX5_sum_1 rfl hl (by decide) rfl (fun ls hl => ?_)
  refine lv_aload_n hx hb dX5_sum_2 rfl (lv_at hl 1 rfl) ?_
  refine va_get (D := (dC, dI)) (ci := 7) (v := .ref (q 13)) (C := RX5) (T := TX5) (N := 15) hx hb hts hiX5 hown hK hP 0 rfl rfl 7 (by decide) hf38 (fun _ h9 => h9) rfl dX5_sum_3 ?_
  refine lv_astore_n (lv' := [(2, .ref (q 13)), (1, .int (0 : Int32)), (0, .ref (q 0))]) hx hb dX5_sum_6 rfl hl (by decide) rfl (fun ls hl => ?_)
  refine lv_aload_n hx hb dX5_sum_7 rfl (lv_at hl 0 rfl) ?_
  refine va_alen hx hb hK hP 13 0 rfl rfl (v := (nI k)) rfl dX5_sum_8 ?_
  refine lv_topi (fun x1 ex1 => ?_)
  replace hw := hw x1 ex1
  refine lv_istore_n (lv' := [(3, .int x1), (2, .ref (q 13)), (1, .int (0 : Int32)), (0, .ref (q 0))]) hx hb dX5_sum_9 rfl hl (by decide) rfl (fun ls hl => ?_)
  refine lv_iconst (v := 0) hx hb dX5_sum_10 (by decide) ?_
  refine lv_istore (lv' := [(4, .int (0 : Int32)), (3, .int x1), (2, .ref (q 13)), (1, .int (0 : Int32)), (0, .ref (q 0))]) hx hb dX5_sum_11 hl (by decide) rfl (fun ls hl => ?_)
  refine hw (fun (x2 : Int32) (x3 : Int32) => ∀ (H : Heap) (locs : List Loc) (ls : Array Slot), va_P (dC, dI) vwCl ((W_P adK adV cI cB cS q qb n k f t a b sg) ++ va_pl sL (sgF sf)) H → va_D A ((W_P adK adV cI cB cS q qb n k f t a b sg) ++ va_pl sL (sgF sf)) → va_S A s.heap H locs → lv_has ls 6 [(1, .int x2), (2, .ref (q 13)), (3, .int x1), (4, .int x3)] → W p l e rmX5_sum s m args below meth c H locs 0 0 Q (F0 m 13 ls [])) ?_ H locs ls hP hD hS (lv_sub hl [3, 2, 1, 0] rfl)
  · intro x2 x3 hw H locs ls hP hD hS hl
    refine lv_iload hx hb dX5_sum_13 (lv_at hl 3 rfl) ?_
    refine lv_iload_n hx hb dX5_sum_15 rfl (lv_at hl 2 rfl) ?_
    refine lv_icmp_ge (tgt := 36) hx hb dX5_sum_16 (by decide) (fun hc5 => ?_) (fun hc5 => ?_)
    · replace hw := hw.1 hc5
      refine lv_iload_n hx hb dX5_sum_36 rfl (lv_at hl 0 rfl) ?_
      exact hret dX5_sum_37 hK hP hD hS hw
    · replace hw := hw.2 hc5
      refine lv_aload_n hx hb dX5_sum_19 rfl (lv_at hl 1 rfl) ?_
      refine lv_iload hx hb dX5_sum_20 (lv_at hl 3 rfl) ?_
      obtain ⟨hb6, hw⟩ := hw
      refine va_iald hx hb hK hP 13 0 rfl rfl hb6 dX5_sum_22 ?_
      refine lv_topi (fun x7 ex7 => ?_)
      replace hw := hw x7 ex7
      refine lv_istore (lv' := [(5, .int x7), (1, .int x2), (2, .ref (q 13)), (3, .int x1), (4, .int x3)]) hx hb dX5_sum_23 hl (by decide) rfl (fun ls hl => ?_)
      refine lv_iload_n hx hb dX5_sum_25 rfl (lv_at hl 1 rfl) ?_
      refine lv_iload hx hb dX5_sum_26 (lv_at hl 0 rfl) ?_
      refine lv_iadd hx hb dX5_sum_28 ?_
      refine lv_topi (fun x8 ex8 => ?_)
      replace hw := hw x8 ex8
      refine lv_istore_n (lv' := [(1, .int x8), (5, .int x7), (2, .ref (q 13)), (3, .int x1), (4, .int x3)]) hx hb dX5_sum_29 rfl hl (by decide) rfl (fun ls hl => ?_)
      obtain ⟨x9, ex9⟩ : ∃ y : Int32, y = x3 + (1 : Int32) := ⟨_, rfl⟩
      replace hw := hw x9 ex9
      refine lv_iinc (v := x9) (lv' := [(4, .int x9), (1, .int x8), (5, .int x7), (2, .ref (q 13)), (3, .int x1)]) hx hb dX5_sum_30 hl (k := 4) rfl (by rw [ex9]; rfl) (by decide) rfl (fun ls hl => ?_)
      refine lv_goto (tgt := 13) hx hb dX5_sum_33 (by decide) ?_
      exact hw H locs ls hP hD hS (lv_sub hl [1, 3, 4, 0] rfl)

def w_X5_countTold (n : Nat) (k : Nat) (q : Nat → Nat) (f : Nat → Int32) (t : Nat) (a : Nat → Nat → Int32) (b : Nat → Nat → Int32) (sg : Nat → Nat → Option Nat) (sL : List Nat) (sf : Nat → Nat → Int32)   (Q : Int32 → Unit → Prop) : Prop := ∀ x1 : Int32, x1 = (nI k) → (∀ X4 : Int32 → Int32 → Prop, (∀ (x2 : Int32) (x3 : Int32), ((((x1 ≤ x3) → Q x2 ()) ∧ (¬ (x1 ≤ x3) → (vp_in x3 k) ∧ ∀ x7 : Int32, x7 = ((a 2) x3.toNatClampNeg) → ∀ J9 : Int32 → Prop, (∀ (x8 : Int32), (∀ x10 : Int32, x10 = (x2 + x8) → ∀ x11 : Int32, x11 = x3 + (1 : Int32) → X4 x10 x11) → J9 x8) → (((¬ x7 = (-1 : Int32)) → J9 (1 : Int32)) ∧ (x7 = (-1 : Int32) → J9 (0 : Int32)))))) → X4 x2 x3) → X4 (0 : Int32) (0 : Int32))
abbrev rmX5_countTold : Room := { frames := 0, cells := 0, slots := 0, locals := 0 }
set_option maxHeartbeats 4000000 in
set_option maxRecDepth 100000 in
theorem t_X5_countTold (l : Launch) (dC : Nat → ClassId) (dI : Nat → Nat → Nat) (adK : Nat → Nat) (adV : Nat → Nat) (cI : ClassId) (cB : ClassId) (cS : ClassId) (q : Nat → Nat) (qb : Nat → Nat) (n : Nat) (k : Nat) (sz : Nat) (f : Nat → Int32) (t : Nat) (a : Nat → Nat → Int32) (b : Nat → Nat → Int32) (sg : Nat → Nat → Option Nat) (sL : List Nat) (sf : Nat → Nat → Int32)    (Q0 : Int32 → Unit → Prop) (hw : w_X5_countTold n k q f t a b sg sL sf   Q0) : Met l yX5_countTold wsX5_countTold rmX5_countTold (g_pre (cz adK adV) (dC, dI) vwCl [(cI, .int), (cB, .object RX0), (cS, .object RX7)] ((W_P adK adV cI cB cS q qb n k f t a b sg) ++ va_pl sL (sgF sf)) sz [.ref (q 0)]) (g_qi (dC, dI) vwCl [(cI, .int), (cB, .object RX0), (cS, .object RX7)] (fun u : Unit => ((W_P adK adV cI cB cS q qb n k f t a b sg) ++ va_pl sL (sgF sf))) Q0 (va_A ((W_P adK adV cI cB cS q qb n k f t a b sg) ++ va_pl sL (sgF sf)) sz)) 0 0 (va_A ((W_P adK adV cI cB cS q qb n k f t a b sg) ++ va_pl sL (sgF sf)) sz) := by
  refine g_starti (by decide) rfl (Nat.le_of_ble_eq_true rfl) ?_
  intro p e s m args below meth c A Q ls hx hb hml hown hts hin hK hP hD hA hS hZ hret hl
  obtain ⟨H, eH⟩ : ∃ H : Heap, H = s.heap := ⟨_, rfl⟩
  obtain ⟨locs, eL⟩ : ∃ L : List Loc, L = [] := ⟨_, rfl⟩
  have hS : va_S A s.heap H locs := by rw [eH, eL]; exact hS
  rw [← eH] at hP
  suffices hg : W p l e rmX5_countTold s m args below meth c H locs 0 0 Q (F0 m 0 ls []) by rw [eH, eL] at hg; exact hg
  clear eH eL
  replace hl : lv_has ls 6 [(0, .ref (q 0))] := hl
  have hf31 := hts (.fieldLink RX5 31 "NumberPile$Pile" "now" "LNumberPile$State;") (by decide +kernel)
  have hiX5 : ∀ w ∈ u_ws RX5 TX5 15, w ∈ wsX5_countTold := fun w h => List.mem_cons_of_mem _ (List.mem_append_left _ (List.mem_append_right _ h))
  have nf118 := va_Nw.use (A := args) rfl (hZ.1 _ (List.mem_of_getElem? (i := 27) (rfl : cz_nest[27]? = some (.fieldLinkNest RX5 118 "NumberPile$State" "told" "[I" "NumberPile"))))
  have hiX8 : ∀ w ∈ u_ws RX8 TX8 6, w ∈ wsX5_countTold := fun w h => List.mem_cons_of_mem _ (List.mem_append_right _ h)
  unfold w_X5_countTold at hw
  refine lv_iconst (v := 0) hx hb dX5_countTold_0 (by decide) ?_
  refine lv_istore_n (lv' := [(1, .int (0 : Int32)), (0, .ref (q 0))]) hx hb dX5_countTold_1 rfl hl (by decide) rfl (fun ls hl => ?_)
  refine lv_aload_n hx hb dX5_countTold_2 rfl (lv_at hl 1 rfl) ?_
  refine va_get (D := (dC, dI)) (ci := 7) (v := .ref (q 3)) (C := RX5) (T := TX5) (N := 15) hx hb hts hiX5 hown hK hP 0 rfl rfl 4 (by decide) hf31 (fun _ h9 => h9) rfl dX5_countTold_3 ?_
  refine va_getN (D := (dC, dI)) (ci := 10) (v := .ref (q 6)) (C := RX8) (T := TX8) (N := 6) hx hb hts hiX8 hown hK hP 3 rfl rfl 2 (by decide) nf118 (fun _ h9 => h9) rfl dX5_countTold_6 ?_
  refine lv_astore_n (lv' := [(2, .ref (q 6)), (1, .int (0 : Int32)), (0, .ref (q 0))]) hx hb dX5_countTold_9 rfl hl (by decide) rfl (fun ls hl => ?_)
  refine lv_aload_n hx hb dX5_countTold_10 rfl (lv_at hl 0 rfl) ?_
  refine va_alen hx hb hK hP 6 0 rfl rfl (v := (nI k)) rfl dX5_countTold_11 ?_
  refine lv_topi (fun x1 ex1 => ?_)
  replace hw := hw x1 ex1
  refine lv_istore_n (lv' := [(3, .int x1), (2, .ref (q 6)), (1, .int (0 : Int32)), (0, .ref (q 0))]) hx hb dX5_countTold_12 rfl hl (by decide) rfl (fun ls hl => ?_)
  refine lv_iconst (v := 0) hx hb dX5_countTold_13 (by decide) ?_
  refine lv_istore (lv' := [(4, .int (0 : Int32)), (3, .int x1), (2, .ref (q 6)), (1, .int (0 : Int32)), (0, .ref (q 0))]) hx hb dX5_countTold_14 hl (by decide) rfl (fun ls hl => ?_)
  refine hw (fun (x2 : Int32) (x3 : Int32) => ∀ (H : Heap) (locs : List Loc) (ls : Array Slot), va_P (dC, dI) vwCl ((W_P adK adV cI cB cS q qb n k f t a b sg) ++ va_pl sL (sgF sf)) H → va_D A ((W_P adK adV cI cB cS q qb n k f t a b sg) ++ va_pl sL (sgF sf)) → va_S A s.heap H locs → lv_has ls 6 [(1, .int x2), (2, .ref (q 6)), (3, .int x1), (4, .int x3)] → W p l e rmX5_countTold s m args below meth c H locs 0 0 Q (F0 m 16 ls [])) ?_ H locs ls hP hD hS (lv_sub hl [3, 2, 1, 0] rfl)
  · intro x2 x3 hw H locs ls hP hD hS hl
    refine lv_iload hx hb dX5_countTold_16 (lv_at hl 3 rfl) ?_
    refine lv_iload_n hx hb dX5_countTold_18 rfl (lv_at hl 2 rfl) ?_
    refine lv_icmp_ge (tgt := 48) hx hb dX5_countTold_19 (by decide) (fun hc5 => ?_) (fun hc5 => ?_)
    · replace hw := hw.1 hc5
      refine lv_iload_n hx hb dX5_countTold_48 rfl (lv_at hl 0 rfl) ?_
      exact hret dX5_countTold_49 hK hP hD hS hw
    · replace hw := hw.2 hc5
      refine lv_aload_n hx hb dX5_countTold_22 rfl (lv_at hl 1 rfl) ?_
      refine lv_iload hx hb dX5_countTold_23 (lv_at hl 3 rfl) ?_
      obtain ⟨hb6, hw⟩ := hw
      refine va_iald hx hb hK hP 6 0 rfl rfl hb6 dX5_countTold_25 ?_
      refine lv_topi (fun x7 ex7 => ?_)
      replace hw := hw x7 ex7
      refine lv_istore (lv' := [(5, .int x7), (1, .int x2), (2, .ref (q 6)), (3, .int x1), (4, .int x3)]) hx hb dX5_countTold_26 hl (by decide) rfl (fun ls hl => ?_)
      refine lv_iload_n hx hb dX5_countTold_28 rfl (lv_at hl 1 rfl) ?_
      refine lv_iload hx hb dX5_countTold_29 (lv_at hl 0 rfl) ?_
      refine lv_iconst (v := -1) hx hb dX5_countTold_31 (by decide) ?_
      replace hw := hw (fun (x8 : Int32) => ∀ (H : Heap) (locs : List Loc) (ls : Array Slot), va_P (dC, dI) vwCl ((W_P adK adV cI cB cS q qb n k f t a b sg) ++ va_pl sL (sgF sf)) H → va_D A ((W_P adK adV cI cB cS q qb n k f t a b sg) ++ va_pl sL (sgF sf)) → va_S A s.heap H locs → lv_has ls 6 [(2, .ref (q 6)), (3, .int x1), (4, .int x3)] → W p l e rmX5_countTold s m args below meth c H locs 0 0 Q (F0 m 40 ls [.int x8, .int x2])) (by
        intro x8 hw H locs ls hP hD hS hl
        refine lv_iadd hx hb dX5_countTold_40 ?_
        refine lv_topi (fun x10 ex10 => ?_)
        replace hw := hw x10 ex10
        refine lv_istore_n (lv' := [(1, .int x10), (2, .ref (q 6)), (3, .int x1), (4, .int x3)]) hx hb dX5_countTold_41 rfl hl (by decide) rfl (fun ls hl => ?_)
        obtain ⟨x11, ex11⟩ : ∃ y : Int32, y = x3 + (1 : Int32) := ⟨_, rfl⟩
        replace hw := hw x11 ex11
        refine lv_iinc (v := x11) (lv' := [(4, .int x11), (1, .int x10), (2, .ref (q 6)), (3, .int x1)]) hx hb dX5_countTold_42 hl (k := 3) rfl (by rw [ex11]; rfl) (by decide) rfl (fun ls hl => ?_)
        refine lv_goto (tgt := 16) hx hb dX5_countTold_45 (by decide) ?_
        exact hw H locs ls hP hD hS (lv_sub hl [1, 2, 3, 0] rfl))
      refine lv_icmp_ne (tgt := 39) hx hb dX5_countTold_32 (by decide) (fun hc12 => ?_) (fun hc12 => ?_)
      · replace hw := hw.1 hc12
        refine lv_iconst (v := 1) hx hb dX5_countTold_39 (by decide) ?_
        exact hw H locs ls hP hD hS (lv_sub hl [2, 3, 4] rfl)
      · replace hw := hw.2 hc12
        refine lv_iconst (v := 0) hx hb dX5_countTold_35 (by decide) ?_
        refine lv_goto (tgt := 40) hx hb dX5_countTold_36 (by decide) ?_
        exact hw H locs ls hP hD hS (lv_sub hl [2, 3, 4] rfl)

def w_X5_countTrue (n : Nat) (k : Nat) (q : Nat → Nat) (f : Nat → Int32) (t : Nat) (a : Nat → Nat → Int32) (b : Nat → Nat → Int32) (sg : Nat → Nat → Option Nat) (sL : List Nat) (sf : Nat → Nat → Int32)   (Q : Int32 → Unit → Prop) : Prop := (∀ X3 : Int32 → Int32 → Prop, (∀ (x1 : Int32) (x2 : Int32), (((((nI k) ≤ x2) → Q x1 ()) ∧ (¬ ((nI k) ≤ x2) → (vp_in x2 k) ∧ (vp_in x2 k) ∧ ∀ J8 : Int32 → Prop, (∀ (x7 : Int32), (∀ x9 : Int32, x9 = (x1 + x7) → ∀ x10 : Int32, x10 = x2 + (1 : Int32) → X3 x9 x10) → J8 x7) → (((¬ ((a 2) x2.toNatClampNeg) = ((a 5) x2.toNatClampNeg)) → J8 (0 : Int32)) ∧ (((a 2) x2.toNatClampNeg) = ((a 5) x2.toNatClampNeg) → J8 (1 : Int32)))))) → X3 x1 x2) → X3 (0 : Int32) (0 : Int32))
abbrev rmX5_countTrue : Room := { frames := 0, cells := 0, slots := 0, locals := 0 }
set_option maxHeartbeats 4000000 in
set_option maxRecDepth 100000 in
theorem t_X5_countTrue (l : Launch) (dC : Nat → ClassId) (dI : Nat → Nat → Nat) (adK : Nat → Nat) (adV : Nat → Nat) (cI : ClassId) (cB : ClassId) (cS : ClassId) (q : Nat → Nat) (qb : Nat → Nat) (n : Nat) (k : Nat) (sz : Nat) (f : Nat → Int32) (t : Nat) (a : Nat → Nat → Int32) (b : Nat → Nat → Int32) (sg : Nat → Nat → Option Nat) (sL : List Nat) (sf : Nat → Nat → Int32)    (Q0 : Int32 → Unit → Prop) (hw : w_X5_countTrue n k q f t a b sg sL sf   Q0) : Met l yX5_countTrue wsX5_countTrue rmX5_countTrue (g_pre (cz adK adV) (dC, dI) vwCl [(cI, .int), (cB, .object RX0), (cS, .object RX7)] ((W_P adK adV cI cB cS q qb n k f t a b sg) ++ va_pl sL (sgF sf)) sz [.ref (q 0)]) (g_qi (dC, dI) vwCl [(cI, .int), (cB, .object RX0), (cS, .object RX7)] (fun u : Unit => ((W_P adK adV cI cB cS q qb n k f t a b sg) ++ va_pl sL (sgF sf))) Q0 (va_A ((W_P adK adV cI cB cS q qb n k f t a b sg) ++ va_pl sL (sgF sf)) sz)) 0 0 (va_A ((W_P adK adV cI cB cS q qb n k f t a b sg) ++ va_pl sL (sgF sf)) sz) := by
  refine g_starti (by decide) rfl (Nat.le_of_ble_eq_true rfl) ?_
  intro p e s m args below meth c A Q ls hx hb hml hown hts hin hK hP hD hA hS hZ hret hl
  obtain ⟨H, eH⟩ : ∃ H : Heap, H = s.heap := ⟨_, rfl⟩
  obtain ⟨locs, eL⟩ : ∃ L : List Loc, L = [] := ⟨_, rfl⟩
  have hS : va_S A s.heap H locs := by rw [eH, eL]; exact hS
  rw [← eH] at hP
  suffices hg : W p l e rmX5_countTrue s m args below meth c H locs 0 0 Q (F0 m 0 ls []) by rw [eH, eL] at hg; exact hg
  clear eH eL
  replace hl : lv_has ls 3 [(0, .ref (q 0))] := hl
  have hf19 := hts (.fieldLink RX5 19 "NumberPile$Pile" "size" "I") (by decide +kernel)
  have hiX5 : ∀ w ∈ u_ws RX5 TX5 15, w ∈ wsX5_countTrue := fun w h => List.mem_cons_of_mem _ (List.mem_append_left _ (List.mem_append_right _ h))
  have hf31 := hts (.fieldLink RX5 31 "NumberPile$Pile" "now" "LNumberPile$State;") (by decide +kernel)
  have nf118 := va_Nw.use (A := args) rfl (hZ.1 _ (List.mem_of_getElem? (i := 27) (rfl : cz_nest[27]? = some (.fieldLinkNest RX5 118 "NumberPile$State" "told" "[I" "NumberPile"))))
  have hiX8 : ∀ w ∈ u_ws RX8 TX8 6, w ∈ wsX5_countTrue := fun w h => List.mem_cons_of_mem _ (List.mem_append_right _ h)
  have hf38 := hts (.fieldLink RX5 38 "NumberPile$Pile" "values" "[I") (by decide +kernel)
  unfold w_X5_countTrue at hw
  refine lv_iconst (v := 0) hx hb dX5_countTrue_0 (by decide) ?_
  refine lv_istore_n (lv' := [(1, .int (0 : Int32)), (0, .ref (q 0))]) hx hb dX5_countTrue_1 rfl hl (by decide) rfl (fun ls hl => ?_)
  refine lv_iconst (v := 0) hx hb dX5_countTrue_2 (by decide) ?_
  refine lv_istore_n (lv' := [(2, .int (0 : Int32)), (1, .int (0 : Int32)), (0, .ref (q 0))]) hx hb dX5_countTrue_3 rfl hl (by decide) rfl (fun ls hl => ?_)
  refine hw (fun (x1 : Int32) (x2 : Int32) => ∀ (H : Heap) (locs : List Loc) (ls : Array Slot), va_P (dC, dI) vwCl ((W_P adK adV cI cB cS q qb n k f t a b sg) ++ va_pl sL (sgF sf)) H → va_D A ((W_P adK adV cI cB cS q qb n k f t a b sg) ++ va_pl sL (sgF sf)) → va_S A s.heap H locs → lv_has ls 3 [(0, .ref (q 0)), (1, .int x1), (2, .int x2)] → W p l e rmX5_countTrue s m args below meth c H locs 0 0 Q (F0 m 4 ls [])) ?_ H locs ls hP hD hS (lv_sub hl [2, 1, 0] rfl)
  · intro x1 x2 hw H locs ls hP hD hS hl
    refine lv_iload_n hx hb dX5_countTrue_4 rfl (lv_at hl 2 rfl) ?_
    refine lv_aload_n hx hb dX5_countTrue_5 rfl (lv_at hl 0 rfl) ?_
    refine va_get (D := (dC, dI)) (ci := 7) (v := .int (nI k)) (C := RX5) (T := TX5) (N := 15) hx hb hts hiX5 hown hK hP 0 rfl rfl 1 (by decide) hf19 (fun _ h9 => h9) rfl dX5_countTrue_6 ?_
    refine lv_icmp_ge (tgt := 44) hx hb dX5_countTrue_9 (by decide) (fun hc4 => ?_) (fun hc4 => ?_)
    · replace hw := hw.1 hc4
      refine lv_iload_n hx hb dX5_countTrue_44 rfl (lv_at hl 1 rfl) ?_
      exact hret dX5_countTrue_45 hK hP hD hS hw
    · replace hw := hw.2 hc4
      refine lv_iload_n hx hb dX5_countTrue_12 rfl (lv_at hl 1 rfl) ?_
      refine lv_aload_n hx hb dX5_countTrue_13 rfl (lv_at hl 0 rfl) ?_
      refine va_get (D := (dC, dI)) (ci := 7) (v := .ref (q 3)) (C := RX5) (T := TX5) (N := 15) hx hb hts hiX5 hown hK hP 0 rfl rfl 4 (by decide) hf31 (fun _ h9 => h9) rfl dX5_countTrue_14 ?_
      refine va_getN (D := (dC, dI)) (ci := 10) (v := .ref (q 6)) (C := RX8) (T := TX8) (N := 6) hx hb hts hiX8 hown hK hP 3 rfl rfl 2 (by decide) nf118 (fun _ h9 => h9) rfl dX5_countTrue_17 ?_
      refine lv_iload_n hx hb dX5_countTrue_20 rfl (lv_at hl 2 rfl) ?_
      obtain ⟨hb5, hw⟩ := hw
      refine va_iald hx hb hK hP 6 0 rfl rfl hb5 dX5_countTrue_21 ?_
      refine lv_aload_n hx hb dX5_countTrue_22 rfl (lv_at hl 0 rfl) ?_
      refine va_get (D := (dC, dI)) (ci := 7) (v := .ref (q 13)) (C := RX5) (T := TX5) (N := 15) hx hb hts hiX5 hown hK hP 0 rfl rfl 7 (by decide) hf38 (fun _ h9 => h9) rfl dX5_countTrue_23 ?_
      refine lv_iload_n hx hb dX5_countTrue_26 rfl (lv_at hl 2 rfl) ?_
      obtain ⟨hb6, hw⟩ := hw
      refine va_iald hx hb hK hP 13 0 rfl rfl hb6 dX5_countTrue_27 ?_
      replace hw := hw (fun (x7 : Int32) => ∀ (H : Heap) (locs : List Loc) (ls : Array Slot), va_P (dC, dI) vwCl ((W_P adK adV cI cB cS q qb n k f t a b sg) ++ va_pl sL (sgF sf)) H → va_D A ((W_P adK adV cI cB cS q qb n k f t a b sg) ++ va_pl sL (sgF sf)) → va_S A s.heap H locs → lv_has ls 3 [(0, .ref (q 0)), (2, .int x2)] → W p l e rmX5_countTrue s m args below meth c H locs 0 0 Q (F0 m 36 ls [.int x7, .int x1])) (by
        intro x7 hw H locs ls hP hD hS hl
        refine lv_iadd hx hb dX5_countTrue_36 ?_
        refine lv_topi (fun x9 ex9 => ?_)
        replace hw := hw x9 ex9
        refine lv_istore_n (lv' := [(1, .int x9), (0, .ref (q 0)), (2, .int x2)]) hx hb dX5_countTrue_37 rfl hl (by decide) rfl (fun ls hl => ?_)
        obtain ⟨x10, ex10⟩ : ∃ y : Int32, y = x2 + (1 : Int32) := ⟨_, rfl⟩
        replace hw := hw x10 ex10
        refine lv_iinc (v := x10) (lv' := [(2, .int x10), (1, .int x9), (0, .ref (q 0))]) hx hb dX5_countTrue_38 hl (k := 2) rfl (by rw [ex10]; rfl) (by decide) rfl (fun ls hl => ?_)
        refine lv_goto (tgt := 4) hx hb dX5_countTrue_41 (by decide) ?_
        exact hw H locs ls hP hD hS (lv_sub hl [2, 1, 0] rfl))
      refine lv_icmp_ne (tgt := 35) hx hb dX5_countTrue_28 (by decide) (fun hc11 => ?_) (fun hc11 => ?_)
      · replace hw := hw.1 hc11
        refine lv_iconst (v := 0) hx hb dX5_countTrue_35 (by decide) ?_
        exact hw H locs ls hP hD hS (lv_sub hl [0, 2] rfl)
      · replace hw := hw.2 hc11
        refine lv_iconst (v := 1) hx hb dX5_countTrue_31 (by decide) ?_
        refine lv_goto (tgt := 36) hx hb dX5_countTrue_32 (by decide) ?_
        exact hw H locs ls hP hD hS (lv_sub hl [0, 2] rfl)

def w_X5_figuresChanged (n : Nat) (k : Nat) (q : Nat → Nat) (f : Nat → Int32) (t : Nat) (a : Nat → Nat → Int32) (b : Nat → Nat → Int32) (sg : Nat → Nat → Option Nat) (sL : List Nat) (sf : Nat → Nat → Int32)   (Q : Int32 → ((Nat → Int32) × (Nat → Nat → Int32)) → Prop) : Prop := ∀ x1 : Int32, x1 = ((f 4) + (1 : Int32)) → w_X5_build n k q (upd f 4 x1) t a b sg sL sf  (fun (u2 : ((Nat → Nat → Int32))) => w_X5_top n k q (upd f 4 x1) t u2 b sg sL sf  (fun (r4 : Int32) (u3 : Unit) => Q r4 ((upd f 4 x1), u2)))
abbrev rmX5_figuresChanged : Room := { frames := 4, cells := 0, slots := 0, locals := 105 }
set_option maxHeartbeats 4000000 in
set_option maxRecDepth 100000 in
theorem t_X5_figuresChanged (l : Launch) (dC : Nat → ClassId) (dI : Nat → Nat → Nat) (adK : Nat → Nat) (adV : Nat → Nat) (cI : ClassId) (cB : ClassId) (cS : ClassId) (q : Nat → Nat) (qb : Nat → Nat) (n : Nat) (k : Nat) (sz : Nat) (f : Nat → Int32) (t : Nat) (a : Nat → Nat → Int32) (b : Nat → Nat → Int32) (sg : Nat → Nat → Option Nat) (sL : List Nat) (sf : Nat → Nat → Int32)    (Q0 : Int32 → ((Nat → Int32) × (Nat → Nat → Int32)) → Prop) (hw : w_X5_figuresChanged n k q f t a b sg sL sf   Q0) : Met l yX5_figuresChanged wsX5_figuresChanged rmX5_figuresChanged (g_pre (cz adK adV) (dC, dI) vwCl [(cI, .int), (cB, .object RX0), (cS, .object RX7)] ((W_P adK adV cI cB cS q qb n k f t a b sg) ++ va_pl sL (sgF sf)) sz [.ref (q 0)]) (g_qi (dC, dI) vwCl [(cI, .int), (cB, .object RX0), (cS, .object RX7)] (fun u : ((Nat → Int32) × (Nat → Nat → Int32)) => ((W_P adK adV cI cB cS q qb n k (u.1) t (u.2) b sg) ++ va_pl sL (sgF sf))) Q0 (va_A ((W_P adK adV cI cB cS q qb n k f t a b sg) ++ va_pl sL (sgF sf)) sz)) 0 0 (va_A ((W_P adK adV cI cB cS q qb n k f t a b sg) ++ va_pl sL (sgF sf)) sz) := by
  refine g_starti (by decide) rfl (Nat.le_of_ble_eq_true rfl) ?_
  intro p e s m args below meth c A Q ls hx hb hml hown hts hin hK hP hD hA hS hZ hret hl
  obtain ⟨H, eH⟩ : ∃ H : Heap, H = s.heap := ⟨_, rfl⟩
  obtain ⟨locs, eL⟩ : ∃ L : List Loc, L = [] := ⟨_, rfl⟩
  have hS : va_S A s.heap H locs := by rw [eH, eL]; exact hS
  rw [← eH] at hP
  suffices hg : W p l e rmX5_figuresChanged s m args below meth c H locs 0 0 Q (F0 m 0 ls []) by rw [eH, eL] at hg; exact hg
  clear eH eL
  replace hl : lv_has ls 1 [(0, .ref (q 0))] := hl
  have hf31 := hts (.fieldLink RX5 31 "NumberPile$Pile" "now" "LNumberPile$State;") (by decide +kernel)
  have hiX5 : ∀ w ∈ u_ws RX5 TX5 15, w ∈ wsX5_figuresChanged := fun w h => List.mem_cons_of_mem _ (List.mem_append_left _ (List.mem_append_right _ h))
  have nf121 := va_Nw.use (A := args) rfl (hZ.1 _ (List.mem_of_getElem? (i := 28) (rfl : cz_nest[28]? = some (.fieldLinkNest RX5 121 "NumberPile$State" "changes" "I" "NumberPile"))))
  have hiX8 : ∀ w ∈ u_ws RX8 TX8 6, w ∈ wsX5_figuresChanged := fun w h => List.mem_cons_of_mem _ (List.mem_append_right _ h)
  unfold w_X5_figuresChanged at hw
  refine lv_aload_n hx hb dX5_figuresChanged_0 rfl (lv_at hl 0 rfl) ?_
  refine va_get (D := (dC, dI)) (ci := 7) (v := .ref (q 3)) (C := RX5) (T := TX5) (N := 15) hx hb hts hiX5 hown hK hP 0 rfl rfl 4 (by decide) hf31 (fun _ h9 => h9) rfl dX5_figuresChanged_1 ?_
  refine lv_dup hx hb dX5_figuresChanged_4 rfl ?_
  refine va_getN (D := (dC, dI)) (ci := 10) (v := .int (f 4)) (C := RX8) (T := TX8) (N := 6) hx hb hts hiX8 hown hK hP 3 rfl rfl 5 (by decide) nf121 (fun _ h9 => h9) rfl dX5_figuresChanged_5 ?_
  refine lv_iconst (v := 1) hx hb dX5_figuresChanged_8 (by decide) ?_
  refine lv_iadd hx hb dX5_figuresChanged_9 ?_
  refine lv_topi (fun x1 ex1 => ?_)
  replace hw := hw x1 ex1
  refine va_putN (D := (dC, dI)) (ci := 10) (v := .int x1) (ty := (.int)) (C := RX8) (T := TX8) (N := 6) hx hb hts hiX8 tyX8 tyX8_ok nmX8 hown hK hP hD hS 3 rfl rfl 5 (by decide) nf121 (fun _ h9 => h9) rfl (by decide +kernel) rfl rfl (Nat.le_of_ble_eq_true rfl) dX5_figuresChanged_10 (fun H locs hP hD hS => ?_)
  replace hP : va_P (dC, dI) vwCl ((W_P adK adV cI cB cS q qb n k (upd f 4 x1) t a b sg) ++ va_pl sL (sgF sf)) H := hP
  replace hD : va_D A ((W_P adK adV cI cB cS q qb n k (upd f 4 x1) t a b sg) ++ va_pl sL (sgF sf)) := hD
  refine lv_aload_n hx hb dX5_figuresChanged_13 rfl (lv_at hl 0 rfl) ?_
  refine g_cv (g_J.poolP (W2 := fun u2 : ((Nat → Nat → Int32)) => (W_P adK adV cI cB cS q qb n k (upd f 4 x1) t u2 b sg)) (pl := va_pl sL (sgF sf)) (PL := fun u2 : ((Nat → Nat → Int32)) => va_pl sL (sgF sf)) (RX := fun u2 : ((Nat → Nat → Int32)) => (W_P adK adV cI cB cS q qb n k (upd f 4 x1) t u2 b sg)) [] [0, 1, 2, 3, 4, 5, 6, 7, 8, 9, 10, 11, 12, 13, 14, 15, 16, 17, 18, 19, 20, 21, 22, 23, 24, 25, 26] [] [0, 1, 2, 3, 4, 5, 6, 7, 8, 9, 10, 11, 12, 13, 14, 15, 16, 17, 18, 19, 20, 21, 22, 23, 24, 25, 26] rfl (by decide) rfl (by decide) (by decide) (fun _ => rfl) (by decide)) [0, 1, 2] hK hP hD hS hA rfl (fun hPc hDc hKc hFc => va_runV (As := []) (rest := []) ⟨hx, hb, hml, hown, hts⟩ (t_X5_build l dC dI adK adV cI cB cS q qb n k H.size (upd f 4 x1) t a b sg sL sf  _ hw) (cwV 0 hts gX5_figuresChanged_X5_build rfl rfl rfl (by decide +kernel) ⟨Nat.le_of_ble_eq_true rfl, Nat.le_of_ble_eq_true rfl⟩) (g_pV czb (q0 := 0) rfl rfl hPc hDc hKc (czc hZ hS hFc)) rfl rfl hl.1 rfl (lv_room (Nat.le_of_ble_eq_true rfl)) dX5_figuresChanged_14 ⟨Nat.le_of_ble_eq_true rfl, Nat.le_of_ble_eq_true rfl⟩) (fun u2 H locs hw hP hD hS => ?_)
  replace hP : va_P (dC, dI) vwCl ((W_P adK adV cI cB cS q qb n k (upd f 4 x1) t u2 b sg) ++ va_pl sL (sgF sf)) H := hP
  replace hD : va_D A ((W_P adK adV cI cB cS q qb n k (upd f 4 x1) t u2 b sg) ++ va_pl sL (sgF sf)) := hD
  refine lv_aload_n hx hb dX5_figuresChanged_17 rfl (lv_at hl 0 rfl) ?_
  refine g_ci (g_J.poolP (W2 := fun u3 : Unit => (W_P adK adV cI cB cS q qb n k (upd f 4 x1) t u2 b sg)) (pl := va_pl sL (sgF sf)) (PL := fun u3 : Unit => va_pl sL (sgF sf)) (RX := fun u3 : Unit => (W_P adK adV cI cB cS q qb n k (upd f 4 x1) t u2 b sg)) [] [0, 1, 2, 3, 4, 5, 6, 7, 8, 9, 10, 11, 12, 13, 14, 15, 16, 17, 18, 19, 20, 21, 22, 23, 24, 25, 26] [] [0, 1, 2, 3, 4, 5, 6, 7, 8, 9, 10, 11, 12, 13, 14, 15, 16, 17, 18, 19, 20, 21, 22, 23, 24, 25, 26] rfl (by decide) rfl (by decide) (by decide) (fun _ => rfl) (by decide)) [0, 1, 2] hK hP hD hS hA rfl (fun hPc hDc hKc hFc => va_runV (As := []) (rest := []) ⟨hx, hb, hml, hown, hts⟩ (t_X5_top l dC dI adK adV cI cB cS q qb n k H.size (upd f 4 x1) t u2 b sg sL sf  _ hw) (cwV 0 hts gX5_figuresChanged_X5_top rfl rfl rfl (by decide +kernel) ⟨Nat.le_of_ble_eq_true rfl, Nat.le_of_ble_eq_true rfl⟩) (g_pV czb (q0 := 0) rfl rfl hPc hDc hKc (czc hZ hS hFc)) rfl rfl hl.1 rfl (lv_room (Nat.le_of_ble_eq_true rfl)) dX5_figuresChanged_18 ⟨Nat.le_of_ble_eq_true rfl, Nat.le_of_ble_eq_true rfl⟩) (fun r4 u3 H locs hw hP hD hS => ?_)
  replace hP : va_P (dC, dI) vwCl ((W_P adK adV cI cB cS q qb n k (upd f 4 x1) t u2 b sg) ++ va_pl sL (sgF sf)) H := hP
  replace hD : va_D A ((W_P adK adV cI cB cS q qb n k (upd f 4 x1) t u2 b sg) ++ va_pl sL (sgF sf)) := hD
  exact hret dX5_figuresChanged_21 hK hP hD hS hw

def w_X5_setKind (n : Nat) (k : Nat) (q : Nat → Nat) (f : Nat → Int32) (t : Nat) (a : Nat → Nat → Int32) (b : Nat → Nat → Int32) (sg : Nat → Nat → Option Nat) (sL : List Nat) (sf : Nat → Nat → Int32)  (p0 : Int32) (p1 : Int32) (Q : ((Nat → Int32) × (Nat → Nat → Int32) × (Nat → Nat → Int32)) → Prop) : Prop := (vp_in (p0 - (nI n)) (k - n)) ∧ w_X5_build n k q (upd f 2 (0 : Int32)) t a (va_up b 0 (upd (b 0) (p0 - (nI n)).toNatClampNeg p1)) sg sL sf  (fun (u2 : ((Nat → Nat → Int32))) => Q ((upd f 2 (0 : Int32)), u2, (va_up b 0 (upd (b 0) (p0 - (nI n)).toNatClampNeg p1))))
abbrev rmX5_setKind : Room := { frames := 4, cells := 0, slots := 0, locals := 105 }
set_option maxHeartbeats 4000000 in
set_option maxRecDepth 100000 in
theorem t_X5_setKind (l : Launch) (dC : Nat → ClassId) (dI : Nat → Nat → Nat) (adK : Nat → Nat) (adV : Nat → Nat) (cI : ClassId) (cB : ClassId) (cS : ClassId) (q : Nat → Nat) (qb : Nat → Nat) (n : Nat) (k : Nat) (sz : Nat) (f : Nat → Int32) (t : Nat) (a : Nat → Nat → Int32) (b : Nat → Nat → Int32) (sg : Nat → Nat → Option Nat) (sL : List Nat) (sf : Nat → Nat → Int32)   (p0 : Int32) (p1 : Int32) (Q0 : ((Nat → Int32) × (Nat → Nat → Int32) × (Nat → Nat → Int32)) → Prop) (hw : w_X5_setKind n k q f t a b sg sL sf  p0 p1 Q0) : Met l yX5_setKind wsX5_setKind rmX5_setKind (g_pre (cz adK adV) (dC, dI) vwCl [(cI, .int), (cB, .object RX0), (cS, .object RX7)] ((W_P adK adV cI cB cS q qb n k f t a b sg) ++ va_pl sL (sgF sf)) sz [.ref (q 0), .int p0, .int p1]) (g_qv (dC, dI) vwCl [(cI, .int), (cB, .object RX0), (cS, .object RX7)] (fun u : ((Nat → Int32) × (Nat → Nat → Int32) × (Nat → Nat → Int32)) => ((W_P adK adV cI cB cS q qb n k (u.1) t (u.2.1) (u.2.2) sg) ++ va_pl sL (sgF sf))) Q0 (va_A ((W_P adK adV cI cB cS q qb n k f t a b sg) ++ va_pl sL (sgF sf)) sz)) 0 0 (va_A ((W_P adK adV cI cB cS q qb n k f t a b sg) ++ va_pl sL (sgF sf)) sz) := by
  refine g_startv (by decide) rfl (Nat.le_of_ble_eq_true rfl) ?_
  intro p e s m args below meth c A Q ls hx hb hml hown hts hin hK hP hD hA hS hZ hret hl
  obtain ⟨H, eH⟩ : ∃ H : Heap, H = s.heap := ⟨_, rfl⟩
  obtain ⟨locs, eL⟩ : ∃ L : List Loc, L = [] := ⟨_, rfl⟩
  have hS : va_S A s.heap H locs := by rw [eH, eL]; exact hS
  rw [← eH] at hP
  suffices hg : W p l e rmX5_setKind s m args below meth c H locs 0 0 Q (F0 m 0 ls []) by rw [eH, eL] at hg; exact hg
  clear eH eL
  replace hl : lv_has ls 3 [(0, .ref (q 0)), (1, .int p0), (2, .int p1)] := hl
  have hf31 := hts (.fieldLink RX5 31 "NumberPile$Pile" "now" "LNumberPile$State;") (by decide +kernel)
  have hiX5 : ∀ w ∈ u_ws RX5 TX5 15, w ∈ wsX5_setKind := fun w h => List.mem_cons_of_mem _ (List.mem_append_left _ (List.mem_append_right _ h))
  have nf49 := va_Nw.use (A := args) rfl (hZ.1 _ (List.mem_of_getElem? (i := 23) (rfl : cz_nest[23]? = some (.fieldLinkNest RX5 49 "NumberPile$State" "above" "[I" "NumberPile"))))
  have hiX8 : ∀ w ∈ u_ws RX8 TX8 6, w ∈ wsX5_setKind := fun w h => List.mem_cons_of_mem _ (List.mem_append_right _ h)
  have hf15 := hts (.fieldLink RX5 15 "NumberPile$Pile" "wide" "I") (by decide +kernel)
  have hf127 := hts (.fieldLink RX5 127 "NumberPile$Pile" "isCounted" "Z") (by decide +kernel)
  unfold w_X5_setKind at hw
  refine lv_aload_n hx hb dX5_setKind_0 rfl (lv_at hl 0 rfl) ?_
  refine va_get (D := (dC, dI)) (ci := 7) (v := .ref (q 3)) (C := RX5) (T := TX5) (N := 15) hx hb hts hiX5 hown hK hP 0 rfl rfl 4 (by decide) hf31 (fun _ h9 => h9) rfl dX5_setKind_1 ?_
  refine va_getN (D := (dC, dI)) (ci := 10) (v := .ref (q 4)) (C := RX8) (T := TX8) (N := 6) hx hb hts hiX8 hown hK hP 3 rfl rfl 0 (by decide) nf49 (fun _ h9 => h9) rfl dX5_setKind_4 ?_
  refine lv_iload_n hx hb dX5_setKind_7 rfl (lv_at hl 1 rfl) ?_
  refine lv_aload_n hx hb dX5_setKind_8 rfl (lv_at hl 0 rfl) ?_
  refine va_get (D := (dC, dI)) (ci := 7) (v := .int (nI n)) (C := RX5) (T := TX5) (N := 15) hx hb hts hiX5 hown hK hP 0 rfl rfl 0 (by decide) hf15 (fun _ h9 => h9) rfl dX5_setKind_9 ?_
  refine lv_isub hx hb dX5_setKind_12 ?_
  refine lv_iload_n hx hb dX5_setKind_13 rfl (lv_at hl 2 rfl) ?_
  obtain ⟨hb1, hw⟩ := hw
  refine va_iast hx hb hK hP hD hS 4 0 rfl rfl hb1 dX5_setKind_14 (fun H locs hP hD hS => ?_)
  replace hP : va_P (dC, dI) vwCl ((W_P adK adV cI cB cS q qb n k f t a (va_up b 0 (upd (b 0) (p0 - (nI n)).toNatClampNeg p1)) sg) ++ va_pl sL (sgF sf)) H := hP
  replace hD : va_D A ((W_P adK adV cI cB cS q qb n k f t a (va_up b 0 (upd (b 0) (p0 - (nI n)).toNatClampNeg p1)) sg) ++ va_pl sL (sgF sf)) := hD
  refine lv_aload_n hx hb dX5_setKind_15 rfl (lv_at hl 0 rfl) ?_
  refine lv_iconst (v := 0) hx hb dX5_setKind_16 (by decide) ?_
  refine va_put (D := (dC, dI)) (ci := 7) (v := .int (0 : Int32)) (ty := (.boolean)) (C := RX5) (T := TX5) (N := 15) hx hb hts hiX5 tyX5 tyX5_ok nmX5 hown hK hP hD hS 0 rfl rfl 14 (by decide) hf127 (fun _ h9 => h9) rfl (by decide +kernel) rfl rfl (Nat.le_of_ble_eq_true rfl) dX5_setKind_17 (fun H locs hP hD hS => ?_)
  replace hP : va_P (dC, dI) vwCl ((W_P adK adV cI cB cS q qb n k (upd f 2 (0 : Int32)) t a (va_up b 0 (upd (b 0) (p0 - (nI n)).toNatClampNeg p1)) sg) ++ va_pl sL (sgF sf)) H := hP
  replace hD : va_D A ((W_P adK adV cI cB cS q qb n k (upd f 2 (0 : Int32)) t a (va_up b 0 (upd (b 0) (p0 - (nI n)).toNatClampNeg p1)) sg) ++ va_pl sL (sgF sf)) := hD
  refine lv_aload_n hx hb dX5_setKind_20 rfl (lv_at hl 0 rfl) ?_
  refine g_cv (g_J.poolP (W2 := fun u2 : ((Nat → Nat → Int32)) => (W_P adK adV cI cB cS q qb n k (upd f 2 (0 : Int32)) t u2 (va_up b 0 (upd (b 0) (p0 - (nI n)).toNatClampNeg p1)) sg)) (pl := va_pl sL (sgF sf)) (PL := fun u2 : ((Nat → Nat → Int32)) => va_pl sL (sgF sf)) (RX := fun u2 : ((Nat → Nat → Int32)) => (W_P adK adV cI cB cS q qb n k (upd f 2 (0 : Int32)) t u2 (va_up b 0 (upd (b 0) (p0 - (nI n)).toNatClampNeg p1)) sg)) [] [0, 1, 2, 3, 4, 5, 6, 7, 8, 9, 10, 11, 12, 13, 14, 15, 16, 17, 18, 19, 20, 21, 22, 23, 24, 25, 26] [] [0, 1, 2, 3, 4, 5, 6, 7, 8, 9, 10, 11, 12, 13, 14, 15, 16, 17, 18, 19, 20, 21, 22, 23, 24, 25, 26] rfl (by decide) rfl (by decide) (by decide) (fun _ => rfl) (by decide)) [0, 1, 2] hK hP hD hS hA rfl (fun hPc hDc hKc hFc => va_runV (As := []) (rest := []) ⟨hx, hb, hml, hown, hts⟩ (t_X5_build l dC dI adK adV cI cB cS q qb n k H.size (upd f 2 (0 : Int32)) t a (va_up b 0 (upd (b 0) (p0 - (nI n)).toNatClampNeg p1)) sg sL sf  _ hw) (cwV 0 hts gX5_setKind_X5_build rfl rfl rfl (by decide +kernel) ⟨Nat.le_of_ble_eq_true rfl, Nat.le_of_ble_eq_true rfl⟩) (g_pV czb (q0 := 0) rfl rfl hPc hDc hKc (czc hZ hS hFc)) rfl rfl hl.1 rfl (lv_room (Nat.le_of_ble_eq_true rfl)) dX5_setKind_21 ⟨Nat.le_of_ble_eq_true rfl, Nat.le_of_ble_eq_true rfl⟩) (fun u2 H locs hw hP hD hS => ?_)
  replace hP : va_P (dC, dI) vwCl ((W_P adK adV cI cB cS q qb n k (upd f 2 (0 : Int32)) t u2 (va_up b 0 (upd (b 0) (p0 - (nI n)).toNatClampNeg p1)) sg) ++ va_pl sL (sgF sf)) H := hP
  replace hD : va_D A ((W_P adK adV cI cB cS q qb n k (upd f 2 (0 : Int32)) t u2 (va_up b 0 (upd (b 0) (p0 - (nI n)).toNatClampNeg p1)) sg) ++ va_pl sL (sgF sf)) := hD
  exact hret dX5_setKind_24 hK hP hD hS hw

def w_X5_setTold (n : Nat) (k : Nat) (q : Nat → Nat) (f : Nat → Int32) (t : Nat) (a : Nat → Nat → Int32) (b : Nat → Nat → Int32) (sg : Nat → Nat → Option Nat) (sL : List Nat) (sf : Nat → Nat → Int32)  (p0 : Int32) (p1 : Int32) (Q : ((Nat → Int32) × (Nat → Nat → Int32)) → Prop) : Prop := (vp_in p0 k) ∧ Q ((upd f 2 (0 : Int32)), (va_up a 2 (upd (a 2) p0.toNatClampNeg p1)))
abbrev rmX5_setTold : Room := { frames := 0, cells := 0, slots := 0, locals := 0 }
set_option maxHeartbeats 4000000 in
set_option maxRecDepth 100000 in
theorem t_X5_setTold (l : Launch) (dC : Nat → ClassId) (dI : Nat → Nat → Nat) (adK : Nat → Nat) (adV : Nat → Nat) (cI : ClassId) (cB : ClassId) (cS : ClassId) (q : Nat → Nat) (qb : Nat → Nat) (n : Nat) (k : Nat) (sz : Nat) (f : Nat → Int32) (t : Nat) (a : Nat → Nat → Int32) (b : Nat → Nat → Int32) (sg : Nat → Nat → Option Nat) (sL : List Nat) (sf : Nat → Nat → Int32)   (p0 : Int32) (p1 : Int32) (Q0 : ((Nat → Int32) × (Nat → Nat → Int32)) → Prop) (hw : w_X5_setTold n k q f t a b sg sL sf  p0 p1 Q0) : Met l yX5_setTold wsX5_setTold rmX5_setTold (g_pre (cz adK adV) (dC, dI) vwCl [(cI, .int), (cB, .object RX0), (cS, .object RX7)] ((W_P adK adV cI cB cS q qb n k f t a b sg) ++ va_pl sL (sgF sf)) sz [.ref (q 0), .int p0, .int p1]) (g_qv (dC, dI) vwCl [(cI, .int), (cB, .object RX0), (cS, .object RX7)] (fun u : ((Nat → Int32) × (Nat → Nat → Int32)) => ((W_P adK adV cI cB cS q qb n k (u.1) t (u.2) b sg) ++ va_pl sL (sgF sf))) Q0 (va_A ((W_P adK adV cI cB cS q qb n k f t a b sg) ++ va_pl sL (sgF sf)) sz)) 0 0 (va_A ((W_P adK adV cI cB cS q qb n k f t a b sg) ++ va_pl sL (sgF sf)) sz) := by
  refine g_startv (by decide) rfl (Nat.le_of_ble_eq_true rfl) ?_
  intro p e s m args below meth c A Q ls hx hb hml hown hts hin hK hP hD hA hS hZ hret hl
  obtain ⟨H, eH⟩ : ∃ H : Heap, H = s.heap := ⟨_, rfl⟩
  obtain ⟨locs, eL⟩ : ∃ L : List Loc, L = [] := ⟨_, rfl⟩
  have hS : va_S A s.heap H locs := by rw [eH, eL]; exact hS
  rw [← eH] at hP
  suffices hg : W p l e rmX5_setTold s m args below meth c H locs 0 0 Q (F0 m 0 ls []) by rw [eH, eL] at hg; exact hg
  clear eH eL
  replace hl : lv_has ls 3 [(0, .ref (q 0)), (1, .int p0), (2, .int p1)] := hl
  have hf31 := hts (.fieldLink RX5 31 "NumberPile$Pile" "now" "LNumberPile$State;") (by decide +kernel)
  have hiX5 : ∀ w ∈ u_ws RX5 TX5 15, w ∈ wsX5_setTold := fun w h => List.mem_cons_of_mem _ (List.mem_append_left _ (List.mem_append_right _ h))
  have nf118 := va_Nw.use (A := args) rfl (hZ.1 _ (List.mem_of_getElem? (i := 27) (rfl : cz_nest[27]? = some (.fieldLinkNest RX5 118 "NumberPile$State" "told" "[I" "NumberPile"))))
  have hiX8 : ∀ w ∈ u_ws RX8 TX8 6, w ∈ wsX5_setTold := fun w h => List.mem_cons_of_mem _ (List.mem_append_right _ h)
  have hf127 := hts (.fieldLink RX5 127 "NumberPile$Pile" "isCounted" "Z") (by decide +kernel)
  unfold w_X5_setTold at hw
  refine lv_aload_n hx hb dX5_setTold_0 rfl (lv_at hl 0 rfl) ?_
  refine va_get (D := (dC, dI)) (ci := 7) (v := .ref (q 3)) (C := RX5) (T := TX5) (N := 15) hx hb hts hiX5 hown hK hP 0 rfl rfl 4 (by decide) hf31 (fun _ h9 => h9) rfl dX5_setTold_1 ?_
  refine va_getN (D := (dC, dI)) (ci := 10) (v := .ref (q 6)) (C := RX8) (T := TX8) (N := 6) hx hb hts hiX8 hown hK hP 3 rfl rfl 2 (by decide) nf118 (fun _ h9 => h9) rfl dX5_setTold_4 ?_
  refine lv_iload_n hx hb dX5_setTold_7 rfl (lv_at hl 1 rfl) ?_
  refine lv_iload_n hx hb dX5_setTold_8 rfl (lv_at hl 2 rfl) ?_
  obtain ⟨hb1, hw⟩ := hw
  refine va_iast hx hb hK hP hD hS 6 0 rfl rfl hb1 dX5_setTold_9 (fun H locs hP hD hS => ?_)
  replace hP : va_P (dC, dI) vwCl ((W_P adK adV cI cB cS q qb n k f t (va_up a 2 (upd (a 2) p0.toNatClampNeg p1)) b sg) ++ va_pl sL (sgF sf)) H := hP
  replace hD : va_D A ((W_P adK adV cI cB cS q qb n k f t (va_up a 2 (upd (a 2) p0.toNatClampNeg p1)) b sg) ++ va_pl sL (sgF sf)) := hD
  refine lv_aload_n hx hb dX5_setTold_10 rfl (lv_at hl 0 rfl) ?_
  refine lv_iconst (v := 0) hx hb dX5_setTold_11 (by decide) ?_
  refine va_put (D := (dC, dI)) (ci := 7) (v := .int (0 : Int32)) (ty := (.boolean)) (C := RX5) (T := TX5) (N := 15) hx hb hts hiX5 tyX5 tyX5_ok nmX5 hown hK hP hD hS 0 rfl rfl 14 (by decide) hf127 (fun _ h9 => h9) rfl (by decide +kernel) rfl rfl (Nat.le_of_ble_eq_true rfl) dX5_setTold_12 (fun H locs hP hD hS => ?_)
  replace hP : va_P (dC, dI) vwCl ((W_P adK adV cI cB cS q qb n k (upd f 2 (0 : Int32)) t (va_up a 2 (upd (a 2) p0.toNatClampNeg p1)) b sg) ++ va_pl sL (sgF sf)) H := hP
  replace hD : va_D A ((W_P adK adV cI cB cS q qb n k (upd f 2 (0 : Int32)) t (va_up a 2 (upd (a 2) p0.toNatClampNeg p1)) b sg) ++ va_pl sL (sgF sf)) := hD
  exact hret dX5_setTold_15 hK hP hD hS hw

def w_X5_swingOf (n : Nat) (k : Nat) (q : Nat → Nat) (f : Nat → Int32) (t : Nat) (a : Nat → Nat → Int32) (b : Nat → Nat → Int32) (sg : Nat → Nat → Option Nat) (sL : List Nat) (sf : Nat → Nat → Int32)  (p0 : Int32) (Q : Int32 → ((Nat → Nat → Int32)) → Prop) : Prop := (vp_in p0 n) ∧ (((¬ ((a 1) p0.toNatClampNeg) = (9 : Int32)) → w_X10_copy n k (a 1) (a 6)   (fun (u3 : ((Nat → Int32))) => (vp_in p0 k) ∧ ∀ x6 : Int32, x6 = ((u3 p0.toNatClampNeg) + (1 : Int32)) → (vp_in p0 k) ∧ w_X5_raise_g n k q f t (va_up a 6 (upd u3 p0.toNatClampNeg x6)) b sg sL sf  (fun (u7 : ((Nat → Nat → Int32))) => w_X5_guessedTop n k q f t u7 b sg sL sf  (fun (r9 : Int32) (u8 : Unit) => w_X5_top n k q f t u7 b sg sL sf  (fun (r11 : Int32) (u10 : Unit) => Q (((1000 : Int32) + r9) - r11) u7))))) ∧ (((a 1) p0.toNatClampNeg) = (9 : Int32) → Q (-1 : Int32) a))
abbrev rmX5_swingOf : Room := { frames := 3, cells := 0, slots := 0, locals := 85 }
set_option maxHeartbeats 4000000 in
set_option maxRecDepth 100000 in
theorem t_X5_swingOf (l : Launch) (dC : Nat → ClassId) (dI : Nat → Nat → Nat) (adK : Nat → Nat) (adV : Nat → Nat) (cI : ClassId) (cB : ClassId) (cS : ClassId) (q : Nat → Nat) (qb : Nat → Nat) (n : Nat) (k : Nat) (sz : Nat) (f : Nat → Int32) (t : Nat) (a : Nat → Nat → Int32) (b : Nat → Nat → Int32) (sg : Nat → Nat → Option Nat) (sL : List Nat) (sf : Nat → Nat → Int32)   (p0 : Int32) (Q0 : Int32 → ((Nat → Nat → Int32)) → Prop) (hw : w_X5_swingOf n k q f t a b sg sL sf  p0 Q0) : Met l yX5_swingOf wsX5_swingOf rmX5_swingOf (g_pre (cz adK adV) (dC, dI) vwCl [(cI, .int), (cB, .object RX0), (cS, .object RX7)] ((W_P adK adV cI cB cS q qb n k f t a b sg) ++ va_pl sL (sgF sf)) sz [.ref (q 0), .int p0]) (g_qi (dC, dI) vwCl [(cI, .int), (cB, .object RX0), (cS, .object RX7)] (fun u : ((Nat → Nat → Int32)) => ((W_P adK adV cI cB cS q qb n k f t u b sg) ++ va_pl sL (sgF sf))) Q0 (va_A ((W_P adK adV cI cB cS q qb n k f t a b sg) ++ va_pl sL (sgF sf)) sz)) 0 0 (va_A ((W_P adK adV cI cB cS q qb n k f t a b sg) ++ va_pl sL (sgF sf)) sz) := by
  refine g_starti (by decide) rfl (Nat.le_of_ble_eq_true rfl) ?_
  intro p e s m args below meth c A Q ls hx hb hml hown hts hin hK hP hD hA hS hZ hret hl
  obtain ⟨H, eH⟩ : ∃ H : Heap, H = s.heap := ⟨_, rfl⟩
  obtain ⟨locs, eL⟩ : ∃ L : List Loc, L = [] := ⟨_, rfl⟩
  have hS : va_S A s.heap H locs := by rw [eH, eL]; exact hS
  rw [← eH] at hP
  suffices hg : W p l e rmX5_swingOf s m args below meth c H locs 0 0 Q (F0 m 0 ls []) by rw [eH, eL] at hg; exact hg
  clear eH eL
  replace hl : lv_has ls 2 [(0, .ref (q 0)), (1, .int p0)] := hl
  have hf31 := hts (.fieldLink RX5 31 "NumberPile$Pile" "now" "LNumberPile$State;") (by decide +kernel)
  have hiX5 : ∀ w ∈ u_ws RX5 TX5 15, w ∈ wsX5_swingOf := fun w h => List.mem_cons_of_mem _ (List.mem_append_left _ (List.mem_append_right _ h))
  have nf98 := va_Nw.use (A := args) rfl (hZ.1 _ (List.mem_of_getElem? (i := 25) (rfl : cz_nest[25]? = some (.fieldLinkNest RX5 98 "NumberPile$State" "figures" "[I" "NumberPile"))))
  have hiX8 : ∀ w ∈ u_ws RX8 TX8 6, w ∈ wsX5_swingOf := fun w h => List.mem_cons_of_mem _ (List.mem_append_right _ h)
  have hf41 := hts (.fieldLink RX5 41 "NumberPile$Pile" "guess" "[I") (by decide +kernel)
  have nm104 := hZ.1 _ (List.mem_of_getElem? (i := 26) (rfl : cz_nest[26]? = some (.methodLinkNest RX5 104 yX10_copy "NumberPile")))
  have iniRX10 := hts (.initialized RX10) (by decide +kernel)
  have st104 := hts (.static yX10_copy) (by decide +kernel)
  unfold w_X5_swingOf at hw
  refine lv_aload_n hx hb dX5_swingOf_0 rfl (lv_at hl 0 rfl) ?_
  refine va_get (D := (dC, dI)) (ci := 7) (v := .ref (q 3)) (C := RX5) (T := TX5) (N := 15) hx hb hts hiX5 hown hK hP 0 rfl rfl 4 (by decide) hf31 (fun _ h9 => h9) rfl dX5_swingOf_1 ?_
  refine va_getN (D := (dC, dI)) (ci := 10) (v := .ref (q 5)) (C := RX8) (T := TX8) (N := 6) hx hb hts hiX8 hown hK hP 3 rfl rfl 1 (by decide) nf98 (fun _ h9 => h9) rfl dX5_swingOf_4 ?_
  refine lv_iload_n hx hb dX5_swingOf_7 rfl (lv_at hl 1 rfl) ?_
  obtain ⟨hb1, hw⟩ := hw
  refine va_iald hx hb hK hP 5 0 rfl rfl hb1 dX5_swingOf_8 ?_
  refine lv_bipush (v := 9) hx hb dX5_swingOf_9 (by decide) ?_
  refine lv_icmp_ne (tgt := 16) hx hb dX5_swingOf_11 (by decide) (fun hc2 => ?_) (fun hc2 => ?_)
  · replace hw := hw.1 hc2
    refine lv_aload_n hx hb dX5_swingOf_16 rfl (lv_at hl 0 rfl) ?_
    refine va_get (D := (dC, dI)) (ci := 7) (v := .ref (q 3)) (C := RX5) (T := TX5) (N := 15) hx hb hts hiX5 hown hK hP 0 rfl rfl 4 (by decide) hf31 (fun _ h9 => h9) rfl dX5_swingOf_17 ?_
    refine va_getN (D := (dC, dI)) (ci := 10) (v := .ref (q 5)) (C := RX8) (T := TX8) (N := 6) hx hb hts hiX8 hown hK hP 3 rfl rfl 1 (by decide) nf98 (fun _ h9 => h9) rfl dX5_swingOf_20 ?_
    refine lv_aload_n hx hb dX5_swingOf_23 rfl (lv_at hl 0 rfl) ?_
    refine va_get (D := (dC, dI)) (ci := 7) (v := .ref (q 14)) (C := RX5) (T := TX5) (N := 15) hx hb hts hiX5 hown hK hP 0 rfl rfl 8 (by decide) hf41 (fun _ h9 => h9) rfl dX5_swingOf_24 ?_
    refine g_cv (g_J.poolQ (W2 := fun u3 : ((Nat → Int32)) => (W_P adK adV cI cB cS q qb n k f t (va_up a 6 u3) b sg)) (pl := va_pl sL (sgF sf)) [((q 0), .inr (7, [.int (nI n), .int (nI k), .ref (q 1), .ref (q 2), .ref (q 3), .ref (q 8), .int (f 0), .ref (q 13), .ref (q 14), .ref (q 15), .ref (q 18), .ref (q 21), .int (f 1), .ref (q 17), .int (f 2)])), ((q 1), .inl (cB, (5), .inr (.inr (.inr (.inr (fun i => (kAll i).map qb)))))), ((q 2), .inl (cI, k, .inl (a 0))), ((q 3), .inr (10, [.ref (q 4), .ref (q 5), .ref (q 6), .ref (q 7), .int (f 3), .int (f 4)])), ((q 4), .inl (cI, (k - n), .inl (b 0))), ((q 6), .inl (cI, k, .inl (a 2))), ((q 7), .inl (cS, (6), .inr (.inr (.inr (.inr (sg 0)))))), ((q 8), .inr (10, [.ref (q 9), .ref (q 10), .ref (q 11), .ref (q 12), .int (f 5), .int (f 6)])), ((q 9), .inl (cI, (k - n), .inl (b 1))), ((q 10), .inl (cI, n, .inl (a 3))), ((q 11), .inl (cI, k, .inl (a 4))), ((q 12), .inl (cS, (6), .inr (.inr (.inr (.inr (sg 1)))))), ((q 13), .inl (cI, k, .inl (a 5))), ((q 15), .inr (8, [.int (nI n), .ref (q 1), .ref (q 4), .ref (q 16), .ref t, .int (f 7)])), ((q 16), .inl (cI, k, .inl (a 8))), ((q 17), .inl (cI, (10 * n), .inl (a 7))), ((q 18), .inr (14, [.ref (q 19), .ref (q 20)])), ((q 19), .inl (cI, (k + 1), .inl (b 2))), ((q 20), .inl (cI, (toL n), .inl (b 3))), ((q 21), .inl (cI, k, .inl (b 4))), ((qb 0), .inr (2, [])), ((qb 1), .inr (3, [])), ((qb 2), .inr (5, [])), ((qb 3), .inr (11, [])), ((qb 4), .inr (4, []))] [5, 14] [0, 1, 2, 3, 4, 6, 7, 8, 9, 10, 11, 12, 13, 15, 16, 17, 18, 19, 20, 21, 22, 23, 24, 25, 26] [0, 1, 2, 3, 4, 25, 5, 6, 7, 8, 9, 10, 11, 12, 26, 13, 14, 15, 16, 17, 18, 19, 20, 21, 22, 23, 24] rfl (by decide) rfl (by decide) (by decide) (fun _ => rfl) (by decide)) [0] hK hP hD hS hA rfl (fun hPc hDc hKc hFc => va_runSN (As := [.ref (q 5), .ref (q 14)]) (rest := []) ⟨hx, hb, hml, hown, hts⟩ (t_X10_copy l dC dI cI (q 5) (q 14) n k (a 1) H.size (a 6)   _ hw) ⟨va_cnB 2 hts gX5_swingOf_X10_copy_n104 rfl rfl rfl nm104 iniRX10 (by decide +kernel) ⟨Nat.le_of_ble_eq_true rfl, Nat.le_of_ble_eq_true rfl⟩, st104, trivial⟩ (g_pS g_Tb hPc hDc hKc (fun _ _ _ => trivial)) rfl rfl hl.1 rfl (lv_room (Nat.le_of_ble_eq_true rfl)) dX5_swingOf_27 ⟨Nat.le_of_ble_eq_true rfl, Nat.le_of_ble_eq_true rfl⟩) (fun u3 H locs hw hP hD hS => ?_)
    replace hP : va_P (dC, dI) vwCl ((W_P adK adV cI cB cS q qb n k f t (va_up a 6 u3) b sg) ++ va_pl sL (sgF sf)) H := hP
    replace hD : va_D A ((W_P adK adV cI cB cS q qb n k f t (va_up a 6 u3) b sg) ++ va_pl sL (sgF sf)) := hD
    refine lv_aload_n hx hb dX5_swingOf_30 rfl (lv_at hl 0 rfl) ?_
    refine va_get (D := (dC, dI)) (ci := 7) (v := .ref (q 14)) (C := RX5) (T := TX5) (N := 15) hx hb hts hiX5 hown hK hP 0 rfl rfl 8 (by decide) hf41 (fun _ h9 => h9) rfl dX5_swingOf_31 ?_
    refine lv_iload_n hx hb dX5_swingOf_34 rfl (lv_at hl 1 rfl) ?_
    refine lv_dup2_11 hx hb dX5_swingOf_35 rfl rfl ?_
    obtain ⟨hb4, hw⟩ := hw
    refine va_iald hx hb hK hP 14 0 rfl rfl hb4 dX5_swingOf_36 ?_
    refine lv_iconst (v := 1) hx hb dX5_swingOf_37 (by decide) ?_
    refine lv_iadd hx hb dX5_swingOf_38 ?_
    refine lv_topi (fun x6 ex6 => ?_)
    replace hw := hw x6 ex6
    obtain ⟨hb5, hw⟩ := hw
    refine va_iast hx hb hK hP hD hS 14 0 rfl rfl hb5 dX5_swingOf_39 (fun H locs hP hD hS => ?_)
    replace hP : va_P (dC, dI) vwCl ((W_P adK adV cI cB cS q qb n k f t (va_up a 6 (upd u3 p0.toNatClampNeg x6)) b sg) ++ va_pl sL (sgF sf)) H := hP
    replace hD : va_D A ((W_P adK adV cI cB cS q qb n k f t (va_up a 6 (upd u3 p0.toNatClampNeg x6)) b sg) ++ va_pl sL (sgF sf)) := hD
    refine lv_aload_n hx hb dX5_swingOf_40 rfl (lv_at hl 0 rfl) ?_
    refine lv_aload_n hx hb dX5_swingOf_41 rfl (lv_at hl 0 rfl) ?_
    refine va_get (D := (dC, dI)) (ci := 7) (v := .ref (q 14)) (C := RX5) (T := TX5) (N := 15) hx hb hts hiX5 hown hK hP 0 rfl rfl 8 (by decide) hf41 (fun _ h9 => h9) rfl dX5_swingOf_42 ?_
    refine g_cv (g_J.poolP (W2 := fun u7 : ((Nat → Nat → Int32)) => (W_P adK adV cI cB cS q qb n k f t u7 b sg)) (pl := va_pl sL (sgF sf)) (PL := fun u7 : ((Nat → Nat → Int32)) => va_pl sL (sgF sf)) (RX := fun u7 : ((Nat → Nat → Int32)) => (W_P adK adV cI cB cS q qb n k f t u7 b sg)) [] [0, 1, 2, 3, 4, 5, 6, 7, 8, 9, 10, 11, 12, 13, 14, 15, 16, 17, 18, 19, 20, 21, 22, 23, 24, 25, 26] [] [0, 1, 2, 3, 4, 5, 6, 7, 8, 9, 10, 11, 12, 13, 14, 15, 16, 17, 18, 19, 20, 21, 22, 23, 24, 25, 26] rfl (by decide) rfl (by decide) (by decide) (fun _ => rfl) (by decide)) [0, 1, 2] hK hP hD hS hA rfl (fun hPc hDc hKc hFc => va_runV (As := [.ref (q 14)]) (rest := []) ⟨hx, hb, hml, hown, hts⟩ (t_X5_raise_g l dC dI adK adV cI cB cS q qb n k H.size f t (va_up a 6 (upd u3 p0.toNatClampNeg x6)) b sg sL sf  _ hw) (cwV 1 hts gX5_swingOf_X5_raise rfl rfl rfl (by decide +kernel) ⟨Nat.le_of_ble_eq_true rfl, Nat.le_of_ble_eq_true rfl⟩) (g_pV czb (q0 := 0) rfl rfl hPc hDc hKc (czc hZ hS hFc)) rfl rfl hl.1 rfl (lv_room (Nat.le_of_ble_eq_true rfl)) dX5_swingOf_45 ⟨Nat.le_of_ble_eq_true rfl, Nat.le_of_ble_eq_true rfl⟩) (fun u7 H locs hw hP hD hS => ?_)
    replace hP : va_P (dC, dI) vwCl ((W_P adK adV cI cB cS q qb n k f t u7 b sg) ++ va_pl sL (sgF sf)) H := hP
    replace hD : va_D A ((W_P adK adV cI cB cS q qb n k f t u7 b sg) ++ va_pl sL (sgF sf)) := hD
    refine lv_sipush (v := 1000) hx hb dX5_swingOf_48 (by decide) ?_
    refine lv_aload_n hx hb dX5_swingOf_51 rfl (lv_at hl 0 rfl) ?_
    refine g_ci (g_J.poolP (W2 := fun u8 : Unit => (W_P adK adV cI cB cS q qb n k f t u7 b sg)) (pl := va_pl sL (sgF sf)) (PL := fun u8 : Unit => va_pl sL (sgF sf)) (RX := fun u8 : Unit => (W_P adK adV cI cB cS q qb n k f t u7 b sg)) [] [0, 1, 2, 3, 4, 5, 6, 7, 8, 9, 10, 11, 12, 13, 14, 15, 16, 17, 18, 19, 20, 21, 22, 23, 24, 25, 26] [] [0, 1, 2, 3, 4, 5, 6, 7, 8, 9, 10, 11, 12, 13, 14, 15, 16, 17, 18, 19, 20, 21, 22, 23, 24, 25, 26] rfl (by decide) rfl (by decide) (by decide) (fun _ => rfl) (by decide)) [0, 1, 2] hK hP hD hS hA rfl (fun hPc hDc hKc hFc => va_runV (As := []) (rest := [.int (1000 : Int32)]) ⟨hx, hb, hml, hown, hts⟩ (t_X5_guessedTop l dC dI adK adV cI cB cS q qb n k H.size f t u7 b sg sL sf  _ hw) (cwV 0 hts gX5_swingOf_X5_guessedTop rfl rfl rfl (by decide +kernel) ⟨Nat.le_of_ble_eq_true rfl, Nat.le_of_ble_eq_true rfl⟩) (g_pV czb (q0 := 0) rfl rfl hPc hDc hKc (czc hZ hS hFc)) rfl rfl hl.1 rfl (lv_room (Nat.le_of_ble_eq_true rfl)) dX5_swingOf_52 ⟨Nat.le_of_ble_eq_true rfl, Nat.le_of_ble_eq_true rfl⟩) (fun r9 u8 H locs hw hP hD hS => ?_)
    replace hP : va_P (dC, dI) vwCl ((W_P adK adV cI cB cS q qb n k f t u7 b sg) ++ va_pl sL (sgF sf)) H := hP
    replace hD : va_D A ((W_P adK adV cI cB cS q qb n k f t u7 b sg) ++ va_pl sL (sgF sf)) := hD
    refine lv_iadd hx hb dX5_swingOf_55 ?_
    refine lv_aload_n hx hb dX5_swingOf_56 rfl (lv_at hl 0 rfl) ?_
    refine g_ci (g_J.poolP (W2 := fun u10 : Unit => (W_P adK adV cI cB cS q qb n k f t u7 b sg)) (pl := va_pl sL (sgF sf)) (PL := fun u10 : Unit => va_pl sL (sgF sf)) (RX := fun u10 : Unit => (W_P adK adV cI cB cS q qb n k f t u7 b sg)) [] [0, 1, 2, 3, 4, 5, 6, 7, 8, 9, 10, 11, 12, 13, 14, 15, 16, 17, 18, 19, 20, 21, 22, 23, 24, 25, 26] [] [0, 1, 2, 3, 4, 5, 6, 7, 8, 9, 10, 11, 12, 13, 14, 15, 16, 17, 18, 19, 20, 21, 22, 23, 24, 25, 26] rfl (by decide) rfl (by decide) (by decide) (fun _ => rfl) (by decide)) [0, 1, 2] hK hP hD hS hA rfl (fun hPc hDc hKc hFc => va_runV (As := []) (rest := [.int ((1000 : Int32) + r9)]) ⟨hx, hb, hml, hown, hts⟩ (t_X5_top l dC dI adK adV cI cB cS q qb n k H.size f t u7 b sg sL sf  _ hw) (cwV 0 hts gX5_swingOf_X5_top rfl rfl rfl (by decide +kernel) ⟨Nat.le_of_ble_eq_true rfl, Nat.le_of_ble_eq_true rfl⟩) (g_pV czb (q0 := 0) rfl rfl hPc hDc hKc (czc hZ hS hFc)) rfl rfl hl.1 rfl (lv_room (Nat.le_of_ble_eq_true rfl)) dX5_swingOf_57 ⟨Nat.le_of_ble_eq_true rfl, Nat.le_of_ble_eq_true rfl⟩) (fun r11 u10 H locs hw hP hD hS => ?_)
    replace hP : va_P (dC, dI) vwCl ((W_P adK adV cI cB cS q qb n k f t u7 b sg) ++ va_pl sL (sgF sf)) H := hP
    replace hD : va_D A ((W_P adK adV cI cB cS q qb n k f t u7 b sg) ++ va_pl sL (sgF sf)) := hD
    refine lv_isub hx hb dX5_swingOf_60 ?_
    exact hret dX5_swingOf_61 hK hP hD hS hw
  · replace hw := hw.2 hc2
    refine lv_iconst (v := -1) hx hb dX5_swingOf_14 (by decide) ?_
    exact hret dX5_swingOf_15 hK hP hD hS hw
