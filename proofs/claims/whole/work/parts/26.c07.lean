def w_X5_keepImage (n : Nat) (k : Nat) (q : Nat → Nat) (f : Nat → Int32) (t : Nat) (a : Nat → Nat → Int32) (b : Nat → Nat → Option Nat) (sg : Nat → Nat → Option Nat) (sL : List Nat) (sf : Nat → Nat → Int32)   (Q : ((Nat → Int32) × (Nat → Nat → Int32) × (Nat → Nat → Option Nat) × (Nat → Nat → Option Nat)) → Prop) : Prop := w_X8_takeFrom n k (b 0) (a 1) (a 2) (sg 0) (f 3) (f 4) (b 1) (a 3) (a 4) (sg 1) (f 5) (f 6) sL sf  (fun (u1 : ((Nat → Option Nat) × (Nat → Int32) × (Nat → Int32) × (Nat → Option Nat) × (Int32) × (Int32))) => Q ((upd (upd (upd f 5 (u1.2.2.2.2.1)) 6 (u1.2.2.2.2.2)) 0 (1 : Int32)), (va_up (va_up a 3 (u1.2.1)) 4 (u1.2.2.1)), (va_up b 1 (u1.1)), (va_up sg 1 (u1.2.2.2.1))))
abbrev rmX5_keepImage : Room := { frames := 2, cells := 0, slots := 0, locals := 82 }
set_option maxHeartbeats 4000000 in
set_option maxRecDepth 100000 in
theorem t_X5_keepImage (l : Launch) (dC : Nat → ClassId) (dI : Nat → Nat → Nat) (adK : Nat → Nat) (adV : Nat → Nat) (cI : ClassId) (cB : ClassId) (cS : ClassId) (q : Nat → Nat) (qb : Nat → Nat) (n : Nat) (k : Nat) (sz : Nat) (f : Nat → Int32) (t : Nat) (a : Nat → Nat → Int32) (b : Nat → Nat → Option Nat) (sg : Nat → Nat → Option Nat) (sL : List Nat) (sf : Nat → Nat → Int32)    (Q0 : ((Nat → Int32) × (Nat → Nat → Int32) × (Nat → Nat → Option Nat) × (Nat → Nat → Option Nat)) → Prop) (hw : w_X5_keepImage n k q f t a b sg sL sf   Q0) : Met l yX5_keepImage wsX5_keepImage rmX5_keepImage (g_pre (cz adK adV) (dC, dI) vwCl [(cI, .int), (cB, .object RX0), (cS, .object RX7)] ((W_P adK adV cI cB cS q qb n k f t a b sg) ++ va_pl sL (sgF sf)) sz [.ref (q 0)]) (g_qv (dC, dI) vwCl [(cI, .int), (cB, .object RX0), (cS, .object RX7)] (fun u : ((Nat → Int32) × (Nat → Nat → Int32) × (Nat → Nat → Option Nat) × (Nat → Nat → Option Nat)) => ((W_P adK adV cI cB cS q qb n k (u.1) t (u.2.1) (u.2.2.1) (u.2.2.2)) ++ va_pl sL (sgF sf))) Q0 (va_A ((W_P adK adV cI cB cS q qb n k f t a b sg) ++ va_pl sL (sgF sf)) sz)) 0 0 (va_A ((W_P adK adV cI cB cS q qb n k f t a b sg) ++ va_pl sL (sgF sf)) sz) := by
  refine g_startv (by decide) rfl (Nat.le_of_ble_eq_true rfl) ?_
  intro p e s m args below meth c A Q ls hx hb hml hown hts hin hK hP hD hA hS hZ hret hl
  obtain ⟨H, eH⟩ : ∃ H : Heap, H = s.heap := ⟨_, rfl⟩
  obtain ⟨locs, eL⟩ : ∃ L : List Loc, L = [] := ⟨_, rfl⟩
  have hS : va_S A s.heap H locs := by rw [eH, eL]; exact hS
  rw [← eH] at hP
  suffices hg : W p l e rmX5_keepImage s m args below meth c H locs 0 0 Q (F0 m 0 ls []) by rw [eH, eL] at hg; exact hg
  clear eH eL
  replace hl : lv_has ls 1 [(0, .ref (q 0))] := hl
  have hf35 := hts (.fieldLink RX5 35 "NumberPile$Pile" "kept" "LNumberPile$State;") (by decide +kernel)
  have hiX5 : ∀ w ∈ u_ws RX5 TX5 13, w ∈ wsX5_keepImage := fun w h => List.mem_cons_of_mem _ (List.mem_append_left _ (List.mem_append_right _ h))
  have hf31 := hts (.fieldLink RX5 31 "NumberPile$Pile" "now" "LNumberPile$State;") (by decide +kernel)
  have hf127 := hts (.fieldLink RX5 127 "NumberPile$Pile" "hasImage" "Z") (by decide +kernel)
  unfold w_X5_keepImage at hw
  refine lv_aload_n hx hb dX5_keepImage_0 rfl (lv_at hl 0 rfl) ?_
  refine va_get (D := (dC, dI)) (ci := 7) (v := .ref (q 8)) (C := RX5) (T := TX5) (N := 13) hx hb hts hiX5 hown hK hP 0 rfl rfl 5 (by decide) hf35 (fun _ h9 => h9) rfl dX5_keepImage_1 ?_
  refine lv_aload_n hx hb dX5_keepImage_4 rfl (lv_at hl 0 rfl) ?_
  refine va_get (D := (dC, dI)) (ci := 7) (v := .ref (q 3)) (C := RX5) (T := TX5) (N := 13) hx hb hts hiX5 hown hK hP 0 rfl rfl 4 (by decide) hf31 (fun _ h9 => h9) rfl dX5_keepImage_5 ?_
  refine g_cv (g_J.poolP (W2 := fun u1 : ((Nat → Option Nat) × (Nat → Int32) × (Nat → Int32) × (Nat → Option Nat) × (Int32) × (Int32)) => (W_P adK adV cI cB cS q qb n k (upd (upd f 5 (u1.2.2.2.2.1)) 6 (u1.2.2.2.2.2)) t (va_up (va_up a 3 (u1.2.1)) 4 (u1.2.2.1)) (va_up b 1 (u1.1)) (va_up sg 1 (u1.2.2.2.1)))) (pl := va_pl sL (sgF sf)) (PL := fun u1 : ((Nat → Option Nat) × (Nat → Int32) × (Nat → Int32) × (Nat → Option Nat) × (Int32) × (Int32)) => va_pl sL (sgF sf)) (RX := fun u1 : ((Nat → Option Nat) × (Nat → Int32) × (Nat → Int32) × (Nat → Option Nat) × (Int32) × (Int32)) => (W_TS adK adV cI cB cS (q 8) (q 9) (q 10) (q 11) (q 12) (q 3) (q 4) (q 5) (q 6) (q 7) qb n k (b 0) (a 1) (a 2) (sg 0) (f 3) (f 4) (u1.1) (u1.2.1) (u1.2.2.1) (u1.2.2.2.1) (u1.2.2.2.2.1) (u1.2.2.2.2.2))) [((q 0), .inr (7, [.int (nI n), .int (nI k), .ref (q 1), .ref (q 2), .ref (q 3), .ref (q 8), .int (f 0), .ref (q 13), .ref (q 14), .ref (q 15), .int (f 1), .ref (q 17), .int (f 2)])), ((q 1), .inl (cB, (5), .inr (.inr (.inr (.inr (fun i => (kAll i).map qb)))))), ((q 2), .inl (cI, k, .inl (a 0))), ((q 13), .inl (cI, k, .inl (a 5))), ((q 14), .inl (cI, k, .inl (a 6))), ((q 15), .inr (8, [.int (nI n), .ref (q 4), .ref (q 16), .ref t, .int (f 7)])), ((q 16), .inl (cI, k, .inl (a 8))), ((q 17), .inl (cI, (10 * n), .inl (a 7)))] [8, 9, 10, 11, 12, 3, 4, 5, 6, 7, 18, 19, 20, 21, 22] [0, 1, 2, 13, 14, 15, 16, 17] [0, 1, 2, 13, 14, 15, 16, 17, 8, 9, 10, 11, 12, 3, 4, 5, 6, 7, 18, 19, 20, 21, 22] rfl (by decide) rfl (by decide) (by decide) (fun _ => rfl) (by decide)) [0, 1, 2] hK hP hD hS hA rfl (fun hPc hDc hKc hFc => va_runV (As := [.ref (q 3)]) (rest := []) ⟨hx, hb, hml, hown, hts⟩ (t_X8_takeFrom l dC dI adK adV cI cB cS (q 8) (q 9) (q 10) (q 11) (q 12) (q 3) (q 4) (q 5) (q 6) (q 7) qb n k (b 0) (a 1) (a 2) (sg 0) (f 3) (f 4) H.size (b 1) (a 3) (a 4) (sg 1) (f 5) (f 6) sL sf  _ hw) (cwV 1 hts gX5_keepImage_X8_takeFrom rfl rfl rfl (by decide +kernel) ⟨Nat.le_of_ble_eq_true rfl, Nat.le_of_ble_eq_true rfl⟩) (g_pV czb (q0 := 0) rfl rfl hPc hDc hKc (czc hZ hS hFc)) rfl rfl hl.1 rfl (lv_room (Nat.le_of_ble_eq_true rfl)) dX5_keepImage_8 ⟨Nat.le_of_ble_eq_true rfl, Nat.le_of_ble_eq_true rfl⟩) (fun u1 H locs hw hP hD hS => ?_)
  replace hP : va_P (dC, dI) vwCl ((W_P adK adV cI cB cS q qb n k (upd (upd f 5 (u1.2.2.2.2.1)) 6 (u1.2.2.2.2.2)) t (va_up (va_up a 3 (u1.2.1)) 4 (u1.2.2.1)) (va_up b 1 (u1.1)) (va_up sg 1 (u1.2.2.2.1))) ++ va_pl sL (sgF sf)) H := hP
  replace hD : va_D A ((W_P adK adV cI cB cS q qb n k (upd (upd f 5 (u1.2.2.2.2.1)) 6 (u1.2.2.2.2.2)) t (va_up (va_up a 3 (u1.2.1)) 4 (u1.2.2.1)) (va_up b 1 (u1.1)) (va_up sg 1 (u1.2.2.2.1))) ++ va_pl sL (sgF sf)) := hD
  refine lv_aload_n hx hb dX5_keepImage_11 rfl (lv_at hl 0 rfl) ?_
  refine lv_iconst (v := 1) hx hb dX5_keepImage_12 (by decide) ?_
  refine va_put (D := (dC, dI)) (ci := 7) (v := .int (1 : Int32)) (ty := (.boolean)) (C := RX5) (T := TX5) (N := 13) hx hb hts hiX5 tyX5 tyX5_ok nmX5 hown hK hP hD hS 0 rfl rfl 6 (by decide) hf127 (fun _ h9 => h9) rfl (by decide +kernel) rfl rfl (Nat.le_of_ble_eq_true rfl) dX5_keepImage_13 (fun H locs hP hD hS => ?_)
  replace hP : va_P (dC, dI) vwCl ((W_P adK adV cI cB cS q qb n k (upd (upd (upd f 5 (u1.2.2.2.2.1)) 6 (u1.2.2.2.2.2)) 0 (1 : Int32)) t (va_up (va_up a 3 (u1.2.1)) 4 (u1.2.2.1)) (va_up b 1 (u1.1)) (va_up sg 1 (u1.2.2.2.1))) ++ va_pl sL (sgF sf)) H := hP
  replace hD : va_D A ((W_P adK adV cI cB cS q qb n k (upd (upd (upd f 5 (u1.2.2.2.2.1)) 6 (u1.2.2.2.2.2)) 0 (1 : Int32)) t (va_up (va_up a 3 (u1.2.1)) 4 (u1.2.2.1)) (va_up b 1 (u1.1)) (va_up sg 1 (u1.2.2.2.1))) ++ va_pl sL (sgF sf)) := hD
  exact hret dX5_keepImage_16 hK hP hD hS hw

def w_X5_goBackToImage (n : Nat) (k : Nat) (q : Nat → Nat) (f : Nat → Int32) (t : Nat) (a : Nat → Nat → Int32) (b : Nat → Nat → Option Nat) (sg : Nat → Nat → Option Nat) (sL : List Nat) (sf : Nat → Nat → Int32)   (Q : ((Nat → Int32) × (Nat → Nat → Int32) × (Nat → Nat → Option Nat) × (Nat → Nat → Option Nat)) → Prop) : Prop := w_X8_takeFrom n k (b 1) (a 3) (a 4) (sg 1) (f 5) (f 6) (b 0) (a 1) (a 2) (sg 0) (f 3) (f 4) sL sf  (fun (u1 : ((Nat → Option Nat) × (Nat → Int32) × (Nat → Int32) × (Nat → Option Nat) × (Int32) × (Int32))) => w_X5_build n k q (upd (upd (upd f 3 (u1.2.2.2.2.1)) 4 (u1.2.2.2.2.2)) 2 (0 : Int32)) t (va_up (va_up a 1 (u1.2.1)) 2 (u1.2.2.1)) (va_up b 0 (u1.1)) (va_up sg 0 (u1.2.2.2.1)) sL sf  (fun (u2 : ((Nat → Nat → Int32))) => Q ((upd (upd (upd f 3 (u1.2.2.2.2.1)) 4 (u1.2.2.2.2.2)) 2 (0 : Int32)), u2, (va_up b 0 (u1.1)), (va_up sg 0 (u1.2.2.2.1)))))
abbrev rmX5_goBackToImage : Room := { frames := 4, cells := 0, slots := 0, locals := 105 }
set_option maxHeartbeats 4000000 in
set_option maxRecDepth 100000 in
theorem t_X5_goBackToImage (l : Launch) (dC : Nat → ClassId) (dI : Nat → Nat → Nat) (adK : Nat → Nat) (adV : Nat → Nat) (cI : ClassId) (cB : ClassId) (cS : ClassId) (q : Nat → Nat) (qb : Nat → Nat) (n : Nat) (k : Nat) (sz : Nat) (f : Nat → Int32) (t : Nat) (a : Nat → Nat → Int32) (b : Nat → Nat → Option Nat) (sg : Nat → Nat → Option Nat) (sL : List Nat) (sf : Nat → Nat → Int32)    (Q0 : ((Nat → Int32) × (Nat → Nat → Int32) × (Nat → Nat → Option Nat) × (Nat → Nat → Option Nat)) → Prop) (hw : w_X5_goBackToImage n k q f t a b sg sL sf   Q0) : Met l yX5_goBackToImage wsX5_goBackToImage rmX5_goBackToImage (g_pre (cz adK adV) (dC, dI) vwCl [(cI, .int), (cB, .object RX0), (cS, .object RX7)] ((W_P adK adV cI cB cS q qb n k f t a b sg) ++ va_pl sL (sgF sf)) sz [.ref (q 0)]) (g_qv (dC, dI) vwCl [(cI, .int), (cB, .object RX0), (cS, .object RX7)] (fun u : ((Nat → Int32) × (Nat → Nat → Int32) × (Nat → Nat → Option Nat) × (Nat → Nat → Option Nat)) => ((W_P adK adV cI cB cS q qb n k (u.1) t (u.2.1) (u.2.2.1) (u.2.2.2)) ++ va_pl sL (sgF sf))) Q0 (va_A ((W_P adK adV cI cB cS q qb n k f t a b sg) ++ va_pl sL (sgF sf)) sz)) 0 0 (va_A ((W_P adK adV cI cB cS q qb n k f t a b sg) ++ va_pl sL (sgF sf)) sz) := by
  refine g_startv (by decide) rfl (Nat.le_of_ble_eq_true rfl) ?_
  intro p e s m args below meth c A Q ls hx hb hml hown hts hin hK hP hD hA hS hZ hret hl
  obtain ⟨H, eH⟩ : ∃ H : Heap, H = s.heap := ⟨_, rfl⟩
  obtain ⟨locs, eL⟩ : ∃ L : List Loc, L = [] := ⟨_, rfl⟩
  have hS : va_S A s.heap H locs := by rw [eH, eL]; exact hS
  rw [← eH] at hP
  suffices hg : W p l e rmX5_goBackToImage s m args below meth c H locs 0 0 Q (F0 m 0 ls []) by rw [eH, eL] at hg; exact hg
  clear eH eL
  replace hl : lv_has ls 1 [(0, .ref (q 0))] := hl
  have hf31 := hts (.fieldLink RX5 31 "NumberPile$Pile" "now" "LNumberPile$State;") (by decide +kernel)
  have hiX5 : ∀ w ∈ u_ws RX5 TX5 13, w ∈ wsX5_goBackToImage := fun w h => List.mem_cons_of_mem _ (List.mem_append_left _ (List.mem_append_right _ h))
  have hf35 := hts (.fieldLink RX5 35 "NumberPile$Pile" "kept" "LNumberPile$State;") (by decide +kernel)
  have hf119 := hts (.fieldLink RX5 119 "NumberPile$Pile" "isCounted" "Z") (by decide +kernel)
  unfold w_X5_goBackToImage at hw
  refine lv_aload_n hx hb dX5_goBackToImage_0 rfl (lv_at hl 0 rfl) ?_
  refine va_get (D := (dC, dI)) (ci := 7) (v := .ref (q 3)) (C := RX5) (T := TX5) (N := 13) hx hb hts hiX5 hown hK hP 0 rfl rfl 4 (by decide) hf31 (fun _ h9 => h9) rfl dX5_goBackToImage_1 ?_
  refine lv_aload_n hx hb dX5_goBackToImage_4 rfl (lv_at hl 0 rfl) ?_
  refine va_get (D := (dC, dI)) (ci := 7) (v := .ref (q 8)) (C := RX5) (T := TX5) (N := 13) hx hb hts hiX5 hown hK hP 0 rfl rfl 5 (by decide) hf35 (fun _ h9 => h9) rfl dX5_goBackToImage_5 ?_
  refine g_cv (g_J.poolP (W2 := fun u1 : ((Nat → Option Nat) × (Nat → Int32) × (Nat → Int32) × (Nat → Option Nat) × (Int32) × (Int32)) => (W_P adK adV cI cB cS q qb n k (upd (upd f 3 (u1.2.2.2.2.1)) 4 (u1.2.2.2.2.2)) t (va_up (va_up a 1 (u1.2.1)) 2 (u1.2.2.1)) (va_up b 0 (u1.1)) (va_up sg 0 (u1.2.2.2.1)))) (pl := va_pl sL (sgF sf)) (PL := fun u1 : ((Nat → Option Nat) × (Nat → Int32) × (Nat → Int32) × (Nat → Option Nat) × (Int32) × (Int32)) => va_pl sL (sgF sf)) (RX := fun u1 : ((Nat → Option Nat) × (Nat → Int32) × (Nat → Int32) × (Nat → Option Nat) × (Int32) × (Int32)) => (W_TS adK adV cI cB cS (q 3) (q 4) (q 5) (q 6) (q 7) (q 8) (q 9) (q 10) (q 11) (q 12) qb n k (b 1) (a 3) (a 4) (sg 1) (f 5) (f 6) (u1.1) (u1.2.1) (u1.2.2.1) (u1.2.2.2.1) (u1.2.2.2.2.1) (u1.2.2.2.2.2))) [((q 0), .inr (7, [.int (nI n), .int (nI k), .ref (q 1), .ref (q 2), .ref (q 3), .ref (q 8), .int (f 0), .ref (q 13), .ref (q 14), .ref (q 15), .int (f 1), .ref (q 17), .int (f 2)])), ((q 1), .inl (cB, (5), .inr (.inr (.inr (.inr (fun i => (kAll i).map qb)))))), ((q 2), .inl (cI, k, .inl (a 0))), ((q 13), .inl (cI, k, .inl (a 5))), ((q 14), .inl (cI, k, .inl (a 6))), ((q 15), .inr (8, [.int (nI n), .ref (q 4), .ref (q 16), .ref t, .int (f 7)])), ((q 16), .inl (cI, k, .inl (a 8))), ((q 17), .inl (cI, (10 * n), .inl (a 7)))] [3, 4, 5, 6, 7, 8, 9, 10, 11, 12, 18, 19, 20, 21, 22] [0, 1, 2, 13, 14, 15, 16, 17] [0, 1, 2, 8, 9, 10, 11, 12, 13, 14, 15, 16, 17, 3, 4, 5, 6, 7, 18, 19, 20, 21, 22] rfl (by decide) rfl (by decide) (by decide) (fun _ => rfl) (by decide)) [0, 1, 2] hK hP hD hS hA rfl (fun hPc hDc hKc hFc => va_runV (As := [.ref (q 8)]) (rest := []) ⟨hx, hb, hml, hown, hts⟩ (t_X8_takeFrom l dC dI adK adV cI cB cS (q 3) (q 4) (q 5) (q 6) (q 7) (q 8) (q 9) (q 10) (q 11) (q 12) qb n k (b 1) (a 3) (a 4) (sg 1) (f 5) (f 6) H.size (b 0) (a 1) (a 2) (sg 0) (f 3) (f 4) sL sf  _ hw) (cwV 1 hts gX5_goBackToImage_X8_takeFrom rfl rfl rfl (by decide +kernel) ⟨Nat.le_of_ble_eq_true rfl, Nat.le_of_ble_eq_true rfl⟩) (g_pV czb (q0 := 0) rfl rfl hPc hDc hKc (czc hZ hS hFc)) rfl rfl hl.1 rfl (lv_room (Nat.le_of_ble_eq_true rfl)) dX5_goBackToImage_8 ⟨Nat.le_of_ble_eq_true rfl, Nat.le_of_ble_eq_true rfl⟩) (fun u1 H locs hw hP hD hS => ?_)
  replace hP : va_P (dC, dI) vwCl ((W_P adK adV cI cB cS q qb n k (upd (upd f 3 (u1.2.2.2.2.1)) 4 (u1.2.2.2.2.2)) t (va_up (va_up a 1 (u1.2.1)) 2 (u1.2.2.1)) (va_up b 0 (u1.1)) (va_up sg 0 (u1.2.2.2.1))) ++ va_pl sL (sgF sf)) H := hP
  replace hD : va_D A ((W_P adK adV cI cB cS q qb n k (upd (upd f 3 (u1.2.2.2.2.1)) 4 (u1.2.2.2.2.2)) t (va_up (va_up a 1 (u1.2.1)) 2 (u1.2.2.1)) (va_up b 0 (u1.1)) (va_up sg 0 (u1.2.2.2.1))) ++ va_pl sL (sgF sf)) := hD
  refine lv_aload_n hx hb dX5_goBackToImage_11 rfl (lv_at hl 0 rfl) ?_
  refine lv_iconst (v := 0) hx hb dX5_goBackToImage_12 (by decide) ?_
  refine va_put (D := (dC, dI)) (ci := 7) (v := .int (0 : Int32)) (ty := (.boolean)) (C := RX5) (T := TX5) (N := 13) hx hb hts hiX5 tyX5 tyX5_ok nmX5 hown hK hP hD hS 0 rfl rfl 12 (by decide) hf119 (fun _ h9 => h9) rfl (by decide +kernel) rfl rfl (Nat.le_of_ble_eq_true rfl) dX5_goBackToImage_13 (fun H locs hP hD hS => ?_)
  replace hP : va_P (dC, dI) vwCl ((W_P adK adV cI cB cS q qb n k (upd (upd (upd f 3 (u1.2.2.2.2.1)) 4 (u1.2.2.2.2.2)) 2 (0 : Int32)) t (va_up (va_up a 1 (u1.2.1)) 2 (u1.2.2.1)) (va_up b 0 (u1.1)) (va_up sg 0 (u1.2.2.2.1))) ++ va_pl sL (sgF sf)) H := hP
  replace hD : va_D A ((W_P adK adV cI cB cS q qb n k (upd (upd (upd f 3 (u1.2.2.2.2.1)) 4 (u1.2.2.2.2.2)) 2 (0 : Int32)) t (va_up (va_up a 1 (u1.2.1)) 2 (u1.2.2.1)) (va_up b 0 (u1.1)) (va_up sg 0 (u1.2.2.2.1))) ++ va_pl sL (sgF sf)) := hD
  refine lv_aload_n hx hb dX5_goBackToImage_16 rfl (lv_at hl 0 rfl) ?_
  refine g_cv (g_J.poolP (W2 := fun u2 : ((Nat → Nat → Int32)) => (W_P adK adV cI cB cS q qb n k (upd (upd (upd f 3 (u1.2.2.2.2.1)) 4 (u1.2.2.2.2.2)) 2 (0 : Int32)) t u2 (va_up b 0 (u1.1)) (va_up sg 0 (u1.2.2.2.1)))) (pl := va_pl sL (sgF sf)) (PL := fun u2 : ((Nat → Nat → Int32)) => va_pl sL (sgF sf)) (RX := fun u2 : ((Nat → Nat → Int32)) => (W_P adK adV cI cB cS q qb n k (upd (upd (upd f 3 (u1.2.2.2.2.1)) 4 (u1.2.2.2.2.2)) 2 (0 : Int32)) t u2 (va_up b 0 (u1.1)) (va_up sg 0 (u1.2.2.2.1)))) [] [0, 1, 2, 3, 4, 5, 6, 7, 8, 9, 10, 11, 12, 13, 14, 15, 16, 17, 18, 19, 20, 21, 22] [] [0, 1, 2, 3, 4, 5, 6, 7, 8, 9, 10, 11, 12, 13, 14, 15, 16, 17, 18, 19, 20, 21, 22] rfl (by decide) rfl (by decide) (by decide) (fun _ => rfl) (by decide)) [0, 1, 2] hK hP hD hS hA rfl (fun hPc hDc hKc hFc => va_runV (As := []) (rest := []) ⟨hx, hb, hml, hown, hts⟩ (t_X5_build l dC dI adK adV cI cB cS q qb n k H.size (upd (upd (upd f 3 (u1.2.2.2.2.1)) 4 (u1.2.2.2.2.2)) 2 (0 : Int32)) t (va_up (va_up a 1 (u1.2.1)) 2 (u1.2.2.1)) (va_up b 0 (u1.1)) (va_up sg 0 (u1.2.2.2.1)) sL sf  _ hw) (cwV 0 hts gX5_goBackToImage_X5_build rfl rfl rfl (by decide +kernel) ⟨Nat.le_of_ble_eq_true rfl, Nat.le_of_ble_eq_true rfl⟩) (g_pV czb (q0 := 0) rfl rfl hPc hDc hKc (czc hZ hS hFc)) rfl rfl hl.1 rfl (lv_room (Nat.le_of_ble_eq_true rfl)) dX5_goBackToImage_17 ⟨Nat.le_of_ble_eq_true rfl, Nat.le_of_ble_eq_true rfl⟩) (fun u2 H locs hw hP hD hS => ?_)
  replace hP : va_P (dC, dI) vwCl ((W_P adK adV cI cB cS q qb n k (upd (upd (upd f 3 (u1.2.2.2.2.1)) 4 (u1.2.2.2.2.2)) 2 (0 : Int32)) t u2 (va_up b 0 (u1.1)) (va_up sg 0 (u1.2.2.2.1))) ++ va_pl sL (sgF sf)) H := hP
  replace hD : va_D A ((W_P adK adV cI cB cS q qb n k (upd (upd (upd f 3 (u1.2.2.2.2.1)) 4 (u1.2.2.2.2.2)) 2 (0 : Int32)) t u2 (va_up b 0 (u1.1)) (va_up sg 0 (u1.2.2.2.1))) ++ va_pl sL (sgF sf)) := hD
  exact hret dX5_goBackToImage_20 hK hP hD hS hw

def w_X8_addSight  (tS : Nat → Option Nat) (ts : Int32) (sL : List Nat) (sf : Nat → Nat → Int32) (y : Nat)  (Q : ((Nat → Option Nat) × (Int32)) → Prop) : Prop := ((((6 : Int32) ≤ ts) → Q (tS, ts)) ∧ (¬ ((6 : Int32) ≤ ts) → (vp_in ts (6)) ∧ ∀ x4 : Int32, x4 = (ts + (1 : Int32)) → Q ((va_up tS ts.toNatClampNeg (some y)), x4)))
abbrev rmX8_addSight : Room := { frames := 0, cells := 0, slots := 0, locals := 0 }
set_option maxHeartbeats 4000000 in
set_option maxRecDepth 100000 in
theorem t_X8_addSight (l : Launch) (dC : Nat → ClassId) (dI : Nat → Nat → Nat) (cS : ClassId) (h : Nat) (x1 : Nat) (x2 : Nat) (x3 : Nat) (qS : Nat) (tc : Int32) (sz : Nat) (tS : Nat → Option Nat) (ts : Int32) (sL : List Nat) (sf : Nat → Nat → Int32) (y : Nat) (hy : y ∈ sL)  (Q0 : ((Nat → Option Nat) × (Int32)) → Prop) (hw : w_X8_addSight  tS ts sL sf y  Q0) : Met l yX8_addSight wsX8_addSight rmX8_addSight (g_pre g_T (dC, dI) vwCl [(cS, .object RX7)] ((W_AS cS h x1 x2 x3 qS tc tS ts) ++ va_pl sL (sgF sf)) sz [.ref h, .ref y]) (g_qv (dC, dI) vwCl [(cS, .object RX7)] (fun u : ((Nat → Option Nat) × (Int32)) => ((W_AS cS h x1 x2 x3 qS tc (u.1) (u.2)) ++ va_pl sL (sgF sf))) Q0 (va_A ((W_AS cS h x1 x2 x3 qS tc tS ts) ++ va_pl sL (sgF sf)) sz)) 0 0 (va_A ((W_AS cS h x1 x2 x3 qS tc tS ts) ++ va_pl sL (sgF sf)) sz) := by
  refine g_startv (by decide) rfl (Nat.le_of_ble_eq_true rfl) ?_
  intro p e s m args below meth c A Q ls hx hb hml hown hts hin hK hP hD hA hS hZ hret hl
  obtain ⟨H, eH⟩ : ∃ H : Heap, H = s.heap := ⟨_, rfl⟩
  obtain ⟨locs, eL⟩ : ∃ L : List Loc, L = [] := ⟨_, rfl⟩
  have hS : va_S A s.heap H locs := by rw [eH, eL]; exact hS
  rw [← eH] at hP
  suffices hg : W p l e rmX8_addSight s m args below meth c H locs 0 0 Q (F0 m 0 ls []) by rw [eH, eL] at hg; exact hg
  clear eH eL
  replace hl : lv_has ls 2 [(0, .ref h), (1, .ref y)] := hl
  have hf36 := hts (.fieldLink RX8 36 "NumberPile$State" "sights" "I") (by decide +kernel)
  have hiX8 : ∀ w ∈ u_ws RX8 TX8 6, w ∈ wsX8_addSight := fun w h => List.mem_cons_of_mem _ (List.mem_append_right _ h)
  have hf32 := hts (.fieldLink RX8 32 "NumberPile$State" "seen" "[LNumberPile$Sight;") (by decide +kernel)
  unfold w_X8_addSight at hw
  refine lv_aload_n hx hb dX8_addSight_0 rfl (lv_at hl 0 rfl) ?_
  refine va_get (D := (dC, dI)) (ci := 10) (v := .int ts) (C := RX8) (T := TX8) (N := 6) hx hb hts hiX8 hown hK hP 0 rfl rfl 4 (by decide) hf36 (fun _ h9 => h9) rfl dX8_addSight_1 ?_
  refine lv_aload_n hx hb dX8_addSight_4 rfl (lv_at hl 0 rfl) ?_
  refine va_get (D := (dC, dI)) (ci := 10) (v := .ref qS) (C := RX8) (T := TX8) (N := 6) hx hb hts hiX8 hown hK hP 0 rfl rfl 3 (by decide) hf32 (fun _ h9 => h9) rfl dX8_addSight_5 ?_
  refine va_alen hx hb hK hP 1 0 rfl rfl (v := (6 : Int32)) rfl dX8_addSight_8 ?_
  refine lv_icmp_ge (tgt := 32) hx hb dX8_addSight_9 (by decide) (fun hc1 => ?_) (fun hc1 => ?_)
  · replace hw := hw.1 hc1
    exact hret dX8_addSight_32 hK hP hD hS hw
  · replace hw := hw.2 hc1
    refine lv_aload_n hx hb dX8_addSight_12 rfl (lv_at hl 0 rfl) ?_
    refine va_get (D := (dC, dI)) (ci := 10) (v := .ref qS) (C := RX8) (T := TX8) (N := 6) hx hb hts hiX8 hown hK hP 0 rfl rfl 3 (by decide) hf32 (fun _ h9 => h9) rfl dX8_addSight_13 ?_
    refine lv_aload_n hx hb dX8_addSight_16 rfl (lv_at hl 0 rfl) ?_
    refine va_get (D := (dC, dI)) (ci := 10) (v := .int ts) (C := RX8) (T := TX8) (N := 6) hx hb hts hiX8 hown hK hP 0 rfl rfl 4 (by decide) hf36 (fun _ h9 => h9) rfl dX8_addSight_17 ?_
    refine lv_aload_n hx hb dX8_addSight_20 rfl (lv_at hl 1 rfl) ?_
    obtain ⟨hb2, hw⟩ := hw
    obtain ⟨k3, hk3⟩ := va_pl_get (X := (W_AS cS h x1 x2 x3 qS tc tS ts)) (f := sgF sf) hy
    refine va_astq hx hb hK hP hD hS 1 0 k3 9 rfl rfl hk3 rfl hb2 dX8_addSight_21 (fun H locs hP hD hS => ?_)
    replace hP : va_P (dC, dI) vwCl ((W_AS cS h x1 x2 x3 qS tc (va_up tS ts.toNatClampNeg (some y)) ts) ++ va_pl sL (sgF sf)) H := hP
    replace hD : va_D A ((W_AS cS h x1 x2 x3 qS tc (va_up tS ts.toNatClampNeg (some y)) ts) ++ va_pl sL (sgF sf)) := hD
    refine lv_aload_n hx hb dX8_addSight_22 rfl (lv_at hl 0 rfl) ?_
    refine lv_dup hx hb dX8_addSight_23 rfl ?_
    refine va_get (D := (dC, dI)) (ci := 10) (v := .int ts) (C := RX8) (T := TX8) (N := 6) hx hb hts hiX8 hown hK hP 0 rfl rfl 4 (by decide) hf36 (fun _ h9 => h9) rfl dX8_addSight_24 ?_
    refine lv_iconst (v := 1) hx hb dX8_addSight_27 (by decide) ?_
    refine lv_iadd hx hb dX8_addSight_28 ?_
    refine lv_topi (fun x4 ex4 => ?_)
    replace hw := hw x4 ex4
    refine va_put (D := (dC, dI)) (ci := 10) (v := .int x4) (ty := (.int)) (C := RX8) (T := TX8) (N := 6) hx hb hts hiX8 tyX8 tyX8_ok nmX8 hown hK hP hD hS 0 rfl rfl 4 (by decide) hf36 (fun _ h9 => h9) rfl (by decide +kernel) rfl rfl (Nat.le_of_ble_eq_true rfl) dX8_addSight_29 (fun H locs hP hD hS => ?_)
    replace hP : va_P (dC, dI) vwCl ((W_AS cS h x1 x2 x3 qS tc (va_up tS ts.toNatClampNeg (some y)) x4) ++ va_pl sL (sgF sf)) H := hP
    replace hD : va_D A ((W_AS cS h x1 x2 x3 qS tc (va_up tS ts.toNatClampNeg (some y)) x4) ++ va_pl sL (sgF sf)) := hD
    exact hret dX8_addSight_32 hK hP hD hS hw

def w_X5_nearestWithTop (n : Nat) (k : Nat) (q : Nat → Nat) (f : Nat → Int32) (t : Nat) (a : Nat → Nat → Int32) (b : Nat → Nat → Option Nat) (sg : Nat → Nat → Option Nat) (sL : List Nat) (sf : Nat → Nat → Int32)  (p0 : Int32) (Q : Int32 → ((Nat → Int32) × (Nat) × (Nat → Nat → Int32)) → Prop) : Prop := (k ≤ 10) ∧ ∀ q2 : Nat, w_J7_fill_53178 k (fun _ => 0)  (-1 : Int32) (fun (u3 : ((Nat → Int32))) => ∀ J6 : (Nat → Nat → Int32) → (Nat → Int32) → Prop, (∀ (av4 : (Nat → Nat → Int32)) (z5 : (Nat → Int32)), (w_X6_start k n t (f 7) (av4 8)   (fun (u7 : StRSP) => (∀ X12 : Int32 → Int32 → (Nat → Int32) → (Nat → Nat → Int32) → Prop, (∀ (x8 : Int32) (x9 : Int32) (fv10 : (Nat → Int32)) (av11 : (Nat → Nat → Int32)), (((((10000 : Int32) ≤ x9) → Q x8 (fv10, q2, av11)) ∧ (¬ ((10000 : Int32) ≤ x9) → w_X6_next n k (k - n) (b 0) z5 (fv10 7) (av11 8)   (fun (r15 : Int32) (u14 : ((Int32) × (Nat → Int32))) => (((r15 = 0) → Q x8 ((upd fv10 7 (u14.1)), q2, (va_up av11 8 (u14.2)))) ∧ (¬ (r15 = 0) → w_X5_changesTo_r n k q (upd fv10 7 (u14.1)) q2 (va_up av11 8 (u14.2)) b sg sL sf  (fun (r18 : Int32) (u17 : Unit) => w_X6_number n k (k - n) (b 0) z5 (u14.1) (u14.2)   (fun (r20 : Int32) (u19 : Unit) => ∀ x21 : Int32, x21 = ((r18 * (10000 : Int32)) + r20) → ∀ J23 : Int32 → Prop, (∀ (x22 : Int32), (∀ x24 : Int32, x24 = x9 + (1 : Int32) → X12 x22 x24 (upd fv10 7 (u14.1)) (va_up av11 8 (u14.2))) → J23 x22) → (((¬ x8 = (-1 : Int32)) → J23 (if x21 < x8 then x21 else x8)) ∧ (x8 = (-1 : Int32) → J23 x21)))))))))) → X12 x8 x9 fv10 av11) → X12 (-1 : Int32) (0 : Int32) (upd f 7 (u7.1)) (va_up av4 8 (u7.2))))) → J6 av4 z5) → ((((nI k) ≤ 0) → J6 a u3) ∧ (¬ ((nI k) ≤ 0) → (vp_in ((nI k) - (1 : Int32)) k) ∧ J6 a (upd u3 ((nI k) - (1 : Int32)).toNatClampNeg p0))))
abbrev rmX5_nearestWithTop : Room := { frames := 4, cells := 1, slots := 10, locals := 106 }
set_option maxHeartbeats 4000000 in
set_option maxRecDepth 100000 in
theorem t_X5_nearestWithTop (l : Launch) (dC : Nat → ClassId) (dI : Nat → Nat → Nat) (adK : Nat → Nat) (adV : Nat → Nat) (cI : ClassId) (cB : ClassId) (cS : ClassId) (q : Nat → Nat) (qb : Nat → Nat) (n : Nat) (k : Nat) (sz : Nat) (f : Nat → Int32) (t : Nat) (a : Nat → Nat → Int32) (b : Nat → Nat → Option Nat) (sg : Nat → Nat → Option Nat) (sL : List Nat) (sf : Nat → Nat → Int32)   (p0 : Int32) (Q0 : Int32 → ((Nat → Int32) × (Nat) × (Nat → Nat → Int32)) → Prop) (hw : w_X5_nearestWithTop n k q f t a b sg sL sf  p0 Q0) : Met l yX5_nearestWithTop wsX5_nearestWithTop rmX5_nearestWithTop (g_pre (cz adK adV) (dC, dI) vwCl [(cI, .int), (cB, .object RX0), (cS, .object RX7)] ((W_P adK adV cI cB cS q qb n k f t a b sg) ++ va_pl sL (sgF sf)) sz [.ref (q 0), .int p0]) (g_qi (dC, dI) vwCl [(cI, .int), (cB, .object RX0), (cS, .object RX7)] (fun u : ((Nat → Int32) × (Nat) × (Nat → Nat → Int32)) => ((W_P adK adV cI cB cS q qb n k (u.1) (u.2.1) (u.2.2) b sg) ++ va_pl sL (sgF sf))) Q0 (va_A ((W_P adK adV cI cB cS q qb n k f t a b sg) ++ va_pl sL (sgF sf)) sz)) 1 10 (va_A ((W_P adK adV cI cB cS q qb n k f t a b sg) ++ va_pl sL (sgF sf)) sz) := by
  refine g_starti (by decide) rfl (Nat.le_of_ble_eq_true rfl) ?_
  intro p e s m args below meth c A Q ls hx hb hml hown hts hin hK hP hD hA hS hZ hret hl
  obtain ⟨H, eH⟩ : ∃ H : Heap, H = s.heap := ⟨_, rfl⟩
  obtain ⟨locs, eL⟩ : ∃ L : List Loc, L = [] := ⟨_, rfl⟩
  have hS : va_S A s.heap H locs := by rw [eH, eL]; exact hS
  rw [← eH] at hP
  suffices hg : W p l e rmX5_nearestWithTop s m args below meth c H locs 0 0 Q (F0 m 0 ls []) by rw [eH, eL] at hg; exact hg
  clear eH eL
  replace hl : lv_has ls 6 [(0, .ref (q 0)), (1, .int p0)] := hl
  have hf19 := hts (.fieldLink RX5 19 "NumberPile$Pile" "size" "I") (by decide +kernel)
  have hiX5 : ∀ w ∈ u_ws RX5 TX5 13, w ∈ wsX5_nearestWithTop := fun w h => List.mem_cons_of_mem _ (List.mem_append_left _ (List.mem_append_left _ (List.mem_append_right _ h)))
  have acI := hts (.arrayClass .int) (by decide +kernel)
  have hf55 := hts (.fieldLink RX5 55 "NumberPile$Pile" "rows" "LNumberPile$Rows;") (by decide +kernel)
  have nf153 := va_Nw.use (A := args) rfl (hZ.1 _ (List.mem_of_getElem? (i := 27) (rfl : cz_nest[27]? = some (.fieldLinkNest RX5 153 "NumberPile$Rows" "values" "[I" "NumberPile"))))
  have hiX6 : ∀ w ∈ u_ws RX6 TX6 5, w ∈ wsX5_nearestWithTop := fun w h => List.mem_cons_of_mem _ (List.mem_append_left _ (List.mem_append_right _ h))
  have ml161 := hts (.methodLink RX5 161 Lib.Math.min.name) (by decide +kernel)
  have msmin := hts (.static Lib.Math.min.name) (by decide +kernel)
  have miMath := hts (.initialized "java/lang/Math") (by decide +kernel)
  have mcmin := hts (.code Lib.Math.min.name Lib.Math.min.code 2 (some .int)) (by decide +kernel)
  unfold w_X5_nearestWithTop at hw
  refine lv_aload_n hx hb dX5_nearestWithTop_0 rfl (lv_at hl 0 rfl) ?_
  refine va_get (D := (dC, dI)) (ci := 7) (v := .int (nI k)) (C := RX5) (T := TX5) (N := 13) hx hb hts hiX5 hown hK hP 0 rfl rfl 1 (by decide) hf19 (fun _ h9 => h9) rfl dX5_nearestWithTop_1 ?_
  obtain ⟨bN1, hw⟩ := hw
  have eN1 : (nI k) = nI k := rfl
  refine g_newIp hx hb acI hK 0 rfl hP hD hS hA eN1 bN1 (Nat.le_of_ble_eq_true rfl) (Nat.le_of_ble_eq_true rfl) (Nat.le_of_ble_eq_true rfl) dX5_nearestWithTop_4 (fun q2 H hP hD hS => ?_)
  replace hw := hw q2
  refine W.widen (k := 1) (n := 10) (Nat.le_of_ble_eq_true rfl) (Nat.le_of_ble_eq_true rfl) ?_
  replace hP : va_P (dC, dI) vwCl (((W_P adK adV cI cB cS q qb n k f t a b sg) ++ [(q2, .inl (cI, k, .inl (fun _ => 0)))]) ++ va_pl sL (sgF sf)) H := hP
  replace hD : va_D A (((W_P adK adV cI cB cS q qb n k f t a b sg) ++ [(q2, .inl (cI, k, .inl (fun _ => 0)))]) ++ va_pl sL (sgF sf)) := hD
  refine lv_astore_n (lv' := [(2, .ref q2), (0, .ref (q 0)), (1, .int p0)]) hx hb dX5_nearestWithTop_6 rfl hl (by decide) rfl (fun ls hl => ?_)
  refine lv_aload_n hx hb dX5_nearestWithTop_7 rfl (lv_at hl 0 rfl) ?_
  refine lv_iconst (v := -1) hx hb dX5_nearestWithTop_8 (by decide) ?_
  refine g_cv (g_J.poolQ (W2 := fun u3 : ((Nat → Int32)) => ((W_P adK adV cI cB cS q qb n k f t a b sg) ++ [(q2, .inl (cI, k, .inl u3))])) (pl := va_pl sL (sgF sf)) [((q 0), .inr (7, [.int (nI n), .int (nI k), .ref (q 1), .ref (q 2), .ref (q 3), .ref (q 8), .int (f 0), .ref (q 13), .ref (q 14), .ref (q 15), .int (f 1), .ref (q 17), .int (f 2)])), ((q 1), .inl (cB, (5), .inr (.inr (.inr (.inr (fun i => (kAll i).map qb)))))), ((q 2), .inl (cI, k, .inl (a 0))), ((q 3), .inr (10, [.ref (q 4), .ref (q 5), .ref (q 6), .ref (q 7), .int (f 3), .int (f 4)])), ((q 4), .inl (cB, (k - n), .inr (.inr (.inr (.inr (fun i => ((b 0) i).map qb)))))), ((q 5), .inl (cI, n, .inl (a 1))), ((q 6), .inl (cI, k, .inl (a 2))), ((q 7), .inl (cS, (6), .inr (.inr (.inr (.inr (sg 0)))))), ((q 8), .inr (10, [.ref (q 9), .ref (q 10), .ref (q 11), .ref (q 12), .int (f 5), .int (f 6)])), ((q 9), .inl (cB, (k - n), .inr (.inr (.inr (.inr (fun i => ((b 1) i).map qb)))))), ((q 10), .inl (cI, n, .inl (a 3))), ((q 11), .inl (cI, k, .inl (a 4))), ((q 12), .inl (cS, (6), .inr (.inr (.inr (.inr (sg 1)))))), ((q 13), .inl (cI, k, .inl (a 5))), ((q 14), .inl (cI, k, .inl (a 6))), ((q 15), .inr (8, [.int (nI n), .ref (q 4), .ref (q 16), .ref t, .int (f 7)])), ((q 16), .inl (cI, k, .inl (a 8))), ((q 17), .inl (cI, (10 * n), .inl (a 7))), ((qb 0), .inr (2, [])), ((qb 1), .inr (3, [])), ((qb 2), .inr (5, [])), ((qb 3), .inr (11, [])), ((qb 4), .inr (4, []))] [23] [0, 1, 2, 3, 4, 5, 6, 7, 8, 9, 10, 11, 12, 13, 14, 15, 16, 17, 18, 19, 20, 21, 22] [0, 1, 2, 3, 4, 5, 6, 7, 8, 9, 10, 11, 12, 13, 14, 15, 16, 17, 18, 19, 20, 21, 22, 23] rfl (by decide) rfl (by decide) (by decide) (fun _ => rfl) (by decide)) [0] hK hP hD hS hA rfl (fun hPc hDc hKc hFc => va_runS (As := [.ref q2, .int (-1 : Int32)]) (rest := []) ⟨hx, hb, hml, hown, hts⟩ (t_J7_fill_53178 l dC dI cI q2 k H.size (fun _ => 0)  (-1 : Int32) _ hw) (va_cwS 2 hts gX5_nearestWithTop_J7_fill_53178 rfl rfl rfl (by decide +kernel) ⟨Nat.le_of_ble_eq_true rfl, Nat.le_of_ble_eq_true rfl⟩) (g_pS g_Tb hPc hDc hKc (fun _ _ _ => trivial)) rfl rfl hl.1 rfl (lv_room (Nat.le_of_ble_eq_true rfl)) dX5_nearestWithTop_9 ⟨Nat.le_of_ble_eq_true rfl, Nat.le_of_ble_eq_true rfl⟩) (fun u3 H locs hw hP hD hS => ?_)
  replace hP : va_P (dC, dI) vwCl (((W_P adK adV cI cB cS q qb n k f t a b sg) ++ [(q2, .inl (cI, k, .inl u3))]) ++ va_pl sL (sgF sf)) H := hP
  replace hD : va_D A (((W_P adK adV cI cB cS q qb n k f t a b sg) ++ [(q2, .inl (cI, k, .inl u3))]) ++ va_pl sL (sgF sf)) := hD
  refine lv_aload_n hx hb dX5_nearestWithTop_12 rfl (lv_at hl 1 rfl) ?_
  refine va_get (D := (dC, dI)) (ci := 7) (v := .int (nI k)) (C := RX5) (T := TX5) (N := 13) hx hb hts hiX5 hown hK hP 0 rfl rfl 1 (by decide) hf19 (fun _ h9 => h9) rfl dX5_nearestWithTop_13 ?_
  replace hw := hw (fun (av4 : (Nat → Nat → Int32)) (z5 : (Nat → Int32)) => ∀ (H : Heap) (locs : List Loc) (ls : Array Slot), va_P (dC, dI) vwCl (((W_P adK adV cI cB cS q qb n k f t av4 b sg) ++ [(q2, .inl (cI, k, .inl z5))]) ++ va_pl sL (sgF sf)) H → va_D A (((W_P adK adV cI cB cS q qb n k f t av4 b sg) ++ [(q2, .inl (cI, k, .inl z5))]) ++ va_pl sL (sgF sf)) → va_S A s.heap H locs → lv_has ls 6 [(0, .ref (q 0)), (2, .ref q2)] → W p l e rmX5_nearestWithTop s m args below meth c H locs 1 10 Q (F0 m 28 ls [])) (by
    intro av4 z5 hw H locs ls hP hD hS hl
    refine lv_iconst (v := -1) hx hb dX5_nearestWithTop_28 (by decide) ?_
    refine lv_istore_n (lv' := [(3, .int (-1 : Int32)), (0, .ref (q 0)), (2, .ref q2)]) hx hb dX5_nearestWithTop_29 rfl hl (by decide) rfl (fun ls hl => ?_)
    refine lv_aload_n hx hb dX5_nearestWithTop_30 rfl (lv_at hl 1 rfl) ?_
    refine va_get (D := (dC, dI)) (ci := 7) (v := .ref (q 15)) (C := RX5) (T := TX5) (N := 13) hx hb hts hiX5 hown hK hP 0 rfl rfl 9 (by decide) hf55 (fun _ h9 => h9) rfl dX5_nearestWithTop_31 ?_
    refine lv_aload_n hx hb dX5_nearestWithTop_34 rfl (lv_at hl 2 rfl) ?_
    refine g_cv (g_J.poolQ (W2 := fun u7 : StRSP => ((W_P adK adV cI cB cS q qb n k (upd f 7 (u7.1)) q2 (va_up av4 8 (u7.2)) b sg) ++ [(q2, .inl (cI, k, .inl z5))])) (pl := va_pl sL (sgF sf)) [((q 0), .inr (7, [.int (nI n), .int (nI k), .ref (q 1), .ref (q 2), .ref (q 3), .ref (q 8), .int (f 0), .ref (q 13), .ref (q 14), .ref (q 15), .int (f 1), .ref (q 17), .int (f 2)])), ((q 1), .inl (cB, (5), .inr (.inr (.inr (.inr (fun i => (kAll i).map qb)))))), ((q 2), .inl (cI, k, .inl (av4 0))), ((q 3), .inr (10, [.ref (q 4), .ref (q 5), .ref (q 6), .ref (q 7), .int (f 3), .int (f 4)])), ((q 4), .inl (cB, (k - n), .inr (.inr (.inr (.inr (fun i => ((b 0) i).map qb)))))), ((q 5), .inl (cI, n, .inl (av4 1))), ((q 6), .inl (cI, k, .inl (av4 2))), ((q 7), .inl (cS, (6), .inr (.inr (.inr (.inr (sg 0)))))), ((q 8), .inr (10, [.ref (q 9), .ref (q 10), .ref (q 11), .ref (q 12), .int (f 5), .int (f 6)])), ((q 9), .inl (cB, (k - n), .inr (.inr (.inr (.inr (fun i => ((b 1) i).map qb)))))), ((q 10), .inl (cI, n, .inl (av4 3))), ((q 11), .inl (cI, k, .inl (av4 4))), ((q 12), .inl (cS, (6), .inr (.inr (.inr (.inr (sg 1)))))), ((q 13), .inl (cI, k, .inl (av4 5))), ((q 14), .inl (cI, k, .inl (av4 6))), ((q 17), .inl (cI, (10 * n), .inl (av4 7))), ((qb 0), .inr (2, [])), ((qb 1), .inr (3, [])), ((qb 2), .inr (5, [])), ((qb 3), .inr (11, [])), ((qb 4), .inr (4, []))] [15, 16, 23] [0, 1, 2, 3, 4, 5, 6, 7, 8, 9, 10, 11, 12, 13, 14, 17, 18, 19, 20, 21, 22] [0, 1, 2, 3, 4, 5, 6, 7, 8, 9, 10, 11, 12, 13, 14, 21, 22, 15, 16, 17, 18, 19, 20, 23] rfl (by decide) rfl (by decide) (by decide) (fun _ => rfl) (by decide)) [0] hK hP hD hS hA rfl (fun hPc hDc hKc hFc => va_runV (As := [.ref q2]) (rest := []) ⟨hx, hb, hml, hown, hts⟩ (t_X6_start l dC dI cI (q 15) (q 4) (q 16) q2 n k z5 H.size t (f 7) (av4 8)   _ hw) (cwV 1 hts gX5_nearestWithTop_X6_start rfl rfl rfl (by decide +kernel) ⟨Nat.le_of_ble_eq_true rfl, Nat.le_of_ble_eq_true rfl⟩) (g_pV g_Tb (q0 := 0) rfl rfl hPc hDc hKc (fun _ _ _ => trivial)) rfl rfl hl.1 rfl (lv_room (Nat.le_of_ble_eq_true rfl)) dX5_nearestWithTop_35 ⟨Nat.le_of_ble_eq_true rfl, Nat.le_of_ble_eq_true rfl⟩) (fun u7 H locs hw hP hD hS => ?_)
    replace hP : va_P (dC, dI) vwCl (((W_P adK adV cI cB cS q qb n k (upd f 7 (u7.1)) q2 (va_up av4 8 (u7.2)) b sg) ++ [(q2, .inl (cI, k, .inl z5))]) ++ va_pl sL (sgF sf)) H := hP
    replace hD : va_D A (((W_P adK adV cI cB cS q qb n k (upd f 7 (u7.1)) q2 (va_up av4 8 (u7.2)) b sg) ++ [(q2, .inl (cI, k, .inl z5))]) ++ va_pl sL (sgF sf)) := hD
    refine lv_iconst (v := 0) hx hb dX5_nearestWithTop_38 (by decide) ?_
    refine lv_istore (lv' := [(4, .int (0 : Int32)), (3, .int (-1 : Int32)), (0, .ref (q 0)), (2, .ref q2)]) hx hb dX5_nearestWithTop_39 hl (by decide) rfl (fun ls hl => ?_)
    refine hw (fun (x8 : Int32) (x9 : Int32) (fv10 : (Nat → Int32)) (av11 : (Nat → Nat → Int32)) => ∀ (H : Heap) (locs : List Loc) (ls : Array Slot), va_P (dC, dI) vwCl (((W_P adK adV cI cB cS q qb n k fv10 q2 av11 b sg) ++ [(q2, .inl (cI, k, .inl z5))]) ++ va_pl sL (sgF sf)) H → va_D A (((W_P adK adV cI cB cS q qb n k fv10 q2 av11 b sg) ++ [(q2, .inl (cI, k, .inl z5))]) ++ va_pl sL (sgF sf)) → va_S A s.heap H locs → lv_has ls 6 [(0, .ref (q 0)), (3, .int x8), (4, .int x9)] → W p l e rmX5_nearestWithTop s m args below meth c H locs 1 10 Q (F0 m 41 ls [])) ?_ H locs ls hP hD hS (lv_sub hl [2, 1, 0] rfl)
    · intro x8 x9 fv10 av11 hw H locs ls hP hD hS hl
      refine lv_iload hx hb dX5_nearestWithTop_41 (lv_at hl 2 rfl) ?_
      refine lv_sipush (v := 10000) hx hb dX5_nearestWithTop_43 (by decide) ?_
      refine lv_icmp_ge (tgt := 107) hx hb dX5_nearestWithTop_46 (by decide) (fun hc13 => ?_) (fun hc13 => ?_)
      · replace hw := hw.1 hc13
        refine lv_iload_n hx hb dX5_nearestWithTop_107 rfl (lv_at hl 1 rfl) ?_
        replace hP := hP.part (cx := (W_P adK adV cI cB cS q qb n k fv10 q2 av11 b sg)) [0, 1, 2, 3, 4, 5, 6, 7, 8, 9, 10, 11, 12, 13, 14, 15, 16, 17, 18, 19, 20, 21, 22] rfl
        replace hD := hD.part (cx := (W_P adK adV cI cB cS q qb n k fv10 q2 av11 b sg)) [0, 1, 2, 3, 4, 5, 6, 7, 8, 9, 10, 11, 12, 13, 14, 15, 16, 17, 18, 19, 20, 21, 22] (by decide) rfl
        exact hret dX5_nearestWithTop_108 hK hP hD hS hw
      · replace hw := hw.2 hc13
        refine lv_aload_n hx hb dX5_nearestWithTop_49 rfl (lv_at hl 0 rfl) ?_
        refine va_get (D := (dC, dI)) (ci := 7) (v := .ref (q 15)) (C := RX5) (T := TX5) (N := 13) hx hb hts hiX5 hown hK hP 0 rfl rfl 9 (by decide) hf55 (fun _ h9 => h9) rfl dX5_nearestWithTop_50 ?_
        refine g_ci (g_J.poolQ (W2 := fun u14 : ((Int32) × (Nat → Int32)) => ((W_P adK adV cI cB cS q qb n k (upd fv10 7 (u14.1)) q2 (va_up av11 8 (u14.2)) b sg) ++ [(q2, .inl (cI, k, .inl z5))])) (pl := va_pl sL (sgF sf)) [((q 0), .inr (7, [.int (nI n), .int (nI k), .ref (q 1), .ref (q 2), .ref (q 3), .ref (q 8), .int (fv10 0), .ref (q 13), .ref (q 14), .ref (q 15), .int (fv10 1), .ref (q 17), .int (fv10 2)])), ((q 1), .inl (cB, (5), .inr (.inr (.inr (.inr (fun i => (kAll i).map qb)))))), ((q 2), .inl (cI, k, .inl (av11 0))), ((q 3), .inr (10, [.ref (q 4), .ref (q 5), .ref (q 6), .ref (q 7), .int (fv10 3), .int (fv10 4)])), ((q 5), .inl (cI, n, .inl (av11 1))), ((q 6), .inl (cI, k, .inl (av11 2))), ((q 7), .inl (cS, (6), .inr (.inr (.inr (.inr (sg 0)))))), ((q 8), .inr (10, [.ref (q 9), .ref (q 10), .ref (q 11), .ref (q 12), .int (fv10 5), .int (fv10 6)])), ((q 9), .inl (cB, (k - n), .inr (.inr (.inr (.inr (fun i => ((b 1) i).map qb)))))), ((q 10), .inl (cI, n, .inl (av11 3))), ((q 11), .inl (cI, k, .inl (av11 4))), ((q 12), .inl (cS, (6), .inr (.inr (.inr (.inr (sg 1)))))), ((q 13), .inl (cI, k, .inl (av11 5))), ((q 14), .inl (cI, k, .inl (av11 6))), ((q 17), .inl (cI, (10 * n), .inl (av11 7)))] [15, 16, 23, 4, 18, 19, 20, 21, 22] [0, 1, 2, 3, 5, 6, 7, 8, 9, 10, 11, 12, 13, 14, 17] [0, 1, 2, 3, 18, 4, 5, 6, 7, 8, 9, 10, 11, 12, 13, 15, 16, 14, 19, 20, 21, 22, 23, 17] rfl (by decide) rfl (by decide) (by decide) (fun _ => rfl) (by decide)) [0, 1] hK hP hD hS hA rfl (fun hPc hDc hKc hFc => va_runV (As := []) (rest := []) ⟨hx, hb, hml, hown, hts⟩ (t_X6_next l dC dI adK adV cI cB (q 15) (q 4) (q 16) q2 qb n k (k - n) (b 0) z5 H.size (fv10 7) (av11 8)   _ hw) (cwV 0 hts gX5_nearestWithTop_X6_next rfl rfl rfl (by decide +kernel) ⟨Nat.le_of_ble_eq_true rfl, Nat.le_of_ble_eq_true rfl⟩) (g_pV czb (q0 := 0) rfl rfl hPc hDc hKc (czc hZ hS hFc)) rfl rfl hl.1 rfl (lv_room (Nat.le_of_ble_eq_true rfl)) dX5_nearestWithTop_53 ⟨Nat.le_of_ble_eq_true rfl, Nat.le_of_ble_eq_true rfl⟩) (fun r15 u14 H locs hw hP hD hS => ?_)
        replace hP : va_P (dC, dI) vwCl (((W_P adK adV cI cB cS q qb n k (upd fv10 7 (u14.1)) q2 (va_up av11 8 (u14.2)) b sg) ++ [(q2, .inl (cI, k, .inl z5))]) ++ va_pl sL (sgF sf)) H := hP
        replace hD : va_D A (((W_P adK adV cI cB cS q qb n k (upd fv10 7 (u14.1)) q2 (va_up av11 8 (u14.2)) b sg) ++ [(q2, .inl (cI, k, .inl z5))]) ++ va_pl sL (sgF sf)) := hD
        refine lv_if_eq (tgt := 107) hx hb dX5_nearestWithTop_56 (by decide) (fun hc16 => ?_) (fun hc16 => ?_)
        · replace hw := hw.1 hc16
          refine lv_iload_n hx hb dX5_nearestWithTop_107 rfl (lv_at hl 1 rfl) ?_
          replace hP := hP.part (cx := (W_P adK adV cI cB cS q qb n k (upd fv10 7 (u14.1)) q2 (va_up av11 8 (u14.2)) b sg)) [0, 1, 2, 3, 4, 5, 6, 7, 8, 9, 10, 11, 12, 13, 14, 15, 16, 17, 18, 19, 20, 21, 22] rfl
          replace hD := hD.part (cx := (W_P adK adV cI cB cS q qb n k (upd fv10 7 (u14.1)) q2 (va_up av11 8 (u14.2)) b sg)) [0, 1, 2, 3, 4, 5, 6, 7, 8, 9, 10, 11, 12, 13, 14, 15, 16, 17, 18, 19, 20, 21, 22] (by decide) rfl
          exact hret dX5_nearestWithTop_108 hK hP hD hS hw
        · replace hw := hw.2 hc16
          refine lv_aload_n hx hb dX5_nearestWithTop_59 rfl (lv_at hl 0 rfl) ?_
          refine lv_aload_n hx hb dX5_nearestWithTop_60 rfl (lv_at hl 0 rfl) ?_
          refine va_get (D := (dC, dI)) (ci := 7) (v := .ref (q 15)) (C := RX5) (T := TX5) (N := 13) hx hb hts hiX5 hown hK hP 0 rfl rfl 9 (by decide) hf55 (fun _ h9 => h9) rfl dX5_nearestWithTop_61 ?_
          refine va_getN (D := (dC, dI)) (ci := 8) (v := .ref (q 16)) (C := RX6) (T := TX6) (N := 5) hx hb hts hiX6 hown hK hP 15 rfl rfl 2 (by decide) nf153 (fun _ h9 => h9) rfl dX5_nearestWithTop_64 ?_
          refine g_ci (g_J.poolP (W2 := fun u17 : Unit => ((W_P adK adV cI cB cS q qb n k (upd fv10 7 (u14.1)) q2 (va_up av11 8 (u14.2)) b sg) ++ [(q2, .inl (cI, k, .inl z5))])) (pl := va_pl sL (sgF sf)) (PL := fun u17 : Unit => va_pl sL (sgF sf)) (RX := fun u17 : Unit => (W_P adK adV cI cB cS q qb n k (upd fv10 7 (u14.1)) q2 (va_up av11 8 (u14.2)) b sg)) [(q2, .inl (cI, k, .inl z5))] [0, 1, 2, 3, 4, 5, 6, 7, 8, 9, 10, 11, 12, 13, 14, 15, 16, 17, 18, 19, 20, 21, 22] [23] [1, 2, 3, 4, 5, 6, 7, 8, 9, 10, 11, 12, 13, 14, 15, 16, 17, 18, 19, 20, 21, 22, 23, 0] rfl (by decide) rfl (by decide) (by decide) (fun _ => rfl) (by decide)) [0, 1, 2] hK hP hD hS hA rfl (fun hPc hDc hKc hFc => va_runV (As := [.ref (q 16)]) (rest := []) ⟨hx, hb, hml, hown, hts⟩ (t_X5_changesTo_r l dC dI adK adV cI cB cS q qb n k H.size (upd fv10 7 (u14.1)) q2 (va_up av11 8 (u14.2)) b sg sL sf  _ hw) (cwV 1 hts gX5_nearestWithTop_X5_changesTo rfl rfl rfl (by decide +kernel) ⟨Nat.le_of_ble_eq_true rfl, Nat.le_of_ble_eq_true rfl⟩) (g_pV czb (q0 := 0) rfl rfl hPc hDc hKc (czc hZ hS hFc)) rfl rfl hl.1 rfl (lv_room (Nat.le_of_ble_eq_true rfl)) dX5_nearestWithTop_67 ⟨Nat.le_of_ble_eq_true rfl, Nat.le_of_ble_eq_true rfl⟩) (fun r18 u17 H locs hw hP hD hS => ?_)
          replace hP : va_P (dC, dI) vwCl (((W_P adK adV cI cB cS q qb n k (upd fv10 7 (u14.1)) q2 (va_up av11 8 (u14.2)) b sg) ++ [(q2, .inl (cI, k, .inl z5))]) ++ va_pl sL (sgF sf)) H := hP
          replace hD : va_D A (((W_P adK adV cI cB cS q qb n k (upd fv10 7 (u14.1)) q2 (va_up av11 8 (u14.2)) b sg) ++ [(q2, .inl (cI, k, .inl z5))]) ++ va_pl sL (sgF sf)) := hD
          refine lv_sipush (v := 10000) hx hb dX5_nearestWithTop_70 (by decide) ?_
          refine lv_imul hx hb dX5_nearestWithTop_73 ?_
          refine lv_aload_n hx hb dX5_nearestWithTop_74 rfl (lv_at hl 0 rfl) ?_
          refine va_get (D := (dC, dI)) (ci := 7) (v := .ref (q 15)) (C := RX5) (T := TX5) (N := 13) hx hb hts hiX5 hown hK hP 0 rfl rfl 9 (by decide) hf55 (fun _ h9 => h9) rfl dX5_nearestWithTop_75 ?_
          refine g_ci (g_J.poolQ (W2 := fun u19 : Unit => ((W_P adK adV cI cB cS q qb n k (upd fv10 7 (u14.1)) q2 (va_up av11 8 (u14.2)) b sg) ++ [(q2, .inl (cI, k, .inl z5))])) (pl := va_pl sL (sgF sf)) [((q 0), .inr (7, [.int (nI n), .int (nI k), .ref (q 1), .ref (q 2), .ref (q 3), .ref (q 8), .int (fv10 0), .ref (q 13), .ref (q 14), .ref (q 15), .int (fv10 1), .ref (q 17), .int (fv10 2)])), ((q 1), .inl (cB, (5), .inr (.inr (.inr (.inr (fun i => (kAll i).map qb)))))), ((q 2), .inl (cI, k, .inl (av11 0))), ((q 3), .inr (10, [.ref (q 4), .ref (q 5), .ref (q 6), .ref (q 7), .int (fv10 3), .int (fv10 4)])), ((q 5), .inl (cI, n, .inl (av11 1))), ((q 6), .inl (cI, k, .inl (av11 2))), ((q 7), .inl (cS, (6), .inr (.inr (.inr (.inr (sg 0)))))), ((q 8), .inr (10, [.ref (q 9), .ref (q 10), .ref (q 11), .ref (q 12), .int (fv10 5), .int (fv10 6)])), ((q 9), .inl (cB, (k - n), .inr (.inr (.inr (.inr (fun i => ((b 1) i).map qb)))))), ((q 10), .inl (cI, n, .inl (av11 3))), ((q 11), .inl (cI, k, .inl (av11 4))), ((q 12), .inl (cS, (6), .inr (.inr (.inr (.inr (sg 1)))))), ((q 13), .inl (cI, k, .inl (av11 5))), ((q 14), .inl (cI, k, .inl (av11 6))), ((q 17), .inl (cI, (10 * n), .inl (av11 7)))] [15, 16, 23, 4, 18, 19, 20, 21, 22] [0, 1, 2, 3, 5, 6, 7, 8, 9, 10, 11, 12, 13, 14, 17] [0, 1, 2, 3, 18, 4, 5, 6, 7, 8, 9, 10, 11, 12, 13, 15, 16, 14, 19, 20, 21, 22, 23, 17] rfl (by decide) rfl (by decide) (by decide) (fun _ => rfl) (by decide)) [0, 1] hK hP hD hS hA rfl (fun hPc hDc hKc hFc => va_runV (As := []) (rest := [.int (r18 * (10000 : Int32))]) ⟨hx, hb, hml, hown, hts⟩ (t_X6_number l dC dI adK adV cI cB (q 15) (q 4) (q 16) q2 qb n k (k - n) (b 0) z5 H.size (u14.1) (u14.2)   _ hw) (cwV 0 hts gX5_nearestWithTop_X6_number rfl rfl rfl (by decide +kernel) ⟨Nat.le_of_ble_eq_true rfl, Nat.le_of_ble_eq_true rfl⟩) (g_pV czb (q0 := 0) rfl rfl hPc hDc hKc (czc hZ hS hFc)) rfl rfl hl.1 rfl (lv_room (Nat.le_of_ble_eq_true rfl)) dX5_nearestWithTop_78 ⟨Nat.le_of_ble_eq_true rfl, Nat.le_of_ble_eq_true rfl⟩) (fun r20 u19 H locs hw hP hD hS => ?_)
          replace hP : va_P (dC, dI) vwCl (((W_P adK adV cI cB cS q qb n k (upd fv10 7 (u14.1)) q2 (va_up av11 8 (u14.2)) b sg) ++ [(q2, .inl (cI, k, .inl z5))]) ++ va_pl sL (sgF sf)) H := hP
          replace hD : va_D A (((W_P adK adV cI cB cS q qb n k (upd fv10 7 (u14.1)) q2 (va_up av11 8 (u14.2)) b sg) ++ [(q2, .inl (cI, k, .inl z5))]) ++ va_pl sL (sgF sf)) := hD
          refine lv_iadd hx hb dX5_nearestWithTop_81 ?_
          refine lv_topi (fun x21 ex21 => ?_)
          replace hw := hw x21 ex21
          refine lv_istore (lv' := [(5, .int x21), (0, .ref (q 0)), (3, .int x8), (4, .int x9)]) hx hb dX5_nearestWithTop_82 hl (by decide) rfl (fun ls hl => ?_)
          refine lv_iload_n hx hb dX5_nearestWithTop_84 rfl (lv_at hl 2 rfl) ?_
          refine lv_iconst (v := -1) hx hb dX5_nearestWithTop_85 (by decide) ?_
          replace hw := hw (fun (x22 : Int32) => ∀ (H : Heap) (locs : List Loc) (ls : Array Slot), va_P (dC, dI) vwCl (((W_P adK adV cI cB cS q qb n k (upd fv10 7 (u14.1)) q2 (va_up av11 8 (u14.2)) b sg) ++ [(q2, .inl (cI, k, .inl z5))]) ++ va_pl sL (sgF sf)) H → va_D A (((W_P adK adV cI cB cS q qb n k (upd fv10 7 (u14.1)) q2 (va_up av11 8 (u14.2)) b sg) ++ [(q2, .inl (cI, k, .inl z5))]) ++ va_pl sL (sgF sf)) → va_S A s.heap H locs → lv_has ls 6 [(0, .ref (q 0)), (4, .int x9)] → W p l e rmX5_nearestWithTop s m args below meth c H locs 1 10 Q (F0 m 100 ls [.int x22])) (by
            intro x22 hw H locs ls hP hD hS hl
            refine lv_istore_n (lv' := [(3, .int x22), (0, .ref (q 0)), (4, .int x9)]) hx hb dX5_nearestWithTop_100 rfl hl (by decide) rfl (fun ls hl => ?_)
            obtain ⟨x24, ex24⟩ : ∃ y : Int32, y = x9 + (1 : Int32) := ⟨_, rfl⟩
            replace hw := hw x24 ex24
            refine lv_iinc (v := x24) (lv' := [(4, .int x24), (3, .int x22), (0, .ref (q 0))]) hx hb dX5_nearestWithTop_101 hl (k := 2) rfl (by rw [ex24]; rfl) (by decide) rfl (fun ls hl => ?_)
            refine lv_goto (tgt := 41) hx hb dX5_nearestWithTop_104 (by decide) ?_
            exact hw H locs ls hP hD hS (lv_sub hl [2, 1, 0] rfl))
          refine lv_icmp_ne (tgt := 94) hx hb dX5_nearestWithTop_86 (by decide) (fun hc25 => ?_) (fun hc25 => ?_)
          · replace hw := hw.1 hc25
            refine lv_iload_n hx hb dX5_nearestWithTop_94 rfl (lv_at hl 2 rfl) ?_
            refine lv_iload hx hb dX5_nearestWithTop_95 (lv_at hl 0 rfl) ?_
            refine va_mmin hx hb (hml.trans hl.1.symm) hown ml161 msmin miMath mcmin (Nat.le_of_ble_eq_true rfl) (Nat.le_of_ble_eq_true rfl) (Nat.le_of_ble_eq_true rfl) (Nat.le_of_ble_eq_true rfl) dX5_nearestWithTop_97 ?_
            exact hw H locs ls hP hD hS (lv_sub hl [1, 3] rfl)
          · replace hw := hw.2 hc25
            refine lv_iload hx hb dX5_nearestWithTop_89 (lv_at hl 0 rfl) ?_
            refine lv_goto (tgt := 100) hx hb dX5_nearestWithTop_91 (by decide) ?_
            exact hw H locs ls hP hD hS (lv_sub hl [1, 3] rfl))
  refine lv_if_le (tgt := 28) hx hb dX5_nearestWithTop_16 (by decide) (fun hc26 => ?_) (fun hc26 => ?_)
  · replace hw := hw.1 hc26
    exact hw H locs ls hP hD hS (lv_sub hl [1, 0] rfl)
  · replace hw := hw.2 hc26
    refine lv_aload_n hx hb dX5_nearestWithTop_19 rfl (lv_at hl 0 rfl) ?_
    refine lv_aload_n hx hb dX5_nearestWithTop_20 rfl (lv_at hl 1 rfl) ?_
    refine va_get (D := (dC, dI)) (ci := 7) (v := .int (nI k)) (C := RX5) (T := TX5) (N := 13) hx hb hts hiX5 hown hK hP 0 rfl rfl 1 (by decide) hf19 (fun _ h9 => h9) rfl dX5_nearestWithTop_21 ?_
    refine lv_iconst (v := 1) hx hb dX5_nearestWithTop_24 (by decide) ?_
    refine lv_isub hx hb dX5_nearestWithTop_25 ?_
    refine lv_iload_n hx hb dX5_nearestWithTop_26 rfl (lv_at hl 2 rfl) ?_
    obtain ⟨hb27, hw⟩ := hw
    refine va_iast hx hb hK hP hD hS 23 0 rfl rfl hb27 dX5_nearestWithTop_27 (fun H locs hP hD hS => ?_)
    replace hP : va_P (dC, dI) vwCl (((W_P adK adV cI cB cS q qb n k f t a b sg) ++ [(q2, .inl (cI, k, .inl (upd u3 ((nI k) - (1 : Int32)).toNatClampNeg p0)))]) ++ va_pl sL (sgF sf)) H := hP
    replace hD : va_D A (((W_P adK adV cI cB cS q qb n k f t a b sg) ++ [(q2, .inl (cI, k, .inl (upd u3 ((nI k) - (1 : Int32)).toNatClampNeg p0)))]) ++ va_pl sL (sgF sf)) := hD
    exact hw H locs ls hP hD hS (lv_sub hl [1, 0] rfl)

def w_X5_manyMaking (n : Nat) (k : Nat) (q : Nat → Nat) (f : Nat → Int32) (t : Nat) (a : Nat → Nat → Int32) (b : Nat → Nat → Option Nat) (sg : Nat → Nat → Option Nat) (sL : List Nat) (sf : Nat → Nat → Int32)  (p0 : Int32) (p1 : Int32) (p2 : Int32) (p3 : Int32) (Q : Int32 → Unit → Prop) : Prop := (∀ X3 : Int32 → Int32 → Prop, (∀ (x1 : Int32) (x2 : Int32), (((((5 : Int32) ≤ x2) → Q x1 ()) ∧ (¬ ((5 : Int32) ≤ x2) → ∀ J6 : Int32 → Prop, (∀ (x5 : Int32), (∀ x7 : Int32, x7 = x2 + (1 : Int32) → X3 x5 x7) → J6 x5) → (((((p0 >>> (x2 &&& 31)) &&& (1 : Int32)) = 0) → J6 x1) ∧ (¬ (((p0 >>> (x2 &&& 31)) &&& (1 : Int32)) = 0) → (vp_in x2 (5)) ∧ ∃ kd10 : Nat, (kAll x2.toNatClampNeg = some kd10) ∧ (kd10 < 5) ∧ wk_made kd10 p1 p2 (fun (r11 : Int32) => (((¬ r11 = p3) → J6 x1) ∧ (r11 = p3 → ∀ x13 : Int32, x13 = x1 + (1 : Int32) → J6 x13)))))))) → X3 x1 x2) → X3 (0 : Int32) (0 : Int32))
abbrev rmX5_manyMaking : Room := { frames := 2, cells := 0, slots := 0, locals := 62 }
set_option maxHeartbeats 4000000 in
set_option maxRecDepth 100000 in
theorem t_X5_manyMaking (l : Launch) (dC : Nat → ClassId) (dI : Nat → Nat → Nat) (adK : Nat → Nat) (adV : Nat → Nat) (cI : ClassId) (cB : ClassId) (cS : ClassId) (q : Nat → Nat) (qb : Nat → Nat) (n : Nat) (k : Nat) (sz : Nat) (f : Nat → Int32) (t : Nat) (a : Nat → Nat → Int32) (b : Nat → Nat → Option Nat) (sg : Nat → Nat → Option Nat) (sL : List Nat) (sf : Nat → Nat → Int32)   (p0 : Int32) (p1 : Int32) (p2 : Int32) (p3 : Int32) (Q0 : Int32 → Unit → Prop) (hw : w_X5_manyMaking n k q f t a b sg sL sf  p0 p1 p2 p3 Q0) : Met l yX5_manyMaking wsX5_manyMaking rmX5_manyMaking (g_pre (cz adK adV) (dC, dI) vwCl [(cI, .int), (cB, .object RX0), (cS, .object RX7)] ((W_P adK adV cI cB cS q qb n k f t a b sg) ++ va_pl sL (sgF sf)) sz [.ref (q 0), .int p0, .int p1, .int p2, .int p3]) (g_qi (dC, dI) vwCl [(cI, .int), (cB, .object RX0), (cS, .object RX7)] (fun u : Unit => ((W_P adK adV cI cB cS q qb n k f t a b sg) ++ va_pl sL (sgF sf))) Q0 (va_A ((W_P adK adV cI cB cS q qb n k f t a b sg) ++ va_pl sL (sgF sf)) sz)) 0 0 (va_A ((W_P adK adV cI cB cS q qb n k f t a b sg) ++ va_pl sL (sgF sf)) sz) := by
  refine g_starti (by decide) rfl (Nat.le_of_ble_eq_true rfl) ?_
  intro p e s m args below meth c A Q ls hx hb hml hown hts hin hK hP hD hA hS hZ hret hl
  obtain ⟨H, eH⟩ : ∃ H : Heap, H = s.heap := ⟨_, rfl⟩
  obtain ⟨locs, eL⟩ : ∃ L : List Loc, L = [] := ⟨_, rfl⟩
  have hS : va_S A s.heap H locs := by rw [eH, eL]; exact hS
  rw [← eH] at hP
  suffices hg : W p l e rmX5_manyMaking s m args below meth c H locs 0 0 Q (F0 m 0 ls []) by rw [eH, eL] at hg; exact hg
  clear eH eL
  replace hl : lv_has ls 7 [(0, .ref (q 0)), (1, .int p0), (2, .int p1), (3, .int p2), (4, .int p3)] := hl
  have hf9 := hts (.fieldLink RX5 9 "NumberPile$Pile" "kinds" "[LNumberPile$Brick;") (by decide +kernel)
  have hiX5 : ∀ w ∈ u_ws RX5 TX5 13, w ∈ wsX5_manyMaking := fun w h => List.mem_cons_of_mem _ (List.mem_append_right _ h)
  have bcmade := (show Cond.code yX0_made cX0_made 3 (some .int) ∈ wsX5_manyMaking by decide +kernel)
  unfold w_X5_manyMaking at hw
  refine lv_iconst (v := 0) hx hb dX5_manyMaking_0 (by decide) ?_
  refine lv_istore (lv' := [(5, .int (0 : Int32)), (0, .ref (q 0)), (1, .int p0), (2, .int p1), (3, .int p2), (4, .int p3)]) hx hb dX5_manyMaking_1 hl (by decide) rfl (fun ls hl => ?_)
  refine lv_iconst (v := 0) hx hb dX5_manyMaking_3 (by decide) ?_
  refine lv_istore (lv' := [(6, .int (0 : Int32)), (5, .int (0 : Int32)), (0, .ref (q 0)), (1, .int p0), (2, .int p1), (3, .int p2), (4, .int p3)]) hx hb dX5_manyMaking_4 hl (by decide) rfl (fun ls hl => ?_)
  refine hw (fun (x1 : Int32) (x2 : Int32) => ∀ (H : Heap) (locs : List Loc) (ls : Array Slot), va_P (dC, dI) vwCl ((W_P adK adV cI cB cS q qb n k f t a b sg) ++ va_pl sL (sgF sf)) H → va_D A ((W_P adK adV cI cB cS q qb n k f t a b sg) ++ va_pl sL (sgF sf)) → va_S A s.heap H locs → lv_has ls 7 [(0, .ref (q 0)), (1, .int p0), (2, .int p1), (3, .int p2), (4, .int p3), (5, .int x1), (6, .int x2)] → W p l e rmX5_manyMaking s m args below meth c H locs 0 0 Q (F0 m 6 ls [])) ?_ H locs ls hP hD hS (lv_sub hl [2, 3, 4, 5, 6, 1, 0] rfl)
  · intro x1 x2 hw H locs ls hP hD hS hl
    refine lv_iload hx hb dX5_manyMaking_6 (lv_at hl 6 rfl) ?_
    refine lv_aload_n hx hb dX5_manyMaking_8 rfl (lv_at hl 0 rfl) ?_
    refine va_get (D := (dC, dI)) (ci := 7) (v := .ref (q 1)) (C := RX5) (T := TX5) (N := 13) hx hb hts hiX5 hown hK hP 0 rfl rfl 2 (by decide) hf9 (fun _ h9 => h9) rfl dX5_manyMaking_9 ?_
    refine va_alen hx hb hK hP 1 1 rfl rfl (v := (5 : Int32)) rfl dX5_manyMaking_12 ?_
    refine lv_icmp_ge (tgt := 51) hx hb dX5_manyMaking_13 (by decide) (fun hc4 => ?_) (fun hc4 => ?_)
    · replace hw := hw.1 hc4
      refine lv_iload hx hb dX5_manyMaking_51 (lv_at hl 5 rfl) ?_
      exact hret dX5_manyMaking_53 hK hP hD hS hw
    · replace hw := hw.2 hc4
      refine lv_iload_n hx hb dX5_manyMaking_16 rfl (lv_at hl 1 rfl) ?_
      refine lv_iload hx hb dX5_manyMaking_17 (lv_at hl 6 rfl) ?_
      refine lv_ishr hx hb dX5_manyMaking_19 ?_
      refine lv_iconst (v := 1) hx hb dX5_manyMaking_20 (by decide) ?_
      refine lv_iand hx hb dX5_manyMaking_21 ?_
      replace hw := hw (fun (x5 : Int32) => ∀ (H : Heap) (locs : List Loc) (ls : Array Slot), va_P (dC, dI) vwCl ((W_P adK adV cI cB cS q qb n k f t a b sg) ++ va_pl sL (sgF sf)) H → va_D A ((W_P adK adV cI cB cS q qb n k f t a b sg) ++ va_pl sL (sgF sf)) → va_S A s.heap H locs → lv_has ls 7 [(0, .ref (q 0)), (1, .int p0), (2, .int p1), (3, .int p2), (4, .int p3), (5, .int x5), (6, .int x2)] → W p l e rmX5_manyMaking s m args below meth c H locs 0 0 Q (F0 m 45 ls [])) (by
        intro x5 hw H locs ls hP hD hS hl
        obtain ⟨x7, ex7⟩ : ∃ y : Int32, y = x2 + (1 : Int32) := ⟨_, rfl⟩
        replace hw := hw x7 ex7
        refine lv_iinc (v := x7) (lv' := [(6, .int x7), (0, .ref (q 0)), (1, .int p0), (2, .int p1), (3, .int p2), (4, .int p3), (5, .int x5)]) hx hb dX5_manyMaking_45 hl (k := 6) rfl (by rw [ex7]; rfl) (by decide) rfl (fun ls hl => ?_)
        refine lv_goto (tgt := 6) hx hb dX5_manyMaking_48 (by decide) ?_
        exact hw H locs ls hP hD hS (lv_sub hl [1, 2, 3, 4, 5, 6, 0] rfl))
      refine lv_if_eq (tgt := 45) hx hb dX5_manyMaking_22 (by decide) (fun hc8 => ?_) (fun hc8 => ?_)
      · replace hw := hw.1 hc8
        exact hw H locs ls hP hD hS (lv_sub hl [0, 1, 2, 3, 4, 5, 6] rfl)
      · replace hw := hw.2 hc8
        refine lv_aload_n hx hb dX5_manyMaking_25 rfl (lv_at hl 0 rfl) ?_
        refine va_get (D := (dC, dI)) (ci := 7) (v := .ref (q 1)) (C := RX5) (T := TX5) (N := 13) hx hb hts hiX5 hown hK hP 0 rfl rfl 2 (by decide) hf9 (fun _ h9 => h9) rfl dX5_manyMaking_26 ?_
        refine lv_iload hx hb dX5_manyMaking_29 (lv_at hl 6 rfl) ?_
        obtain ⟨hb9, hw⟩ := hw
        refine va_aldq hx hb hK hP 1 1 rfl rfl hb9 dX5_manyMaking_31 ?_
        obtain ⟨kd10, hkd10, gkd10, hw⟩ := hw
        refine W.eq (congrArg (fun v => F0 m 32 ls (v :: [])) (bk_rf (qb := qb) hkd10)) ?_
        refine lv_iload_n hx hb dX5_manyMaking_32 rfl (lv_at hl 2 rfl) ?_
        refine lv_iload_n hx hb dX5_manyMaking_33 rfl (lv_at hl 3 rfl) ?_
        refine bk_made (rest := []) gkd10 hw (fun hw => va_runV (As := [.int p1, .int p2]) (rest := []) ⟨hx, hb, hml, hown, hts⟩ (t_X0_made l (qb 0) p1 p2 _ hw) (cwV 2 hts gX5_manyMaking_X0_made rfl rfl rfl (by decide +kernel) ⟨Nat.le_of_ble_eq_true rfl, Nat.le_of_ble_eq_true rfl⟩) (g_p0V hK hP (q0 := 18) rfl rfl) rfl rfl hl.1 rfl (lv_room (Nat.le_of_ble_eq_true rfl)) dX5_manyMaking_34 ⟨Nat.le_of_ble_eq_true rfl, Nat.le_of_ble_eq_true rfl⟩) (fun hw => va_runU (As := [.int p1, .int p2]) (rest := []) ⟨hx, hb, hml, hown, hts⟩ (t_X1_made l (qb 1) p1 p2 _ hw) (va_cwO 2 hts gX5_manyMaking_X1_made_u104X1 rfl rfl rfl bcmade (by decide +kernel) ⟨Nat.le_of_ble_eq_true rfl, Nat.le_of_ble_eq_true rfl⟩) (g_p0V hK hP (q0 := 19) rfl rfl) rfl rfl hl.1 rfl (lv_room (Nat.le_of_ble_eq_true rfl)) dX5_manyMaking_34 ⟨Nat.le_of_ble_eq_true rfl, Nat.le_of_ble_eq_true rfl⟩) (fun hw => va_runU (As := [.int p1, .int p2]) (rest := []) ⟨hx, hb, hml, hown, hts⟩ (t_X3_made l (qb 2) p1 p2 _ hw) (va_cwO 2 hts gX5_manyMaking_X3_made_u104X3 rfl rfl rfl bcmade (by decide +kernel) ⟨Nat.le_of_ble_eq_true rfl, Nat.le_of_ble_eq_true rfl⟩) (g_p0V hK hP (q0 := 20) rfl rfl) rfl rfl hl.1 rfl (lv_room (Nat.le_of_ble_eq_true rfl)) dX5_manyMaking_34 ⟨Nat.le_of_ble_eq_true rfl, Nat.le_of_ble_eq_true rfl⟩) (fun hw => va_runU (As := [.int p1, .int p2]) (rest := []) ⟨hx, hb, hml, hown, hts⟩ (t_X9_made l (qb 3) p1 p2 _ hw) (va_cwO 2 hts gX5_manyMaking_X9_made_u104X9 rfl rfl rfl bcmade (by decide +kernel) ⟨Nat.le_of_ble_eq_true rfl, Nat.le_of_ble_eq_true rfl⟩) (g_p0V hK hP (q0 := 21) rfl rfl) rfl rfl hl.1 rfl (lv_room (Nat.le_of_ble_eq_true rfl)) dX5_manyMaking_34 ⟨Nat.le_of_ble_eq_true rfl, Nat.le_of_ble_eq_true rfl⟩) (fun hw => va_runU (As := [.int p1, .int p2]) (rest := []) ⟨hx, hb, hml, hown, hts⟩ (t_X2_made l (qb 4) p1 p2 _ hw) (va_cwO 2 hts gX5_manyMaking_X2_made_u104X2 rfl rfl rfl bcmade (by decide +kernel) ⟨Nat.le_of_ble_eq_true rfl, Nat.le_of_ble_eq_true rfl⟩) (bk_pR hK hP (q0 := 22) rfl rfl) rfl rfl hl.1 rfl (lv_room (Nat.le_of_ble_eq_true rfl)) dX5_manyMaking_34 ⟨Nat.le_of_ble_eq_true rfl, Nat.le_of_ble_eq_true rfl⟩) (fun r11 hw => ?_)
        refine lv_iload hx hb dX5_manyMaking_37 (lv_at hl 4 rfl) ?_
        refine lv_icmp_ne (tgt := 45) hx hb dX5_manyMaking_39 (by decide) (fun hc12 => ?_) (fun hc12 => ?_)
        · replace hw := hw.1 hc12
          exact hw H locs ls hP hD hS (lv_sub hl [0, 1, 2, 3, 4, 5, 6] rfl)
        · replace hw := hw.2 hc12
          obtain ⟨x13, ex13⟩ : ∃ y : Int32, y = x1 + (1 : Int32) := ⟨_, rfl⟩
          replace hw := hw x13 ex13
          refine lv_iinc (v := x13) (lv' := [(5, .int x13), (0, .ref (q 0)), (1, .int p0), (2, .int p1), (3, .int p2), (4, .int p3), (6, .int x2)]) hx hb dX5_manyMaking_42 hl (k := 5) rfl (by rw [ex13]; rfl) (by decide) rfl (fun ls hl => ?_)
          exact hw H locs ls hP hD hS (lv_sub hl [1, 2, 3, 4, 5, 0, 6] rfl)

def w_X5_mostAlike (n : Nat) (k : Nat) (q : Nat → Nat) (f : Nat → Int32) (t : Nat) (a : Nat → Nat → Int32) (b : Nat → Nat → Option Nat) (sg : Nat → Nat → Option Nat) (sL : List Nat) (sf : Nat → Nat → Int32)  (p0 : Int32) (p1 : Int32) (p2 : Int32) (Q : Int32 → Unit → Prop) : Prop := (∀ X3 : Int32 → Int32 → Prop, (∀ (x1 : Int32) (x2 : Int32), (((((5 : Int32) ≤ x2) → Q x1 ()) ∧ (¬ ((5 : Int32) ≤ x2) → ∀ J6 : Int32 → Prop, (∀ (x5 : Int32), (∀ x7 : Int32, x7 = x2 + (1 : Int32) → X3 x5 x7) → J6 x5) → (((((p0 >>> (x2 &&& 31)) &&& (1 : Int32)) = 0) → J6 x1) ∧ (¬ (((p0 >>> (x2 &&& 31)) &&& (1 : Int32)) = 0) → (vp_in x2 (5)) ∧ ∃ kd10 : Nat, (kAll x2.toNatClampNeg = some kd10) ∧ (kd10 < 5) ∧ wk_made kd10 p1 p2 (fun (r11 : Int32) => w_X5_manyMaking n k q f t a b sg sL sf p0 p1 p2 r11 (fun (r13 : Int32) (u12 : Unit) => ∀ x14 : Int32, x14 = (if x1 < r13 then r13 else x1) → J6 x14))))))) → X3 x1 x2) → X3 (0 : Int32) (0 : Int32))
abbrev rmX5_mostAlike : Room := { frames := 3, cells := 0, slots := 0, locals := 88 }
set_option maxHeartbeats 4000000 in
set_option maxRecDepth 100000 in
theorem t_X5_mostAlike (l : Launch) (dC : Nat → ClassId) (dI : Nat → Nat → Nat) (adK : Nat → Nat) (adV : Nat → Nat) (cI : ClassId) (cB : ClassId) (cS : ClassId) (q : Nat → Nat) (qb : Nat → Nat) (n : Nat) (k : Nat) (sz : Nat) (f : Nat → Int32) (t : Nat) (a : Nat → Nat → Int32) (b : Nat → Nat → Option Nat) (sg : Nat → Nat → Option Nat) (sL : List Nat) (sf : Nat → Nat → Int32)   (p0 : Int32) (p1 : Int32) (p2 : Int32) (Q0 : Int32 → Unit → Prop) (hw : w_X5_mostAlike n k q f t a b sg sL sf  p0 p1 p2 Q0) : Met l yX5_mostAlike wsX5_mostAlike rmX5_mostAlike (g_pre (cz adK adV) (dC, dI) vwCl [(cI, .int), (cB, .object RX0), (cS, .object RX7)] ((W_P adK adV cI cB cS q qb n k f t a b sg) ++ va_pl sL (sgF sf)) sz [.ref (q 0), .int p0, .int p1, .int p2]) (g_qi (dC, dI) vwCl [(cI, .int), (cB, .object RX0), (cS, .object RX7)] (fun u : Unit => ((W_P adK adV cI cB cS q qb n k f t a b sg) ++ va_pl sL (sgF sf))) Q0 (va_A ((W_P adK adV cI cB cS q qb n k f t a b sg) ++ va_pl sL (sgF sf)) sz)) 0 0 (va_A ((W_P adK adV cI cB cS q qb n k f t a b sg) ++ va_pl sL (sgF sf)) sz) := by
  refine g_starti (by decide) rfl (Nat.le_of_ble_eq_true rfl) ?_
  intro p e s m args below meth c A Q ls hx hb hml hown hts hin hK hP hD hA hS hZ hret hl
  obtain ⟨H, eH⟩ : ∃ H : Heap, H = s.heap := ⟨_, rfl⟩
  obtain ⟨locs, eL⟩ : ∃ L : List Loc, L = [] := ⟨_, rfl⟩
  have hS : va_S A s.heap H locs := by rw [eH, eL]; exact hS
  rw [← eH] at hP
  suffices hg : W p l e rmX5_mostAlike s m args below meth c H locs 0 0 Q (F0 m 0 ls []) by rw [eH, eL] at hg; exact hg
  clear eH eL
  replace hl : lv_has ls 6 [(0, .ref (q 0)), (1, .int p0), (2, .int p1), (3, .int p2)] := hl
  have hf9 := hts (.fieldLink RX5 9 "NumberPile$Pile" "kinds" "[LNumberPile$Brick;") (by decide +kernel)
  have hiX5 : ∀ w ∈ u_ws RX5 TX5 13, w ∈ wsX5_mostAlike := fun w h => List.mem_cons_of_mem _ (List.mem_append_right _ h)
  have bcmade := (show Cond.code yX0_made cX0_made 3 (some .int) ∈ wsX5_mostAlike by decide +kernel)
  have ml141 := hts (.methodLink RX5 141 Lib.Math.max.name) (by decide +kernel)
  have msmax := hts (.static Lib.Math.max.name) (by decide +kernel)
  have miMath := hts (.initialized "java/lang/Math") (by decide +kernel)
  have mcmax := hts (.code Lib.Math.max.name Lib.Math.max.code 2 (some .int)) (by decide +kernel)
  unfold w_X5_mostAlike at hw
  refine lv_iconst (v := 0) hx hb dX5_mostAlike_0 (by decide) ?_
  refine lv_istore (lv' := [(4, .int (0 : Int32)), (0, .ref (q 0)), (1, .int p0), (2, .int p1), (3, .int p2)]) hx hb dX5_mostAlike_1 hl (by decide) rfl (fun ls hl => ?_)
  refine lv_iconst (v := 0) hx hb dX5_mostAlike_3 (by decide) ?_
  refine lv_istore (lv' := [(5, .int (0 : Int32)), (4, .int (0 : Int32)), (0, .ref (q 0)), (1, .int p0), (2, .int p1), (3, .int p2)]) hx hb dX5_mostAlike_4 hl (by decide) rfl (fun ls hl => ?_)
  refine hw (fun (x1 : Int32) (x2 : Int32) => ∀ (H : Heap) (locs : List Loc) (ls : Array Slot), va_P (dC, dI) vwCl ((W_P adK adV cI cB cS q qb n k f t a b sg) ++ va_pl sL (sgF sf)) H → va_D A ((W_P adK adV cI cB cS q qb n k f t a b sg) ++ va_pl sL (sgF sf)) → va_S A s.heap H locs → lv_has ls 6 [(0, .ref (q 0)), (1, .int p0), (2, .int p1), (3, .int p2), (4, .int x1), (5, .int x2)] → W p l e rmX5_mostAlike s m args below meth c H locs 0 0 Q (F0 m 6 ls [])) ?_ H locs ls hP hD hS (lv_sub hl [2, 3, 4, 5, 1, 0] rfl)
  · intro x1 x2 hw H locs ls hP hD hS hl
    refine lv_iload hx hb dX5_mostAlike_6 (lv_at hl 5 rfl) ?_
    refine lv_aload_n hx hb dX5_mostAlike_8 rfl (lv_at hl 0 rfl) ?_
    refine va_get (D := (dC, dI)) (ci := 7) (v := .ref (q 1)) (C := RX5) (T := TX5) (N := 13) hx hb hts hiX5 hown hK hP 0 rfl rfl 2 (by decide) hf9 (fun _ h9 => h9) rfl dX5_mostAlike_9 ?_
    refine va_alen hx hb hK hP 1 1 rfl rfl (v := (5 : Int32)) rfl dX5_mostAlike_12 ?_
    refine lv_icmp_ge (tgt := 57) hx hb dX5_mostAlike_13 (by decide) (fun hc4 => ?_) (fun hc4 => ?_)
    · replace hw := hw.1 hc4
      refine lv_iload hx hb dX5_mostAlike_57 (lv_at hl 4 rfl) ?_
      exact hret dX5_mostAlike_59 hK hP hD hS hw
    · replace hw := hw.2 hc4
      refine lv_iload_n hx hb dX5_mostAlike_16 rfl (lv_at hl 1 rfl) ?_
      refine lv_iload hx hb dX5_mostAlike_17 (lv_at hl 5 rfl) ?_
      refine lv_ishr hx hb dX5_mostAlike_19 ?_
      refine lv_iconst (v := 1) hx hb dX5_mostAlike_20 (by decide) ?_
      refine lv_iand hx hb dX5_mostAlike_21 ?_
      replace hw := hw (fun (x5 : Int32) => ∀ (H : Heap) (locs : List Loc) (ls : Array Slot), va_P (dC, dI) vwCl ((W_P adK adV cI cB cS q qb n k f t a b sg) ++ va_pl sL (sgF sf)) H → va_D A ((W_P adK adV cI cB cS q qb n k f t a b sg) ++ va_pl sL (sgF sf)) → va_S A s.heap H locs → lv_has ls 6 [(0, .ref (q 0)), (1, .int p0), (2, .int p1), (3, .int p2), (4, .int x5), (5, .int x2)] → W p l e rmX5_mostAlike s m args below meth c H locs 0 0 Q (F0 m 51 ls [])) (by
        intro x5 hw H locs ls hP hD hS hl
        obtain ⟨x7, ex7⟩ : ∃ y : Int32, y = x2 + (1 : Int32) := ⟨_, rfl⟩
        replace hw := hw x7 ex7
        refine lv_iinc (v := x7) (lv' := [(5, .int x7), (0, .ref (q 0)), (1, .int p0), (2, .int p1), (3, .int p2), (4, .int x5)]) hx hb dX5_mostAlike_51 hl (k := 5) rfl (by rw [ex7]; rfl) (by decide) rfl (fun ls hl => ?_)
        refine lv_goto (tgt := 6) hx hb dX5_mostAlike_54 (by decide) ?_
        exact hw H locs ls hP hD hS (lv_sub hl [1, 2, 3, 4, 5, 0] rfl))
      refine lv_if_eq (tgt := 51) hx hb dX5_mostAlike_22 (by decide) (fun hc8 => ?_) (fun hc8 => ?_)
      · replace hw := hw.1 hc8
        exact hw H locs ls hP hD hS (lv_sub hl [0, 1, 2, 3, 4, 5] rfl)
      · replace hw := hw.2 hc8
        refine lv_iload hx hb dX5_mostAlike_25 (lv_at hl 4 rfl) ?_
        refine lv_aload_n hx hb dX5_mostAlike_27 rfl (lv_at hl 0 rfl) ?_
        refine lv_iload_n hx hb dX5_mostAlike_28 rfl (lv_at hl 1 rfl) ?_
        refine lv_iload_n hx hb dX5_mostAlike_29 rfl (lv_at hl 2 rfl) ?_
        refine lv_iload_n hx hb dX5_mostAlike_30 rfl (lv_at hl 3 rfl) ?_
        refine lv_aload_n hx hb dX5_mostAlike_31 rfl (lv_at hl 0 rfl) ?_
        refine va_get (D := (dC, dI)) (ci := 7) (v := .ref (q 1)) (C := RX5) (T := TX5) (N := 13) hx hb hts hiX5 hown hK hP 0 rfl rfl 2 (by decide) hf9 (fun _ h9 => h9) rfl dX5_mostAlike_32 ?_
        refine lv_iload hx hb dX5_mostAlike_35 (lv_at hl 5 rfl) ?_
        obtain ⟨hb9, hw⟩ := hw
        refine va_aldq hx hb hK hP 1 1 rfl rfl hb9 dX5_mostAlike_37 ?_
        obtain ⟨kd10, hkd10, gkd10, hw⟩ := hw
        refine W.eq (congrArg (fun v => F0 m 38 ls (v :: [.int p2, .int p1, .int p0, .ref (q 0), .int x1])) (bk_rf (qb := qb) hkd10)) ?_
        refine lv_iload_n hx hb dX5_mostAlike_38 rfl (lv_at hl 2 rfl) ?_
        refine lv_iload_n hx hb dX5_mostAlike_39 rfl (lv_at hl 3 rfl) ?_
        refine bk_made (rest := [.int p2, .int p1, .int p0, .ref (q 0), .int x1]) gkd10 hw (fun hw => va_runV (As := [.int p1, .int p2]) (rest := [.int p2, .int p1, .int p0, .ref (q 0), .int x1]) ⟨hx, hb, hml, hown, hts⟩ (t_X0_made l (qb 0) p1 p2 _ hw) (cwV 2 hts gX5_mostAlike_X0_made rfl rfl rfl (by decide +kernel) ⟨Nat.le_of_ble_eq_true rfl, Nat.le_of_ble_eq_true rfl⟩) (g_p0V hK hP (q0 := 18) rfl rfl) rfl rfl hl.1 rfl (lv_room (Nat.le_of_ble_eq_true rfl)) dX5_mostAlike_40 ⟨Nat.le_of_ble_eq_true rfl, Nat.le_of_ble_eq_true rfl⟩) (fun hw => va_runU (As := [.int p1, .int p2]) (rest := [.int p2, .int p1, .int p0, .ref (q 0), .int x1]) ⟨hx, hb, hml, hown, hts⟩ (t_X1_made l (qb 1) p1 p2 _ hw) (va_cwO 2 hts gX5_mostAlike_X1_made_u104X1 rfl rfl rfl bcmade (by decide +kernel) ⟨Nat.le_of_ble_eq_true rfl, Nat.le_of_ble_eq_true rfl⟩) (g_p0V hK hP (q0 := 19) rfl rfl) rfl rfl hl.1 rfl (lv_room (Nat.le_of_ble_eq_true rfl)) dX5_mostAlike_40 ⟨Nat.le_of_ble_eq_true rfl, Nat.le_of_ble_eq_true rfl⟩) (fun hw => va_runU (As := [.int p1, .int p2]) (rest := [.int p2, .int p1, .int p0, .ref (q 0), .int x1]) ⟨hx, hb, hml, hown, hts⟩ (t_X3_made l (qb 2) p1 p2 _ hw) (va_cwO 2 hts gX5_mostAlike_X3_made_u104X3 rfl rfl rfl bcmade (by decide +kernel) ⟨Nat.le_of_ble_eq_true rfl, Nat.le_of_ble_eq_true rfl⟩) (g_p0V hK hP (q0 := 20) rfl rfl) rfl rfl hl.1 rfl (lv_room (Nat.le_of_ble_eq_true rfl)) dX5_mostAlike_40 ⟨Nat.le_of_ble_eq_true rfl, Nat.le_of_ble_eq_true rfl⟩) (fun hw => va_runU (As := [.int p1, .int p2]) (rest := [.int p2, .int p1, .int p0, .ref (q 0), .int x1]) ⟨hx, hb, hml, hown, hts⟩ (t_X9_made l (qb 3) p1 p2 _ hw) (va_cwO 2 hts gX5_mostAlike_X9_made_u104X9 rfl rfl rfl bcmade (by decide +kernel) ⟨Nat.le_of_ble_eq_true rfl, Nat.le_of_ble_eq_true rfl⟩) (g_p0V hK hP (q0 := 21) rfl rfl) rfl rfl hl.1 rfl (lv_room (Nat.le_of_ble_eq_true rfl)) dX5_mostAlike_40 ⟨Nat.le_of_ble_eq_true rfl, Nat.le_of_ble_eq_true rfl⟩) (fun hw => va_runU (As := [.int p1, .int p2]) (rest := [.int p2, .int p1, .int p0, .ref (q 0), .int x1]) ⟨hx, hb, hml, hown, hts⟩ (t_X2_made l (qb 4) p1 p2 _ hw) (va_cwO 2 hts gX5_mostAlike_X2_made_u104X2 rfl rfl rfl bcmade (by decide +kernel) ⟨Nat.le_of_ble_eq_true rfl, Nat.le_of_ble_eq_true rfl⟩) (bk_pR hK hP (q0 := 22) rfl rfl) rfl rfl hl.1 rfl (lv_room (Nat.le_of_ble_eq_true rfl)) dX5_mostAlike_40 ⟨Nat.le_of_ble_eq_true rfl, Nat.le_of_ble_eq_true rfl⟩) (fun r11 hw => ?_)
        refine g_ci (g_J.poolP (W2 := fun u12 : Unit => (W_P adK adV cI cB cS q qb n k f t a b sg)) (pl := va_pl sL (sgF sf)) (PL := fun u12 : Unit => va_pl sL (sgF sf)) (RX := fun u12 : Unit => (W_P adK adV cI cB cS q qb n k f t a b sg)) [] [0, 1, 2, 3, 4, 5, 6, 7, 8, 9, 10, 11, 12, 13, 14, 15, 16, 17, 18, 19, 20, 21, 22] [] [0, 1, 2, 3, 4, 5, 6, 7, 8, 9, 10, 11, 12, 13, 14, 15, 16, 17, 18, 19, 20, 21, 22] rfl (by decide) rfl (by decide) (by decide) (fun _ => rfl) (by decide)) [0, 1, 2] hK hP hD hS hA rfl (fun hPc hDc hKc hFc => va_runV (As := [.int p0, .int p1, .int p2, .int r11]) (rest := [.int x1]) ⟨hx, hb, hml, hown, hts⟩ (t_X5_manyMaking l dC dI adK adV cI cB cS q qb n k H.size f t a b sg sL sf p0 p1 p2 r11 _ hw) (cwV 4 hts gX5_mostAlike_X5_manyMaking rfl rfl rfl (by decide +kernel) ⟨Nat.le_of_ble_eq_true rfl, Nat.le_of_ble_eq_true rfl⟩) (g_pV czb (q0 := 0) rfl rfl hPc hDc hKc (czc hZ hS hFc)) rfl rfl hl.1 rfl (lv_room (Nat.le_of_ble_eq_true rfl)) dX5_mostAlike_43 ⟨Nat.le_of_ble_eq_true rfl, Nat.le_of_ble_eq_true rfl⟩) (fun r13 u12 H locs hw hP hD hS => ?_)
        replace hP : va_P (dC, dI) vwCl ((W_P adK adV cI cB cS q qb n k f t a b sg) ++ va_pl sL (sgF sf)) H := hP
        replace hD : va_D A ((W_P adK adV cI cB cS q qb n k f t a b sg) ++ va_pl sL (sgF sf)) := hD
        refine va_mmax hx hb (hml.trans hl.1.symm) hown ml141 msmax miMath mcmax (Nat.le_of_ble_eq_true rfl) (Nat.le_of_ble_eq_true rfl) (Nat.le_of_ble_eq_true rfl) (Nat.le_of_ble_eq_true rfl) dX5_mostAlike_46 ?_
        refine lv_topi (fun x14 ex14 => ?_)
        replace hw := hw x14 ex14
        refine lv_istore (lv' := [(4, .int x14), (0, .ref (q 0)), (1, .int p0), (2, .int p1), (3, .int p2), (5, .int x2)]) hx hb dX5_mostAlike_49 hl (by decide) rfl (fun ls hl => ?_)
        exact hw H locs ls hP hD hS (lv_sub hl [1, 2, 3, 4, 0, 5] rfl)
