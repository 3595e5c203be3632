def w_X5_goBackToImage (n : Nat) (k : Nat) (q : Nat → Nat) (f : Nat → Int32) (t : Nat) (a : Nat → Nat → Int32) (b : Nat → Nat → Int32) (sg : Nat → Nat → Option Nat) (sL : List Nat) (sf : Nat → Nat → Int32)   (Q : ((Nat → Int32) × (Nat → Nat → Int32) × (Nat → Nat → Int32) × (Nat → Nat → Option Nat)) → Prop) : Prop := w_X8_takeFrom n k (b 1) (a 3) (a 4) (sg 1) (f 5) (f 6) (b 0) (a 1) (a 2) (sg 0) (f 3) (f 4) sL sf  (fun (u1 : ((Nat → Int32) × (Nat → Int32) × (Nat → Int32) × (Nat → Option Nat) × (Int32) × (Int32))) => w_X5_build n k q (upd (upd (upd f 3 (u1.2.2.2.2.1)) 4 (u1.2.2.2.2.2)) 2 (0 : Int32)) t (va_up (va_up a 1 (u1.2.1)) 2 (u1.2.2.1)) (va_up b 0 (u1.1)) (va_up sg 0 (u1.2.2.2.1)) sL sf  (fun (u2 : ((Nat → Nat → Int32))) => Q ((upd (upd (upd f 3 (u1.2.2.2.2.1)) 4 (u1.2.2.2.2.2)) 2 (0 : Int32)), u2, (va_up b 0 (u1.1)), (va_up sg 0 (u1.2.2.2.1)))))
abbrev rmX5_goBackToImage : Room := { frames := 4, cells := 0, slots := 0, locals := 105 }
set_option maxHeartbeats 4000000 in
set_option maxRecDepth 100000 in
theorem t_X5_goBackToImage (l : Launch) (dC : Nat → ClassId) (dI : Nat → Nat → Nat) (adK : Nat → Nat) (adV : Nat → Nat) (cI : ClassId) (cB : ClassId) (cS : ClassId) (q : Nat → Nat) (qb : Nat → Nat) (n : Nat) (k : Nat) (sz : Nat) (f : Nat → Int32) (t : Nat) (a : Nat → Nat → Int32) (b : Nat → Nat → Int32) (sg : Nat → Nat → Option Nat) (sL : List Nat) (sf : Nat → Nat → Int32)    (Q0 : ((Nat → Int32) × (Nat → Nat → Int32) × (Nat → Nat → Int32) × (Nat → Nat → Option Nat)) → Prop) (hw : w_X5_goBackToImage n k q f t a b sg sL sf   Q0) : Met l yX5_goBackToImage wsX5_goBackToImage rmX5_goBackToImage (g_pre (cz adK adV) (dC, dI) vwCl [(cI, .int), (cB, .object RX0), (cS, .object RX7)] ((W_P adK adV cI cB cS q qb n k f t a b sg) ++ va_pl sL (sgF sf)) sz [.ref (q 0)]) (g_qv (dC, dI) vwCl [(cI, .int), (cB, .object RX0), (cS, .object RX7)] (fun u : ((Nat → Int32) × (Nat → Nat → Int32) × (Nat → Nat → Int32) × (Nat → Nat → Option Nat)) => ((W_P adK adV cI cB cS q qb n k (u.1) t (u.2.1) (u.2.2.1) (u.2.2.2)) ++ va_pl sL (sgF sf))) Q0 (va_A ((W_P adK adV cI cB cS q qb n k f t a b sg) ++ va_pl sL (sgF sf)) sz)) 0 0 (va_A ((W_P adK adV cI cB cS q qb n k f t a b sg) ++ va_pl sL (sgF sf)) sz) := by
  refine g_startv (by decide) rfl (Nat.le_of_ble_eq_true rfl) ?_
  intro p e s m args below meth c A Q ls hx hb hml hown hts hin hK hP hD hA hS hZ hret hl
  obtain ⟨H, eH⟩ : ∃ H : Heap, H = s.heap := ⟨_, rfl⟩
  obtain ⟨locs, eL⟩ : ∃ L : List Loc, L = [] := ⟨_, rfl⟩
  have hS : va_S A s.heap H locs := by rw [eH, eL]; exact hS
  rw [← eH] at hP
  suffices hg : W p l e rmX5_goBackToImage s m args below meth c H locs 0 0 Q (F0 m 0 ls []) by rw [eH, eL] at hg; exact hg
  clear eH eL
  replace hl : lv_has ls 1 [(0, .ref (q 0))] := hl
  have hf31 := hts (.fieldLink RX5 31 "NumberPile$Pile" "now" "LNumberPile$State;") (by decide +kernel)
  have hiX5 : ∀ w ∈ u_ws RX5 TX5 15, w ∈ wsX5_goBackToImage := fun w h => List.mem_cons_of_mem _ (List.mem_append_left _ (List.mem_append_right _ h))
  have hf35 := hts (.fieldLink RX5 35 "NumberPile$Pile" "kept" "LNumberPile$State;") (by decide +kernel)
  have hf127 := hts (.fieldLink RX5 127 "NumberPile$Pile" "isCounted" "Z") (by decide +kernel)
  unfold w_X5_goBackToImage at hw
  refine lv_aload_n hx hb dX5_goBackToImage_0 rfl (lv_at hl 0 rfl) ?_
  refine va_get (D := (dC, dI)) (ci := 7) (v := .ref (q 3)) (C := RX5) (T := TX5) (N := 15) hx hb hts hiX5 hown hK hP 0 rfl rfl 4 (by decide) hf31 (fun _ h9 => h9) rfl dX5_goBackToImage_1 ?_
  refine lv_aload_n hx hb dX5_goBackToImage_4 rfl (lv_at hl 0 rfl) ?_
  refine va_get (D := (dC, dI)) (ci := 7) (v := .ref (q 8)) (C := RX5) (T := TX5) (N := 15) hx hb hts hiX5 hown hK hP 0 rfl rfl 5 (by decide) hf35 (fun _ h9 => h9) rfl dX5_goBackToImage_5 ?_
  refine g_cv (g_J.poolP (W2 := fun u1 : ((Nat → Int32) × (Nat → Int32) × (Nat → Int32) × (Nat → Option Nat) × (Int32) × (Int32)) => (W_P adK adV cI cB cS q qb n k (upd (upd f 3 (u1.2.2.2.2.1)) 4 (u1.2.2.2.2.2)) t (va_up (va_up a 1 (u1.2.1)) 2 (u1.2.2.1)) (va_up b 0 (u1.1)) (va_up sg 0 (u1.2.2.2.1)))) (pl := va_pl sL (sgF sf)) (PL := fun u1 : ((Nat → Int32) × (Nat → Int32) × (Nat → Int32) × (Nat → Option Nat) × (Int32) × (Int32)) => va_pl sL (sgF sf)) (RX := fun u1 : ((Nat → Int32) × (Nat → Int32) × (Nat → Int32) × (Nat → Option Nat) × (Int32) × (Int32)) => (W_TS adK adV cI cB cS (q 3) (q 4) (q 5) (q 6) (q 7) (q 8) (q 9) (q 10) (q 11) (q 12) qb n k (b 1) (a 3) (a 4) (sg 1) (f 5) (f 6) (u1.1) (u1.2.1) (u1.2.2.1) (u1.2.2.2.1) (u1.2.2.2.2.1) (u1.2.2.2.2.2))) [((q 0), .inr (7, [.int (nI n), .int (nI k), .ref (q 1), .ref (q 2), .ref (q 3), .ref (q 8), .int (f 0), .ref (q 13), .ref (q 14), .ref (q 15), .ref (q 18), .ref (q 21), .int (f 1), .ref (q 17), .int (f 2)])), ((q 1), .inl (cB, (5), .inr (.inr (.inr (.inr (fun i => (kAll i).map qb)))))), ((q 2), .inl (cI, k, .inl (a 0))), ((q 13), .inl (cI, k, .inl (a 5))), ((q 14), .inl (cI, k, .inl (a 6))), ((q 15), .inr (8, [.int (nI n), .ref (q 1), .ref (q 4), .ref (q 16), .ref t, .int (f 7)])), ((q 16), .inl (cI, k, .inl (a 8))), ((q 17), .inl (cI, (10 * n), .inl (a 7))), ((q 18), .inr (14, [.ref (q 19), .ref (q 20)])), ((q 19), .inl (cI, (k + 1), .inl (b 2))), ((q 20), .inl (cI, (toL n), .inl (b 3))), ((q 21), .inl (cI, k, .inl (b 4)))] [3, 4, 5, 6, 7, 8, 9, 10, 11, 12, 22, 23, 24, 25, 26] [0, 1, 2, 13, 14, 15, 16, 17, 18, 19, 20, 21] [0, 1, 2, 12, 13, 14, 15, 16, 17, 18, 19, 20, 21, 3, 4, 5, 6, 7, 8, 9, 10, 11, 22, 23, 24, 25, 26] rfl (by decide) rfl (by decide) (by decide) (fun _ => rfl) (by decide)) [0, 1, 2] hK hP hD hS hA rfl (fun hPc hDc hKc hFc => va_runV (As := [.ref (q 8)]) (rest := []) ⟨hx, hb, hml, hown, hts⟩ (t_X8_takeFrom l dC dI adK adV cI cB cS (q 3) (q 4) (q 5) (q 6) (q 7) (q 8) (q 9) (q 10) (q 11) (q 12) qb n k (b 1) (a 3) (a 4) (sg 1) (f 5) (f 6) H.size (b 0) (a 1) (a 2) (sg 0) (f 3) (f 4) sL sf  _ hw) (cwV 1 hts gX5_goBackToImage_X8_takeFrom rfl rfl rfl (by decide +kernel) ⟨Nat.le_of_ble_eq_true rfl, Nat.le_of_ble_eq_true rfl⟩) (g_pV czb (q0 := 0) rfl rfl hPc hDc hKc (czc hZ hS hFc)) rfl rfl hl.1 rfl (lv_room (Nat.le_of_ble_eq_true rfl)) dX5_goBackToImage_8 ⟨Nat.le_of_ble_eq_true rfl, Nat.le_of_ble_eq_true rfl⟩) (fun u1 H locs hw hP hD hS => ?_)
  replace hP : va_P (dC, dI) vwCl ((W_P adK adV cI cB cS q qb n k (upd (upd f 3 (u1.2.2.2.2.1)) 4 (u1.2.2.2.2.2)) t (va_up (va_up a 1 (u1.2.1)) 2 (u1.2.2.1)) (va_up b 0 (u1.1)) (va_up sg 0 (u1.2.2.2.1))) ++ va_pl sL (sgF sf)) H := hP
  replace hD : va_D A ((W_P adK adV cI cB cS q qb n k (upd (upd f 3 (u1.2.2.2.2.1)) 4 (u1.2.2.2.2.2)) t (va_up (va_up a 1 (u1.2.1)) 2 (u1.2.2.1)) (va_up b 0 (u1.1)) (va_up sg 0 (u1.2.2.2.1))) ++ va_pl sL (sgF sf)) := hD
  refine lv_aload_n hx hb dX5_goBackToImage_11 rfl (lv_at hl 0 rfl) ?_
  refine lv_iconst (v := 0) hx hb dX5_goBackToImage_12 (by decide) ?_
  refine va_put (D := (dC, dI)) (ci := 7) (v := .int (0 : Int32)) (ty := (.boolean)) (C := RX5) (T := TX5) (N := 15) hx hb hts hiX5 tyX5 tyX5_ok nmX5 hown hK hP hD hS 0 rfl rfl 14 (by decide) hf127 (fun _ h9 => h9) rfl (by decide +kernel) rfl rfl (Nat.le_of_ble_eq_true rfl) dX5_goBackToImage_13 (fun H locs hP hD hS => ?_)
  replace hP : va_P (dC, dI) vwCl ((W_P adK adV cI cB cS q qb n k (upd (upd (upd f 3 (u1.2.2.2.2.1)) 4 (u1.2.2.2.2.2)) 2 (0 : Int32)) t (va_up (va_up a 1 (u1.2.1)) 2 (u1.2.2.1)) (va_up b 0 (u1.1)) (va_up sg 0 (u1.2.2.2.1))) ++ va_pl sL (sgF sf)) H := hP
  replace hD : va_D A ((W_P adK adV cI cB cS q qb n k (upd (upd (upd f 3 (u1.2.2.2.2.1)) 4 (u1.2.2.2.2.2)) 2 (0 : Int32)) t (va_up (va_up a 1 (u1.2.1)) 2 (u1.2.2.1)) (va_up b 0 (u1.1)) (va_up sg 0 (u1.2.2.2.1))) ++ va_pl sL (sgF sf)) := hD
  refine lv_aload_n hx hb dX5_goBackToImage_16 rfl (lv_at hl 0 rfl) ?_
  refine g_cv (g_J.poolP (W2 := fun u2 : ((Nat → Nat → Int32)) => (W_P adK adV cI cB cS q qb n k (upd (upd (upd f 3 (u1.2.2.2.2.1)) 4 (u1.2.2.2.2.2)) 2 (0 : Int32)) t u2 (va_up b 0 (u1.1)) (va_up sg 0 (u1.2.2.2.1)))) (pl := va_pl sL (sgF sf)) (PL := fun u2 : ((Nat → Nat → Int32)) => va_pl sL (sgF sf)) (RX := fun u2 : ((Nat → Nat → Int32)) => (W_P adK adV cI cB cS q qb n k (upd (upd (upd f 3 (u1.2.2.2.2.1)) 4 (u1.2.2.2.2.2)) 2 (0 : Int32)) t u2 (va_up b 0 (u1.1)) (va_up sg 0 (u1.2.2.2.1)))) [] [0, 1, 2, 3, 4, 5, 6, 7, 8, 9, 10, 11, 12, 13, 14, 15, 16, 17, 18, 19, 20, 21, 22, 23, 24, 25, 26] [] [0, 1, 2, 3, 4, 5, 6, 7, 8, 9, 10, 11, 12, 13, 14, 15, 16, 17, 18, 19, 20, 21, 22, 23, 24, 25, 26] rfl (by decide) rfl (by decide) (by decide) (fun _ => rfl) (by decide)) [0, 1, 2] hK hP hD hS hA rfl (fun hPc hDc hKc hFc => va_runV (As := []) (rest := []) ⟨hx, hb, hml, hown, hts⟩ (t_X5_build l dC dI adK adV cI cB cS q qb n k H.size (upd (upd (upd f 3 (u1.2.2.2.2.1)) 4 (u1.2.2.2.2.2)) 2 (0 : Int32)) t (va_up (va_up a 1 (u1.2.1)) 2 (u1.2.2.1)) (va_up b 0 (u1.1)) (va_up sg 0 (u1.2.2.2.1)) sL sf  _ hw) (cwV 0 hts gX5_goBackToImage_X5_build rfl rfl rfl (by decide +kernel) ⟨Nat.le_of_ble_eq_true rfl, Nat.le_of_ble_eq_true rfl⟩) (g_pV czb (q0 := 0) rfl rfl hPc hDc hKc (czc hZ hS hFc)) rfl rfl hl.1 rfl (lv_room (Nat.le_of_ble_eq_true rfl)) dX5_goBackToImage_17 ⟨Nat.le_of_ble_eq_true rfl, Nat.le_of_ble_eq_true rfl⟩) (fun u2 H locs hw hP hD hS => ?_)
  replace hP : va_P (dC, dI) vwCl ((W_P adK adV cI cB cS q qb n k (upd (upd (upd f 3 (u1.2.2.2.2.1)) 4 (u1.2.2.2.2.2)) 2 (0 : Int32)) t u2 (va_up b 0 (u1.1)) (va_up sg 0 (u1.2.2.2.1))) ++ va_pl sL (sgF sf)) H := hP
  replace hD : va_D A ((W_P adK adV cI cB cS q qb n k (upd (upd (upd f 3 (u1.2.2.2.2.1)) 4 (u1.2.2.2.2.2)) 2 (0 : Int32)) t u2 (va_up b 0 (u1.1)) (va_up sg 0 (u1.2.2.2.1))) ++ va_pl sL (sgF sf)) := hD
  exact hret dX5_goBackToImage_20 hK hP hD hS hw

def w_X8_addSight  (tS : Nat → Option Nat) (ts : Int32) (sL : List Nat) (sf : Nat → Nat → Int32) (y : Nat)  (Q : ((Nat → Option Nat) × (Int32)) → Prop) : Prop := ((((6 : Int32) ≤ ts) → Q (tS, ts)) ∧ (¬ ((6 : Int32) ≤ ts) → (vp_in ts (6)) ∧ ∀ x4 : Int32, x4 = (ts + (1 : Int32)) → Q ((va_up tS ts.toNatClampNeg (some y)), x4)))
abbrev rmX8_addSight : Room := { frames := 0, cells := 0, slots := 0, locals := 0 }
set_option maxHeartbeats 4000000 in
set_option maxRecDepth 100000 in
theorem t_X8_addSight (l : Launch) (dC : Nat → ClassId) (dI : Nat → Nat → Nat) (cS : ClassId) (h : Nat) (x1 : Nat) (x2 : Nat) (x3 : Nat) (qS : Nat) (tc : Int32) (sz : Nat) (tS : Nat → Option Nat) (ts : Int32) (sL : List Nat) (sf : Nat → Nat → Int32) (y : Nat) (hy : y ∈ sL)  (Q0 : ((Nat → Option Nat) × (Int32)) → Prop) (hw : w_X8_addSight  tS ts sL sf y  Q0) : Met l yX8_addSight wsX8_addSight rmX8_addSight (g_pre g_T (dC, dI) vwCl [(cS, .object RX7)] ((W_AS cS h x1 x2 x3 qS tc tS ts) ++ va_pl sL (sgF sf)) sz [.ref h, .ref y]) (g_qv (dC, dI) vwCl [(cS, .object RX7)] (fun u : ((Nat → Option Nat) × (Int32)) => ((W_AS cS h x1 x2 x3 qS tc (u.1) (u.2)) ++ va_pl sL (sgF sf))) Q0 (va_A ((W_AS cS h x1 x2 x3 qS tc tS ts) ++ va_pl sL (sgF sf)) sz)) 0 0 (va_A ((W_AS cS h x1 x2 x3 qS tc tS ts) ++ va_pl sL (sgF sf)) sz) := by
  refine g_startv (by decide) rfl (Nat.le_of_ble_eq_true rfl) ?_
  intro p e s m args below meth c A Q ls hx hb hml hown hts hin hK hP hD hA hS hZ hret hl
  obtain ⟨H, eH⟩ : ∃ H : Heap, H = s.heap := ⟨_, rfl⟩
  obtain ⟨locs, eL⟩ : ∃ L : List Loc, L = [] := ⟨_, rfl⟩
  have hS : va_S A s.heap H locs := by rw [eH, eL]; exact hS
  rw [← eH] at hP
  suffices hg : W p l e rmX8_addSight s m args below meth c H locs 0 0 Q (F0 m 0 ls []) by rw [eH, eL] at hg; exact hg
  clear eH eL
  replace hl : lv_has ls 2 [(0, .ref h), (1, .ref y)] := hl
  have hf33 := hts (.fieldLink RX8 33 "NumberPile$State" "sights" "I") (by decide +kernel)
  have hiX8 : ∀ w ∈ u_ws RX8 TX8 6, w ∈ wsX8_addSight := fun w h => List.mem_cons_of_mem _ (List.mem_append_right _ h)
  have hf29 := hts (.fieldLink RX8 29 "NumberPile$State" "seen" "[LNumberPile$Sight;") (by decide +kernel)
  unfold w_X8_addSight at hw
  refine lv_aload_n hx hb dX8_addSight_0 rfl (lv_at hl 0 rfl) ?_
  refine va_get (D := (dC, dI)) (ci := 10) (v := .int ts) (C := RX8) (T := TX8) (N := 6) hx hb hts hiX8 hown hK hP 0 rfl rfl 4 (by decide) hf33 (fun _ h9 => h9) rfl dX8_addSight_1 ?_
  refine lv_aload_n hx hb dX8_addSight_4 rfl (lv_at hl 0 rfl) ?_
  refine va_get (D := (dC, dI)) (ci := 10) (v := .ref qS) (C := RX8) (T := TX8) (N := 6) hx hb hts hiX8 hown hK hP 0 rfl rfl 3 (by decide) hf29 (fun _ h9 => h9) rfl dX8_addSight_5 ?_
  refine va_alen hx hb hK hP 1 0 rfl rfl (v := (6 : Int32)) rfl dX8_addSight_8 ?_
  refine lv_icmp_ge (tgt := 32) hx hb dX8_addSight_9 (by decide) (fun hc1 => ?_) (fun hc1 => ?_)
  · replace hw := hw.1 hc1
    exact hret dX8_addSight_32 hK hP hD hS hw
  · replace hw := hw.2 hc1
    refine lv_aload_n hx hb dX8_addSight_12 rfl (lv_at hl 0 rfl) ?_
    refine va_get (D := (dC, dI)) (ci := 10) (v := .ref qS) (C := RX8) (T := TX8) (N := 6) hx hb hts hiX8 hown hK hP 0 rfl rfl 3 (by decide) hf29 (fun _ h9 => h9) rfl dX8_addSight_13 ?_
    refine lv_aload_n hx hb dX8_addSight_16 rfl (lv_at hl 0 rfl) ?_
    refine va_get (D := (dC, dI)) (ci := 10) (v := .int ts) (C := RX8) (T := TX8) (N := 6) hx hb hts hiX8 hown hK hP 0 rfl rfl 4 (by decide) hf33 (fun _ h9 => h9) rfl dX8_addSight_17 ?_
    refine lv_aload_n hx hb dX8_addSight_20 rfl (lv_at hl 1 rfl) ?_
    obtain ⟨hb2, hw⟩ := hw
    obtain ⟨k3, hk3⟩ := va_pl_get (X := (W_AS cS h x1 x2 x3 qS tc tS ts)) (f := sgF sf) hy
    refine va_astq hx hb hK hP hD hS 1 0 k3 9 rfl rfl hk3 rfl hb2 dX8_addSight_21 (fun H locs hP hD hS => ?_)
    replace hP : va_P (dC, dI) vwCl ((W_AS cS h x1 x2 x3 qS tc (va_up tS ts.toNatClampNeg (some y)) ts) ++ va_pl sL (sgF sf)) H := hP
    replace hD : va_D A ((W_AS cS h x1 x2 x3 qS tc (va_up tS ts.toNatClampNeg (some y)) ts) ++ va_pl sL (sgF sf)) := hD
    refine lv_aload_n hx hb dX8_addSight_22 rfl (lv_at hl 0 rfl) ?_
    refine lv_dup hx hb dX8_addSight_23 rfl ?_
    refine va_get (D := (dC, dI)) (ci := 10) (v := .int ts) (C := RX8) (T := TX8) (N := 6) hx hb hts hiX8 hown hK hP 0 rfl rfl 4 (by decide) hf33 (fun _ h9 => h9) rfl dX8_addSight_24 ?_
    refine lv_iconst (v := 1) hx hb dX8_addSight_27 (by decide) ?_
    refine lv_iadd hx hb dX8_addSight_28 ?_
    refine lv_topi (fun x4 ex4 => ?_)
    replace hw := hw x4 ex4
    refine va_put (D := (dC, dI)) (ci := 10) (v := .int x4) (ty := (.int)) (C := RX8) (T := TX8) (N := 6) hx hb hts hiX8 tyX8 tyX8_ok nmX8 hown hK hP hD hS 0 rfl rfl 4 (by decide) hf33 (fun _ h9 => h9) rfl (by decide +kernel) rfl rfl (Nat.le_of_ble_eq_true rfl) dX8_addSight_29 (fun H locs hP hD hS => ?_)
    replace hP : va_P (dC, dI) vwCl ((W_AS cS h x1 x2 x3 qS tc (va_up tS ts.toNatClampNeg (some y)) x4) ++ va_pl sL (sgF sf)) H := hP
    replace hD : va_D A ((W_AS cS h x1 x2 x3 qS tc (va_up tS ts.toNatClampNeg (some y)) x4) ++ va_pl sL (sgF sf)) := hD
    exact hret dX8_addSight_32 hK hP hD hS hw

def w_X5_nearestWithTop (n : Nat) (k : Nat) (q : Nat → Nat) (f : Nat → Int32) (t : Nat) (a : Nat → Nat → Int32) (b : Nat → Nat → Int32) (sg : Nat → Nat → Option Nat) (sL : List Nat) (sf : Nat → Nat → Int32)  (p0 : Int32) (Q : Int32 → ((Nat → Int32) × (Nat) × (Nat → Nat → Int32) × (Nat → Nat → Int32)) → Prop) : Prop := ∀ J3 : (Nat → Nat → Int32) → (Nat → Nat → Int32) → Prop, (∀ (av1 : (Nat → Nat → Int32)) (bv2 : (Nat → Nat → Int32)), (w_X6_start k n t (f 7) (av1 8)   (fun (u4 : StRSP) => (∀ X9 : Int32 → Int32 → (Nat → Int32) → (Nat → Nat → Int32) → Prop, (∀ (x5 : Int32) (x6 : Int32) (fv7 : (Nat → Int32)) (av8 : (Nat → Nat → Int32)), (((((10000 : Int32) ≤ x6) → Q x5 (fv7, (q 21), av8, bv2)) ∧ (¬ ((10000 : Int32) ≤ x6) → w_X6_next n k (k - n) (bv2 0) (bv2 4) (fv7 7) (av8 8)   (fun (r12 : Int32) (u11 : ((Int32) × (Nat → Int32))) => (((r12 = 0) → Q x5 ((upd fv7 7 (u11.1)), (q 21), (va_up av8 8 (u11.2)), bv2)) ∧ (¬ (r12 = 0) → w_X5_changesTo_r n k q (upd fv7 7 (u11.1)) (q 21) (va_up av8 8 (u11.2)) bv2 sg sL sf  (fun (r15 : Int32) (u14 : Unit) => w_X6_number n k (k - n) (bv2 0) (bv2 4) (u11.1) (u11.2)   (fun (r17 : Int32) (u16 : Unit) => ∀ x18 : Int32, x18 = ((r15 * (10000 : Int32)) + r17) → ∀ J20 : Int32 → Prop, (∀ (x19 : Int32), (∀ x21 : Int32, x21 = x6 + (1 : Int32) → X9 x19 x21 (upd fv7 7 (u11.1)) (va_up av8 8 (u11.2))) → J20 x19) → (((¬ x5 = (-1 : Int32)) → J20 (if x18 < x5 then x18 else x5)) ∧ (x5 = (-1 : Int32) → J20 x18)))))))))) → X9 x5 x6 fv7 av8) → X9 (-1 : Int32) (0 : Int32) (upd f 7 (u4.1)) (va_up av1 8 (u4.2))))) → J3 av1 bv2) → ((((nI k) ≤ 0) → J3 a b) ∧ (¬ ((nI k) ≤ 0) → (vp_in ((nI k) - (1 : Int32)) k) ∧ J3 a (va_up b 4 (upd (b 4) ((nI k) - (1 : Int32)).toNatClampNeg p0))))
abbrev rmX5_nearestWithTop : Room := { frames := 4, cells := 0, slots := 0, locals := 106 }
set_option maxHeartbeats 4000000 in
set_option maxRecDepth 100000 in
theorem t_X5_nearestWithTop (l : Launch) (dC : Nat → ClassId) (dI : Nat → Nat → Nat) (adK : Nat → Nat) (adV : Nat → Nat) (cI : ClassId) (cB : ClassId) (cS : ClassId) (q : Nat → Nat) (qb : Nat → Nat) (n : Nat) (k : Nat) (sz : Nat) (f : Nat → Int32) (t : Nat) (a : Nat → Nat → Int32) (b : Nat → Nat → Int32) (sg : Nat → Nat → Option Nat) (sL : List Nat) (sf : Nat → Nat → Int32)   (p0 : Int32) (Q0 : Int32 → ((Nat → Int32) × (Nat) × (Nat → Nat → Int32) × (Nat → Nat → Int32)) → Prop) (hw : w_X5_nearestWithTop n k q f t a b sg sL sf  p0 Q0) : Met l yX5_nearestWithTop wsX5_nearestWithTop rmX5_nearestWithTop (g_pre (cz adK adV) (dC, dI) vwCl [(cI, .int), (cB, .object RX0), (cS, .object RX7)] ((W_P adK adV cI cB cS q qb n k f t a b sg) ++ va_pl sL (sgF sf)) sz [.ref (q 0), .int p0]) (g_qi (dC, dI) vwCl [(cI, .int), (cB, .object RX0), (cS, .object RX7)] (fun u : ((Nat → Int32) × (Nat) × (Nat → Nat → Int32) × (Nat → Nat → Int32)) => ((W_P adK adV cI cB cS q qb n k (u.1) (u.2.1) (u.2.2.1) (u.2.2.2) sg) ++ va_pl sL (sgF sf))) Q0 (va_A ((W_P adK adV cI cB cS q qb n k f t a b sg) ++ va_pl sL (sgF sf)) sz)) 0 0 (va_A ((W_P adK adV cI cB cS q qb n k f t a b sg) ++ va_pl sL (sgF sf)) sz) := by
  refine g_starti (by decide) rfl (Nat.le_of_ble_eq_true rfl) ?_
  intro p e s m args below meth c A Q ls hx hb hml hown hts hin hK hP hD hA hS hZ hret hl
  obtain ⟨H, eH⟩ : ∃ H : Heap, H = s.heap := ⟨_, rfl⟩
  obtain ⟨locs, eL⟩ : ∃ L : List Loc, L = [] := ⟨_, rfl⟩
  have hS : va_S A s.heap H locs := by rw [eH, eL]; exact hS
  rw [← eH] at hP
  suffices hg : W p l e rmX5_nearestWithTop s m args below meth c H locs 0 0 Q (F0 m 0 ls []) by rw [eH, eL] at hg; exact hg
  clear eH eL
  replace hl : lv_has ls 5 [(0, .ref (q 0)), (1, .int p0)] := hl
  have hf19 := hts (.fieldLink RX5 19 "NumberPile$Pile" "size" "I") (by decide +kernel)
  have hiX5 : ∀ w ∈ u_ws RX5 TX5 15, w ∈ wsX5_nearestWithTop := fun w h => List.mem_cons_of_mem _ (List.mem_append_left _ (List.mem_append_left _ (List.mem_append_right _ h)))
  have hf55 := hts (.fieldLink RX5 55 "NumberPile$Pile" "rows" "LNumberPile$Rows;") (by decide +kernel)
  have hf66 := hts (.fieldLink RX5 66 "NumberPile$Pile" "wish" "[I") (by decide +kernel)
  have nf161 := va_Nw.use (A := args) rfl (hZ.1 _ (List.mem_of_getElem? (i := 30) (rfl : cz_nest[30]? = some (.fieldLinkNest RX5 161 "NumberPile$Rows" "values" "[I" "NumberPile"))))
  have hiX6 : ∀ w ∈ u_ws RX6 TX6 6, w ∈ wsX5_nearestWithTop := fun w h => List.mem_cons_of_mem _ (List.mem_append_left _ (List.mem_append_right _ h))
  have ml169 := hts (.methodLink RX5 169 Lib.Math.min.name) (by decide +kernel)
  have msmin := hts (.static Lib.Math.min.name) (by decide +kernel)
  have miMath := hts (.initialized "java/lang/Math") (by decide +kernel)
  have mcmin := hts (.code Lib.Math.min.name Lib.Math.min.code 2 (some .int)) (by decide +kernel)
  unfold w_X5_nearestWithTop at hw
  refine lv_aload_n hx hb dX5_nearestWithTop_0 rfl (lv_at hl 0 rfl) ?_
  refine va_get (D := (dC, dI)) (ci := 7) (v := .int (nI k)) (C := RX5) (T := TX5) (N := 15) hx hb hts hiX5 hown hK hP 0 rfl rfl 1 (by decide) hf19 (fun _ h9 => h9) rfl dX5_nearestWithTop_1 ?_
  replace hw := hw (fun (av1 : (Nat → Nat → Int32)) (bv2 : (Nat → Nat → Int32)) => ∀ (H : Heap) (locs : List Loc) (ls : Array Slot), va_P (dC, dI) vwCl ((W_P adK adV cI cB cS q qb n k f t av1 bv2 sg) ++ va_pl sL (sgF sf)) H → va_D A ((W_P adK adV cI cB cS q qb n k f t av1 bv2 sg) ++ va_pl sL (sgF sf)) → va_S A s.heap H locs → lv_has ls 5 [(0, .ref (q 0))] → W p l e rmX5_nearestWithTop s m args below meth c H locs 0 0 Q (F0 m 19 ls [])) (by
    intro av1 bv2 hw H locs ls hP hD hS hl
    refine lv_iconst (v := -1) hx hb dX5_nearestWithTop_19 (by decide) ?_
    refine lv_istore_n (lv' := [(2, .int (-1 : Int32)), (0, .ref (q 0))]) hx hb dX5_nearestWithTop_20 rfl hl (by decide) rfl (fun ls hl => ?_)
    refine lv_aload_n hx hb dX5_nearestWithTop_21 rfl (lv_at hl 1 rfl) ?_
    refine va_get (D := (dC, dI)) (ci := 7) (v := .ref (q 15)) (C := RX5) (T := TX5) (N := 15) hx hb hts hiX5 hown hK hP 0 rfl rfl 9 (by decide) hf55 (fun _ h9 => h9) rfl dX5_nearestWithTop_22 ?_
    refine lv_aload_n hx hb dX5_nearestWithTop_25 rfl (lv_at hl 1 rfl) ?_
    refine va_get (D := (dC, dI)) (ci := 7) (v := .ref (q 21)) (C := RX5) (T := TX5) (N := 15) hx hb hts hiX5 hown hK hP 0 rfl rfl 11 (by decide) hf66 (fun _ h9 => h9) rfl dX5_nearestWithTop_26 ?_
    refine g_cv (g_J.poolQ (W2 := fun u4 : StRSP => (W_P adK adV cI cB cS q qb n k (upd f 7 (u4.1)) (q 21) (va_up av1 8 (u4.2)) bv2 sg)) (pl := va_pl sL (sgF sf)) [((q 0), .inr (7, [.int (nI n), .int (nI k), .ref (q 1), .ref (q 2), .ref (q 3), .ref (q 8), .int (f 0), .ref (q 13), .ref (q 14), .ref (q 15), .ref (q 18), .ref (q 21), .int (f 1), .ref (q 17), .int (f 2)])), ((q 1), .inl (cB, (5), .inr (.inr (.inr (.inr (fun i => (kAll i).map qb)))))), ((q 2), .inl (cI, k, .inl (av1 0))), ((q 3), .inr (10, [.ref (q 4), .ref (q 5), .ref (q 6), .ref (q 7), .int (f 3), .int (f 4)])), ((q 4), .inl (cI, (k - n), .inl (bv2 0))), ((q 5), .inl (cI, n, .inl (av1 1))), ((q 6), .inl (cI, k, .inl (av1 2))), ((q 7), .inl (cS, (6), .inr (.inr (.inr (.inr (sg 0)))))), ((q 8), .inr (10, [.ref (q 9), .ref (q 10), .ref (q 11), .ref (q 12), .int (f 5), .int (f 6)])), ((q 9), .inl (cI, (k - n), .inl (bv2 1))), ((q 10), .inl (cI, n, .inl (av1 3))), ((q 11), .inl (cI, k, .inl (av1 4))), ((q 12), .inl (cS, (6), .inr (.inr (.inr (.inr (sg 1)))))), ((q 13), .inl (cI, k, .inl (av1 5))), ((q 14), .inl (cI, k, .inl (av1 6))), ((q 17), .inl (cI, (10 * n), .inl (av1 7))), ((q 18), .inr (14, [.ref (q 19), .ref (q 20)])), ((q 19), .inl (cI, (k + 1), .inl (bv2 2))), ((q 20), .inl (cI, (toL n), .inl (bv2 3))), ((qb 0), .inr (2, [])), ((qb 1), .inr (3, [])), ((qb 2), .inr (5, [])), ((qb 3), .inr (11, [])), ((qb 4), .inr (4, []))] [15, 16, 21] [0, 1, 2, 3, 4, 5, 6, 7, 8, 9, 10, 11, 12, 13, 14, 17, 18, 19, 20, 22, 23, 24, 25, 26] [0, 1, 2, 3, 4, 5, 6, 7, 8, 9, 10, 11, 12, 13, 14, 24, 25, 15, 16, 17, 18, 26, 19, 20, 21, 22, 23] rfl (by decide) rfl (by decide) (by decide) (fun _ => rfl) (by decide)) [0] hK hP hD hS hA rfl (fun hPc hDc hKc hFc => va_runV (As := [.ref (q 21)]) (rest := []) ⟨hx, hb, hml, hown, hts⟩ (t_X6_start l dC dI cI (q 15) (q 1) (q 4) (q 16) (q 21) n k (bv2 4) H.size t (f 7) (av1 8)   _ hw) (cwV 1 hts gX5_nearestWithTop_X6_start rfl rfl rfl (by decide +kernel) ⟨Nat.le_of_ble_eq_true rfl, Nat.le_of_ble_eq_true rfl⟩) (g_pV g_Tb (q0 := 0) rfl rfl hPc hDc hKc (fun _ _ _ => trivial)) rfl rfl hl.1 rfl (lv_room (Nat.le_of_ble_eq_true rfl)) dX5_nearestWithTop_29 ⟨Nat.le_of_ble_eq_true rfl, Nat.le_of_ble_eq_true rfl⟩) (fun u4 H locs hw hP hD hS => ?_)
    replace hP : va_P (dC, dI) vwCl ((W_P adK adV cI cB cS q qb n k (upd f 7 (u4.1)) (q 21) (va_up av1 8 (u4.2)) bv2 sg) ++ va_pl sL (sgF sf)) H := hP
    replace hD : va_D A ((W_P adK adV cI cB cS q qb n k (upd f 7 (u4.1)) (q 21) (va_up av1 8 (u4.2)) bv2 sg) ++ va_pl sL (sgF sf)) := hD
    refine lv_iconst (v := 0) hx hb dX5_nearestWithTop_32 (by decide) ?_
    refine lv_istore_n (lv' := [(3, .int (0 : Int32)), (2, .int (-1 : Int32)), (0, .ref (q 0))]) hx hb dX5_nearestWithTop_33 rfl hl (by decide) rfl (fun ls hl => ?_)
    refine hw (fun (x5 : Int32) (x6 : Int32) (fv7 : (Nat → Int32)) (av8 : (Nat → Nat → Int32)) => ∀ (H : Heap) (locs : List Loc) (ls : Array Slot), va_P (dC, dI) vwCl ((W_P adK adV cI cB cS q qb n k fv7 (q 21) av8 bv2 sg) ++ va_pl sL (sgF sf)) H → va_D A ((W_P adK adV cI cB cS q qb n k fv7 (q 21) av8 bv2 sg) ++ va_pl sL (sgF sf)) → va_S A s.heap H locs → lv_has ls 5 [(0, .ref (q 0)), (2, .int x5), (3, .int x6)] → W p l e rmX5_nearestWithTop s m args below meth c H locs 0 0 Q (F0 m 34 ls [])) ?_ H locs ls hP hD hS (lv_sub hl [2, 1, 0] rfl)
    · intro x5 x6 fv7 av8 hw H locs ls hP hD hS hl
      refine lv_iload_n hx hb dX5_nearestWithTop_34 rfl (lv_at hl 2 rfl) ?_
      refine lv_sipush (v := 10000) hx hb dX5_nearestWithTop_35 (by decide) ?_
      refine lv_icmp_ge (tgt := 99) hx hb dX5_nearestWithTop_38 (by decide) (fun hc10 => ?_) (fun hc10 => ?_)
      · replace hw := hw.1 hc10
        refine lv_iload_n hx hb dX5_nearestWithTop_99 rfl (lv_at hl 1 rfl) ?_
        exact hret dX5_nearestWithTop_100 hK hP hD hS hw
      · replace hw := hw.2 hc10
        refine lv_aload_n hx hb dX5_nearestWithTop_41 rfl (lv_at hl 0 rfl) ?_
        refine va_get (D := (dC, dI)) (ci := 7) (v := .ref (q 15)) (C := RX5) (T := TX5) (N := 15) hx hb hts hiX5 hown hK hP 0 rfl rfl 9 (by decide) hf55 (fun _ h9 => h9) rfl dX5_nearestWithTop_42 ?_
        refine g_ci (g_J.poolQ (W2 := fun u11 : ((Int32) × (Nat → Int32)) => (W_P adK adV cI cB cS q qb n k (upd fv7 7 (u11.1)) (q 21) (va_up av8 8 (u11.2)) bv2 sg)) (pl := va_pl sL (sgF sf)) [((q 0), .inr (7, [.int (nI n), .int (nI k), .ref (q 1), .ref (q 2), .ref (q 3), .ref (q 8), .int (fv7 0), .ref (q 13), .ref (q 14), .ref (q 15), .ref (q 18), .ref (q 21), .int (fv7 1), .ref (q 17), .int (fv7 2)])), ((q 2), .inl (cI, k, .inl (av8 0))), ((q 3), .inr (10, [.ref (q 4), .ref (q 5), .ref (q 6), .ref (q 7), .int (fv7 3), .int (fv7 4)])), ((q 5), .inl (cI, n, .inl (av8 1))), ((q 6), .inl (cI, k, .inl (av8 2))), ((q 7), .inl (cS, (6), .inr (.inr (.inr (.inr (sg 0)))))), ((q 8), .inr (10, [.ref (q 9), .ref (q 10), .ref (q 11), .ref (q 12), .int (fv7 5), .int (fv7 6)])), ((q 9), .inl (cI, (k - n), .inl (bv2 1))), ((q 10), .inl (cI, n, .inl (av8 3))), ((q 11), .inl (cI, k, .inl (av8 4))), ((q 12), .inl (cS, (6), .inr (.inr (.inr (.inr (sg 1)))))), ((q 13), .inl (cI, k, .inl (av8 5))), ((q 14), .inl (cI, k, .inl (av8 6))), ((q 17), .inl (cI, (10 * n), .inl (av8 7))), ((q 18), .inr (14, [.ref (q 19), .ref (q 20)])), ((q 19), .inl (cI, (k + 1), .inl (bv2 2))), ((q 20), .inl (cI, (toL n), .inl (bv2 3)))] [15, 16, 21, 4, 1, 22, 23, 24, 25, 26] [0, 2, 3, 5, 6, 7, 8, 9, 10, 11, 12, 13, 14, 17, 18, 19, 20] [0, 21, 1, 2, 20, 3, 4, 5, 6, 7, 8, 9, 10, 11, 12, 17, 18, 13, 14, 15, 16, 19, 22, 23, 24, 25, 26] rfl (by decide) rfl (by decide) (by decide) (fun _ => rfl) (by decide)) [0, 1] hK hP hD hS hA rfl (fun hPc hDc hKc hFc => va_runV (As := []) (rest := []) ⟨hx, hb, hml, hown, hts⟩ (t_X6_next l dC dI adK adV cI cB (q 15) (q 1) (q 4) (q 16) (q 21) qb n k (k - n) (bv2 0) (bv2 4) H.size (fv7 7) (av8 8)   _ hw) (cwV 0 hts gX5_nearestWithTop_X6_next rfl rfl rfl (by decide +kernel) ⟨Nat.le_of_ble_eq_true rfl, Nat.le_of_ble_eq_true rfl⟩) (g_pV czb (q0 := 0) rfl rfl hPc hDc hKc (czc hZ hS hFc)) rfl rfl hl.1 rfl (lv_room (Nat.le_of_ble_eq_true rfl)) dX5_nearestWithTop_45 ⟨Nat.le_of_ble_eq_true rfl, Nat.le_of_ble_eq_true rfl⟩) (fun r12 u11 H locs hw hP hD hS => ?_)
        replace hP : va_P (dC, dI) vwCl ((W_P adK adV cI cB cS q qb n k (upd fv7 7 (u11.1)) (q 21) (va_up av8 8 (u11.2)) bv2 sg) ++ va_pl sL (sgF sf)) H := hP
        replace hD : va_D A ((W_P adK adV cI cB cS q qb n k (upd fv7 7 (u11.1)) (q 21) (va_up av8 8 (u11.2)) bv2 sg) ++ va_pl sL (sgF sf)) := hD
        refine lv_if_eq (tgt := 99) hx hb dX5_nearestWithTop_48 (by decide) (fun hc13 => ?_) (fun hc13 => ?_)
        · replace hw := hw.1 hc13
          refine lv_iload_n hx hb dX5_nearestWithTop_99 rfl (lv_at hl 1 rfl) ?_
          exact hret dX5_nearestWithTop_100 hK hP hD hS hw
        · replace hw := hw.2 hc13
          refine lv_aload_n hx hb dX5_nearestWithTop_51 rfl (lv_at hl 0 rfl) ?_
          refine lv_aload_n hx hb dX5_nearestWithTop_52 rfl (lv_at hl 0 rfl) ?_
          refine va_get (D := (dC, dI)) (ci := 7) (v := .ref (q 15)) (C := RX5) (T := TX5) (N := 15) hx hb hts hiX5 hown hK hP 0 rfl rfl 9 (by decide) hf55 (fun _ h9 => h9) rfl dX5_nearestWithTop_53 ?_
          refine va_getN (D := (dC, dI)) (ci := 8) (v := .ref (q 16)) (C := RX6) (T := TX6) (N := 6) hx hb hts hiX6 hown hK hP 15 rfl rfl 3 (by decide) nf161 (fun _ h9 => h9) rfl dX5_nearestWithTop_56 ?_
          refine g_ci (g_J.poolP (W2 := fun u14 : Unit => (W_P adK adV cI cB cS q qb n k (upd fv7 7 (u11.1)) (q 21) (va_up av8 8 (u11.2)) bv2 sg)) (pl := va_pl sL (sgF sf)) (PL := fun u14 : Unit => va_pl sL (sgF sf)) (RX := fun u14 : Unit => (W_P adK adV cI cB cS q qb n k (upd fv7 7 (u11.1)) (q 21) (va_up av8 8 (u11.2)) bv2 sg)) [] [0, 1, 2, 3, 4, 5, 6, 7, 8, 9, 10, 11, 12, 13, 14, 15, 16, 17, 18, 19, 20, 21, 22, 23, 24, 25, 26] [] [0, 1, 2, 3, 4, 5, 6, 7, 8, 9, 10, 11, 12, 13, 14, 15, 16, 17, 18, 19, 20, 21, 22, 23, 24, 25, 26] rfl (by decide) rfl (by decide) (by decide) (fun _ => rfl) (by decide)) [0, 1, 2] hK hP hD hS hA rfl (fun hPc hDc hKc hFc => va_runV (As := [.ref (q 16)]) (rest := []) ⟨hx, hb, hml, hown, hts⟩ (t_X5_changesTo_r l dC dI adK adV cI cB cS q qb n k H.size (upd fv7 7 (u11.1)) (q 21) (va_up av8 8 (u11.2)) bv2 sg sL sf  _ hw) (cwV 1 hts gX5_nearestWithTop_X5_changesTo rfl rfl rfl (by decide +kernel) ⟨Nat.le_of_ble_eq_true rfl, Nat.le_of_ble_eq_true rfl⟩) (g_pV czb (q0 := 0) rfl rfl hPc hDc hKc (czc hZ hS hFc)) rfl rfl hl.1 rfl (lv_room (Nat.le_of_ble_eq_true rfl)) dX5_nearestWithTop_59 ⟨Nat.le_of_ble_eq_true rfl, Nat.le_of_ble_eq_true rfl⟩) (fun r15 u14 H locs hw hP hD hS => ?_)
          replace hP : va_P (dC, dI) vwCl ((W_P adK adV cI cB cS q qb n k (upd fv7 7 (u11.1)) (q 21) (va_up av8 8 (u11.2)) bv2 sg) ++ va_pl sL (sgF sf)) H := hP
          replace hD : va_D A ((W_P adK adV cI cB cS q qb n k (upd fv7 7 (u11.1)) (q 21) (va_up av8 8 (u11.2)) bv2 sg) ++ va_pl sL (sgF sf)) := hD
          refine lv_sipush (v := 10000) hx hb dX5_nearestWithTop_62 (by decide) ?_
          refine lv_imul hx hb dX5_nearestWithTop_65 ?_
          refine lv_aload_n hx hb dX5_nearestWithTop_66 rfl (lv_at hl 0 rfl) ?_
          refine va_get (D := (dC, dI)) (ci := 7) (v := .ref (q 15)) (C := RX5) (T := TX5) (N := 15) hx hb hts hiX5 hown hK hP 0 rfl rfl 9 (by decide) hf55 (fun _ h9 => h9) rfl dX5_nearestWithTop_67 ?_
          refine g_ci (g_J.poolQ (W2 := fun u16 : Unit => (W_P adK adV cI cB cS q qb n k (upd fv7 7 (u11.1)) (q 21) (va_up av8 8 (u11.2)) bv2 sg)) (pl := va_pl sL (sgF sf)) [((q 0), .inr (7, [.int (nI n), .int (nI k), .ref (q 1), .ref (q 2), .ref (q 3), .ref (q 8), .int (fv7 0), .ref (q 13), .ref (q 14), .ref (q 15), .ref (q 18), .ref (q 21), .int (fv7 1), .ref (q 17), .int (fv7 2)])), ((q 2), .inl (cI, k, .inl (av8 0))), ((q 3), .inr (10, [.ref (q 4), .ref (q 5), .ref (q 6), .ref (q 7), .int (fv7 3), .int (fv7 4)])), ((q 5), .inl (cI, n, .inl (av8 1))), ((q 6), .inl (cI, k, .inl (av8 2))), ((q 7), .inl (cS, (6), .inr (.inr (.inr (.inr (sg 0)))))), ((q 8), .inr (10, [.ref (q 9), .ref (q 10), .ref (q 11), .ref (q 12), .int (fv7 5), .int (fv7 6)])), ((q 9), .inl (cI, (k - n), .inl (bv2 1))), ((q 10), .inl (cI, n, .inl (av8 3))), ((q 11), .inl (cI, k, .inl (av8 4))), ((q 12), .inl (cS, (6), .inr (.inr (.inr (.inr (sg 1)))))), ((q 13), .inl (cI, k, .inl (av8 5))), ((q 14), .inl (cI, k, .inl (av8 6))), ((q 17), .inl (cI, (10 * n), .inl (av8 7))), ((q 18), .inr (14, [.ref (q 19), .ref (q 20)])), ((q 19), .inl (cI, (k + 1), .inl (bv2 2))), ((q 20), .inl (cI, (toL n), .inl (bv2 3)))] [15, 16, 21, 4, 1, 22, 23, 24, 25, 26] [0, 2, 3, 5, 6, 7, 8, 9, 10, 11, 12, 13, 14, 17, 18, 19, 20] [0, 21, 1, 2, 20, 3, 4, 5, 6, 7, 8, 9, 10, 11, 12, 17, 18, 13, 14, 15, 16, 19, 22, 23, 24, 25, 26] rfl (by decide) rfl (by decide) (by decide) (fun _ => rfl) (by decide)) [0, 1] hK hP hD hS hA rfl (fun hPc hDc hKc hFc => va_runV (As := []) (rest := [.int (r15 * (10000 : Int32))]) ⟨hx, hb, hml, hown, hts⟩ (t_X6_number l dC dI adK adV cI cB (q 15) (q 1) (q 4) (q 16) (q 21) qb n k (k - n) (bv2 0) (bv2 4) H.size (u11.1) (u11.2)   _ hw) (cwV 0 hts gX5_nearestWithTop_X6_number rfl rfl rfl (by decide +kernel) ⟨Nat.le_of_ble_eq_true rfl, Nat.le_of_ble_eq_true rfl⟩) (g_pV czb (q0 := 0) rfl rfl hPc hDc hKc (czc hZ hS hFc)) rfl rfl hl.1 rfl (lv_room (Nat.le_of_ble_eq_true rfl)) dX5_nearestWithTop_70 ⟨Nat.le_of_ble_eq_true rfl, Nat.le_of_ble_eq_true rfl⟩) (fun r17 u16 H locs hw hP hD hS => ?_)
          replace hP : va_P (dC, dI) vwCl ((W_P adK adV cI cB cS q qb n k (upd fv7 7 (u11.1)) (q 21) (va_up av8 8 (u11.2)) bv2 sg) ++ va_pl sL (sgF sf)) H := hP
          replace hD : va_D A ((W_P adK adV cI cB cS q qb n k (upd fv7 7 (u11.1)) (q 21) (va_up av8 8 (u11.2)) bv2 sg) ++ va_pl sL (sgF sf)) := hD
          refine lv_iadd hx hb dX5_nearestWithTop_73 ?_
          refine lv_topi (fun x18 ex18 => ?_)
          replace hw := hw x18 ex18
          refine lv_istore (lv' := [(4, .int x18), (0, .ref (q 0)), (2, .int x5), (3, .int x6)]) hx hb dX5_nearestWithTop_74 hl (by decide) rfl (fun ls hl => ?_)
          refine lv_iload_n hx hb dX5_nearestWithTop_76 rfl (lv_at hl 2 rfl) ?_
          refine lv_iconst (v := -1) hx hb dX5_nearestWithTop_77 (by decide) ?_
          replace hw := hw (fun (x19 : Int32) => ∀ (H : Heap) (locs : List Loc) (ls : Array Slot), va_P (dC, dI) vwCl ((W_P adK adV cI cB cS q qb n k (upd fv7 7 (u11.1)) (q 21) (va_up av8 8 (u11.2)) bv2 sg) ++ va_pl sL (sgF sf)) H → va_D A ((W_P adK adV cI cB cS q qb n k (upd fv7 7 (u11.1)) (q 21) (va_up av8 8 (u11.2)) bv2 sg) ++ va_pl sL (sgF sf)) → va_S A s.heap H locs → lv_has ls 5 [(0, .ref (q 0)), (3, .int x6)] → W p l e rmX5_nearestWithTop s m args below meth c H locs 0 0 Q (F0 m 92 ls [.int x19])) (by
            intro x19 hw H locs ls hP hD hS hl
            refine lv_istore_n (lv' := [(2, .int x19), (0, .ref (q 0)), (3, .int x6)]) hx hb dX5_nearestWithTop_92 rfl hl (by decide) rfl (fun ls hl => ?_)
            obtain ⟨x21, ex21⟩ : ∃ y : Int32, y = x6 + (1 : Int32) := ⟨_, rfl⟩
            replace hw := hw x21 ex21
            refine lv_iinc (v := x21) (lv' := [(3, .int x21), (2, .int x19), (0, .ref (q 0))]) hx hb dX5_nearestWithTop_93 hl (k := 2) rfl (by rw [ex21]; rfl) (by decide) rfl (fun ls hl => ?_)
            refine lv_goto (tgt := 34) hx hb dX5_nearestWithTop_96 (by decide) ?_
            exact hw H locs ls hP hD hS (lv_sub hl [2, 1, 0] rfl))
          refine lv_icmp_ne (tgt := 86) hx hb dX5_nearestWithTop_78 (by decide) (fun hc22 => ?_) (fun hc22 => ?_)
          · replace hw := hw.1 hc22
            refine lv_iload_n hx hb dX5_nearestWithTop_86 rfl (lv_at hl 2 rfl) ?_
            refine lv_iload hx hb dX5_nearestWithTop_87 (lv_at hl 0 rfl) ?_
            refine va_mmin hx hb (hml.trans hl.1.symm) hown ml169 msmin miMath mcmin (Nat.le_of_ble_eq_true rfl) (Nat.le_of_ble_eq_true rfl) (Nat.le_of_ble_eq_true rfl) (Nat.le_of_ble_eq_true rfl) dX5_nearestWithTop_89 ?_
            exact hw H locs ls hP hD hS (lv_sub hl [1, 3] rfl)
          · replace hw := hw.2 hc22
            refine lv_iload hx hb dX5_nearestWithTop_81 (lv_at hl 0 rfl) ?_
            refine lv_goto (tgt := 92) hx hb dX5_nearestWithTop_83 (by decide) ?_
            exact hw H locs ls hP hD hS (lv_sub hl [1, 3] rfl))
  refine lv_if_le (tgt := 19) hx hb dX5_nearestWithTop_4 (by decide) (fun hc23 => ?_) (fun hc23 => ?_)
  · replace hw := hw.1 hc23
    exact hw H locs ls hP hD hS (lv_sub hl [0] rfl)
  · replace hw := hw.2 hc23
    refine lv_aload_n hx hb dX5_nearestWithTop_7 rfl (lv_at hl 0 rfl) ?_
    refine va_get (D := (dC, dI)) (ci := 7) (v := .ref (q 21)) (C := RX5) (T := TX5) (N := 15) hx hb hts hiX5 hown hK hP 0 rfl rfl 11 (by decide) hf66 (fun _ h9 => h9) rfl dX5_nearestWithTop_8 ?_
    refine lv_aload_n hx hb dX5_nearestWithTop_11 rfl (lv_at hl 0 rfl) ?_
    refine va_get (D := (dC, dI)) (ci := 7) (v := .int (nI k)) (C := RX5) (T := TX5) (N := 15) hx hb hts hiX5 hown hK hP 0 rfl rfl 1 (by decide) hf19 (fun _ h9 => h9) rfl dX5_nearestWithTop_12 ?_
    refine lv_iconst (v := 1) hx hb dX5_nearestWithTop_15 (by decide) ?_
    refine lv_isub hx hb dX5_nearestWithTop_16 ?_
    refine lv_iload_n hx hb dX5_nearestWithTop_17 rfl (lv_at hl 1 rfl) ?_
    obtain ⟨hb24, hw⟩ := hw
    refine va_iast hx hb hK hP hD hS 21 0 rfl rfl hb24 dX5_nearestWithTop_18 (fun H locs hP hD hS => ?_)
    replace hP : va_P (dC, dI) vwCl ((W_P adK adV cI cB cS q qb n k f t a (va_up b 4 (upd (b 4) ((nI k) - (1 : Int32)).toNatClampNeg p0)) sg) ++ va_pl sL (sgF sf)) H := hP
    replace hD : va_D A ((W_P adK adV cI cB cS q qb n k f t a (va_up b 4 (upd (b 4) ((nI k) - (1 : Int32)).toNatClampNeg p0)) sg) ++ va_pl sL (sgF sf)) := hD
    exact hw H locs ls hP hD hS (lv_sub hl [0] rfl)

def w_X5_tallyFitting (n : Nat) (k : Nat) (q : Nat → Nat) (f : Nat → Int32) (t : Nat) (a : Nat → Nat → Int32) (b : Nat → Nat → Int32) (sg : Nat → Nat → Option Nat) (sL : List Nat) (sf : Nat → Nat → Int32)   (Q : ((Nat → Int32) × (Nat) × (Nat → Nat → Int32) × (Nat → Nat → Int32)) → Prop) : Prop := w_X12_clear k (toL n) (b 2) (b 3)   (fun (u1 : ((Nat → Int32))) => w_X6_start k n t (f 7) (a 8)   (fun (u2 : StRSP) => (∀ X7 : Int32 → (Nat → Int32) → (Nat → Nat → Int32) → (Nat → Nat → Int32) → Prop, (∀ (x3 : Int32) (fv4 : (Nat → Int32)) (av5 : (Nat → Nat → Int32)) (bv6 : (Nat → Nat → Int32)), (((((10000 : Int32) ≤ x3) → Q (fv4, (q 6), av5, bv6)) ∧ (¬ ((10000 : Int32) ≤ x3) → w_X6_next n k (k - n) (bv6 0) (av5 2) (fv4 7) (av5 8)   (fun (r10 : Int32) (u9 : ((Int32) × (Nat → Int32))) => (((r10 = 0) → Q ((upd fv4 7 (u9.1)), (q 6), (va_up av5 8 (u9.2)), bv6)) ∧ (¬ (r10 = 0) → w_X12_add k (toL n) (bv6 2) k (u9.2) (bv6 3)   (fun (u12 : ((Nat → Int32))) => ∀ x13 : Int32, x13 = x3 + (1 : Int32) → X7 x13 (upd fv4 7 (u9.1)) (va_up av5 8 (u9.2)) (va_up bv6 3 u12)))))))) → X7 x3 fv4 av5 bv6) → X7 (0 : Int32) (upd f 7 (u2.1)) (va_up a 8 (u2.2)) (va_up b 3 u1))))
abbrev rmX5_tallyFitting : Room := { frames := 4, cells := 0, slots := 0, locals := 106 }
set_option maxHeartbeats 4000000 in
set_option maxRecDepth 100000 in
theorem t_X5_tallyFitting (l : Launch) (dC : Nat → ClassId) (dI : Nat → Nat → Nat) (adK : Nat → Nat) (adV : Nat → Nat) (cI : ClassId) (cB : ClassId) (cS : ClassId) (q : Nat → Nat) (qb : Nat → Nat) (n : Nat) (k : Nat) (sz : Nat) (f : Nat → Int32) (t : Nat) (a : Nat → Nat → Int32) (b : Nat → Nat → Int32) (sg : Nat → Nat → Option Nat) (sL : List Nat) (sf : Nat → Nat → Int32)    (Q0 : ((Nat → Int32) × (Nat) × (Nat → Nat → Int32) × (Nat → Nat → Int32)) → Prop) (hw : w_X5_tallyFitting n k q f t a b sg sL sf   Q0) : Met l yX5_tallyFitting wsX5_tallyFitting rmX5_tallyFitting (g_pre (cz adK adV) (dC, dI) vwCl [(cI, .int), (cB, .object RX0), (cS, .object RX7)] ((W_P adK adV cI cB cS q qb n k f t a b sg) ++ va_pl sL (sgF sf)) sz [.ref (q 0)]) (g_qv (dC, dI) vwCl [(cI, .int), (cB, .object RX0), (cS, .object RX7)] (fun u : ((Nat → Int32) × (Nat) × (Nat → Nat → Int32) × (Nat → Nat → Int32)) => ((W_P adK adV cI cB cS q qb n k (u.1) (u.2.1) (u.2.2.1) (u.2.2.2) sg) ++ va_pl sL (sgF sf))) Q0 (va_A ((W_P adK adV cI cB cS q qb n k f t a b sg) ++ va_pl sL (sgF sf)) sz)) 0 0 (va_A ((W_P adK adV cI cB cS q qb n k f t a b sg) ++ va_pl sL (sgF sf)) sz) := by
  refine g_startv (by decide) rfl (Nat.le_of_ble_eq_true rfl) ?_
  intro p e s m args below meth c A Q ls hx hb hml hown hts hin hK hP hD hA hS hZ hret hl
  obtain ⟨H, eH⟩ : ∃ H : Heap, H = s.heap := ⟨_, rfl⟩
  obtain ⟨locs, eL⟩ : ∃ L : List Loc, L = [] := ⟨_, rfl⟩
  have hS : va_S A s.heap H locs := by rw [eH, eL]; exact hS
  rw [← eH] at hP
  suffices hg : W p l e rmX5_tallyFitting s m args below meth c H locs 0 0 Q (F0 m 0 ls []) by rw [eH, eL] at hg; exact hg
  clear eH eL
  replace hl : lv_has ls 2 [(0, .ref (q 0))] := hl
  have hf62 := hts (.fieldLink RX5 62 "NumberPile$Pile" "tally" "LNumberPile$Tally;") (by decide +kernel)
  have hiX5 : ∀ w ∈ u_ws RX5 TX5 15, w ∈ wsX5_tallyFitting := fun w h => List.mem_cons_of_mem _ (List.mem_append_left _ (List.mem_append_left _ (List.mem_append_left _ (List.mem_append_right _ h))))
  have hf55 := hts (.fieldLink RX5 55 "NumberPile$Pile" "rows" "LNumberPile$Rows;") (by decide +kernel)
  have hf31 := hts (.fieldLink RX5 31 "NumberPile$Pile" "now" "LNumberPile$State;") (by decide +kernel)
  have nf118 := va_Nw.use (A := args) rfl (hZ.1 _ (List.mem_of_getElem? (i := 27) (rfl : cz_nest[27]? = some (.fieldLinkNest RX5 118 "NumberPile$State" "told" "[I" "NumberPile"))))
  have hiX8 : ∀ w ∈ u_ws RX8 TX8 6, w ∈ wsX5_tallyFitting := fun w h => List.mem_cons_of_mem _ (List.mem_append_left _ (List.mem_append_left _ (List.mem_append_right _ h)))
  have nf161 := va_Nw.use (A := args) rfl (hZ.1 _ (List.mem_of_getElem? (i := 30) (rfl : cz_nest[30]? = some (.fieldLinkNest RX5 161 "NumberPile$Rows" "values" "[I" "NumberPile"))))
  have hiX6 : ∀ w ∈ u_ws RX6 TX6 6, w ∈ wsX5_tallyFitting := fun w h => List.mem_cons_of_mem _ (List.mem_append_left _ (List.mem_append_right _ h))
  unfold w_X5_tallyFitting at hw
  refine lv_aload_n hx hb dX5_tallyFitting_0 rfl (lv_at hl 0 rfl) ?_
  refine va_get (D := (dC, dI)) (ci := 7) (v := .ref (q 18)) (C := RX5) (T := TX5) (N := 15) hx hb hts hiX5 hown hK hP 0 rfl rfl 10 (by decide) hf62 (fun _ h9 => h9) rfl dX5_tallyFitting_1 ?_
  refine g_cv (g_J.poolQ (W2 := fun u1 : ((Nat → Int32)) => (W_P adK adV cI cB cS q qb n k f t a (va_up b 3 u1) sg)) (pl := va_pl sL (sgF sf)) [((q 0), .inr (7, [.int (nI n), .int (nI k), .ref (q 1), .ref (q 2), .ref (q 3), .ref (q 8), .int (f 0), .ref (q 13), .ref (q 14), .ref (q 15), .ref (q 18), .ref (q 21), .int (f 1), .ref (q 17), .int (f 2)])), ((q 1), .inl (cB, (5), .inr (.inr (.inr (.inr (fun i => (kAll i).map qb)))))), ((q 2), .inl (cI, k, .inl (a 0))), ((q 3), .inr (10, [.ref (q 4), .ref (q 5), .ref (q 6), .ref (q 7), .int (f 3), .int (f 4)])), ((q 4), .inl (cI, (k - n), .inl (b 0))), ((q 5), .inl (cI, n, .inl (a 1))), ((q 6), .inl (cI, k, .inl (a 2))), ((q 7), .inl (cS, (6), .inr (.inr (.inr (.inr (sg 0)))))), ((q 8), .inr (10, [.ref (q 9), .ref (q 10), .ref (q 11), .ref (q 12), .int (f 5), .int (f 6)])), ((q 9), .inl (cI, (k - n), .inl (b 1))), ((q 10), .inl (cI, n, .inl (a 3))), ((q 11), .inl (cI, k, .inl (a 4))), ((q 12), .inl (cS, (6), .inr (.inr (.inr (.inr (sg 1)))))), ((q 13), .inl (cI, k, .inl (a 5))), ((q 14), .inl (cI, k, .inl (a 6))), ((q 15), .inr (8, [.int (nI n), .ref (q 1), .ref (q 4), .ref (q 16), .ref t, .int (f 7)])), ((q 16), .inl (cI, k, .inl (a 8))), ((q 17), .inl (cI, (10 * n), .inl (a 7))), ((q 21), .inl (cI, k, .inl (b 4))), ((qb 0), .inr (2, [])), ((qb 1), .inr (3, [])), ((qb 2), .inr (5, [])), ((qb 3), .inr (11, [])), ((qb 4), .inr (4, []))] [18, 19, 20] [0, 1, 2, 3, 4, 5, 6, 7, 8, 9, 10, 11, 12, 13, 14, 15, 16, 17, 21, 22, 23, 24, 25, 26] [0, 1, 2, 3, 4, 5, 6, 7, 8, 9, 10, 11, 12, 13, 14, 15, 16, 17, 24, 25, 26, 18, 19, 20, 21, 22, 23] rfl (by decide) rfl (by decide) (by decide) (fun _ => rfl) (by decide)) [0] hK hP hD hS hA rfl (fun hPc hDc hKc hFc => va_runV (As := []) (rest := []) ⟨hx, hb, hml, hown, hts⟩ (t_X12_clear l dC dI adK adV cI (q 18) (q 19) (q 20) k (toL n) (b 2) H.size (b 3)   _ hw) (cwV 0 hts gX5_tallyFitting_X12_clear rfl rfl rfl (by decide +kernel) ⟨Nat.le_of_ble_eq_true rfl, Nat.le_of_ble_eq_true rfl⟩) (g_pV czb (q0 := 0) rfl rfl hPc hDc hKc (czc hZ hS hFc)) rfl rfl hl.1 rfl (lv_room (Nat.le_of_ble_eq_true rfl)) dX5_tallyFitting_4 ⟨Nat.le_of_ble_eq_true rfl, Nat.le_of_ble_eq_true rfl⟩) (fun u1 H locs hw hP hD hS => ?_)
  replace hP : va_P (dC, dI) vwCl ((W_P adK adV cI cB cS q qb n k f t a (va_up b 3 u1) sg) ++ va_pl sL (sgF sf)) H := hP
  replace hD : va_D A ((W_P adK adV cI cB cS q qb n k f t a (va_up b 3 u1) sg) ++ va_pl sL (sgF sf)) := hD
  refine lv_aload_n hx hb dX5_tallyFitting_7 rfl (lv_at hl 0 rfl) ?_
  refine va_get (D := (dC, dI)) (ci := 7) (v := .ref (q 15)) (C := RX5) (T := TX5) (N := 15) hx hb hts hiX5 hown hK hP 0 rfl rfl 9 (by decide) hf55 (fun _ h9 => h9) rfl dX5_tallyFitting_8 ?_
  refine lv_aload_n hx hb dX5_tallyFitting_11 rfl (lv_at hl 0 rfl) ?_
  refine va_get (D := (dC, dI)) (ci := 7) (v := .ref (q 3)) (C := RX5) (T := TX5) (N := 15) hx hb hts hiX5 hown hK hP 0 rfl rfl 4 (by decide) hf31 (fun _ h9 => h9) rfl dX5_tallyFitting_12 ?_
  refine va_getN (D := (dC, dI)) (ci := 10) (v := .ref (q 6)) (C := RX8) (T := TX8) (N := 6) hx hb hts hiX8 hown hK hP 3 rfl rfl 2 (by decide) nf118 (fun _ h9 => h9) rfl dX5_tallyFitting_15 ?_
  refine g_cv (g_J.poolQ (W2 := fun u2 : StRSP => (W_P adK adV cI cB cS q qb n k (upd f 7 (u2.1)) (q 6) (va_up a 8 (u2.2)) (va_up b 3 u1) sg)) (pl := va_pl sL (sgF sf)) [((q 0), .inr (7, [.int (nI n), .int (nI k), .ref (q 1), .ref (q 2), .ref (q 3), .ref (q 8), .int (f 0), .ref (q 13), .ref (q 14), .ref (q 15), .ref (q 18), .ref (q 21), .int (f 1), .ref (q 17), .int (f 2)])), ((q 1), .inl (cB, (5), .inr (.inr (.inr (.inr (fun i => (kAll i).map qb)))))), ((q 2), .inl (cI, k, .inl (a 0))), ((q 3), .inr (10, [.ref (q 4), .ref (q 5), .ref (q 6), .ref (q 7), .int (f 3), .int (f 4)])), ((q 4), .inl (cI, (k - n), .inl (b 0))), ((q 5), .inl (cI, n, .inl (a 1))), ((q 7), .inl (cS, (6), .inr (.inr (.inr (.inr (sg 0)))))), ((q 8), .inr (10, [.ref (q 9), .ref (q 10), .ref (q 11), .ref (q 12), .int (f 5), .int (f 6)])), ((q 9), .inl (cI, (k - n), .inl (b 1))), ((q 10), .inl (cI, n, .inl (a 3))), ((q 11), .inl (cI, k, .inl (a 4))), ((q 12), .inl (cS, (6), .inr (.inr (.inr (.inr (sg 1)))))), ((q 13), .inl (cI, k, .inl (a 5))), ((q 14), .inl (cI, k, .inl (a 6))), ((q 17), .inl (cI, (10 * n), .inl (a 7))), ((q 18), .inr (14, [.ref (q 19), .ref (q 20)])), ((q 19), .inl (cI, (k + 1), .inl (b 2))), ((q 20), .inl (cI, (toL n), .inl u1)), ((q 21), .inl (cI, k, .inl (b 4))), ((qb 0), .inr (2, [])), ((qb 1), .inr (3, [])), ((qb 2), .inr (5, [])), ((qb 3), .inr (11, [])), ((qb 4), .inr (4, []))] [15, 16, 6] [0, 1, 2, 3, 4, 5, 7, 8, 9, 10, 11, 12, 13, 14, 17, 18, 19, 20, 21, 22, 23, 24, 25, 26] [0, 1, 2, 3, 4, 5, 26, 6, 7, 8, 9, 10, 11, 12, 13, 24, 25, 14, 15, 16, 17, 18, 19, 20, 21, 22, 23] rfl (by decide) rfl (by decide) (by decide) (fun _ => rfl) (by decide)) [0] hK hP hD hS hA rfl (fun hPc hDc hKc hFc => va_runV (As := [.ref (q 6)]) (rest := []) ⟨hx, hb, hml, hown, hts⟩ (t_X6_start l dC dI cI (q 15) (q 1) (q 4) (q 16) (q 6) n k (a 2) H.size t (f 7) (a 8)   _ hw) (cwV 1 hts gX5_tallyFitting_X6_start rfl rfl rfl (by decide +kernel) ⟨Nat.le_of_ble_eq_true rfl, Nat.le_of_ble_eq_true rfl⟩) (g_pV g_Tb (q0 := 0) rfl rfl hPc hDc hKc (fun _ _ _ => trivial)) rfl rfl hl.1 rfl (lv_room (Nat.le_of_ble_eq_true rfl)) dX5_tallyFitting_18 ⟨Nat.le_of_ble_eq_true rfl, Nat.le_of_ble_eq_true rfl⟩) (fun u2 H locs hw hP hD hS => ?_)
  replace hP : va_P (dC, dI) vwCl ((W_P adK adV cI cB cS q qb n k (upd f 7 (u2.1)) (q 6) (va_up a 8 (u2.2)) (va_up b 3 u1) sg) ++ va_pl sL (sgF sf)) H := hP
  replace hD : va_D A ((W_P adK adV cI cB cS q qb n k (upd f 7 (u2.1)) (q 6) (va_up a 8 (u2.2)) (va_up b 3 u1) sg) ++ va_pl sL (sgF sf)) := hD
  refine lv_iconst (v := 0) hx hb dX5_tallyFitting_21 (by decide) ?_
  refine lv_istore_n (lv' := [(1, .int (0 : Int32)), (0, .ref (q 0))]) hx hb dX5_tallyFitting_22 rfl hl (by decide) rfl (fun ls hl => ?_)
  refine hw (fun (x3 : Int32) (fv4 : (Nat → Int32)) (av5 : (Nat → Nat → Int32)) (bv6 : (Nat → Nat → Int32)) => ∀ (H : Heap) (locs : List Loc) (ls : Array Slot), va_P (dC, dI) vwCl ((W_P adK adV cI cB cS q qb n k fv4 (q 6) av5 bv6 sg) ++ va_pl sL (sgF sf)) H → va_D A ((W_P adK adV cI cB cS q qb n k fv4 (q 6) av5 bv6 sg) ++ va_pl sL (sgF sf)) → va_S A s.heap H locs → lv_has ls 2 [(0, .ref (q 0)), (1, .int x3)] → W p l e rmX5_tallyFitting s m args below meth c H locs 0 0 Q (F0 m 23 ls [])) ?_ H locs ls hP hD hS (lv_sub hl [1, 0] rfl)
  · intro x3 fv4 av5 bv6 hw H locs ls hP hD hS hl
    refine lv_iload_n hx hb dX5_tallyFitting_23 rfl (lv_at hl 1 rfl) ?_
    refine lv_sipush (v := 10000) hx hb dX5_tallyFitting_24 (by decide) ?_
    refine lv_icmp_ge (tgt := 60) hx hb dX5_tallyFitting_27 (by decide) (fun hc8 => ?_) (fun hc8 => ?_)
    · replace hw := hw.1 hc8
      exact hret dX5_tallyFitting_60 hK hP hD hS hw
    · replace hw := hw.2 hc8
      refine lv_aload_n hx hb dX5_tallyFitting_30 rfl (lv_at hl 0 rfl) ?_
      refine va_get (D := (dC, dI)) (ci := 7) (v := .ref (q 15)) (C := RX5) (T := TX5) (N := 15) hx hb hts hiX5 hown hK hP 0 rfl rfl 9 (by decide) hf55 (fun _ h9 => h9) rfl dX5_tallyFitting_31 ?_
      refine g_ci (g_J.poolQ (W2 := fun u9 : ((Int32) × (Nat → Int32)) => (W_P adK adV cI cB cS q qb n k (upd fv4 7 (u9.1)) (q 6) (va_up av5 8 (u9.2)) bv6 sg)) (pl := va_pl sL (sgF sf)) [((q 0), .inr (7, [.int (nI n), .int (nI k), .ref (q 1), .ref (q 2), .ref (q 3), .ref (q 8), .int (fv4 0), .ref (q 13), .ref (q 14), .ref (q 15), .ref (q 18), .ref (q 21), .int (fv4 1), .ref (q 17), .int (fv4 2)])), ((q 2), .inl (cI, k, .inl (av5 0))), ((q 3), .inr (10, [.ref (q 4), .ref (q 5), .ref (q 6), .ref (q 7), .int (fv4 3), .int (fv4 4)])), ((q 5), .inl (cI, n, .inl (av5 1))), ((q 7), .inl (cS, (6), .inr (.inr (.inr (.inr (sg 0)))))), ((q 8), .inr (10, [.ref (q 9), .ref (q 10), .ref (q 11), .ref (q 12), .int (fv4 5), .int (fv4 6)])), ((q 9), .inl (cI, (k - n), .inl (bv6 1))), ((q 10), .inl (cI, n, .inl (av5 3))), ((q 11), .inl (cI, k, .inl (av5 4))), ((q 12), .inl (cS, (6), .inr (.inr (.inr (.inr (sg 1)))))), ((q 13), .inl (cI, k, .inl (av5 5))), ((q 14), .inl (cI, k, .inl (av5 6))), ((q 17), .inl (cI, (10 * n), .inl (av5 7))), ((q 18), .inr (14, [.ref (q 19), .ref (q 20)])), ((q 19), .inl (cI, (k + 1), .inl (bv6 2))), ((q 20), .inl (cI, (toL n), .inl (bv6 3))), ((q 21), .inl (cI, k, .inl (bv6 4)))] [15, 16, 6, 4, 1, 22, 23, 24, 25, 26] [0, 2, 3, 5, 7, 8, 9, 10, 11, 12, 13, 14, 17, 18, 19, 20, 21] [0, 21, 1, 2, 20, 3, 19, 4, 5, 6, 7, 8, 9, 10, 11, 17, 18, 12, 13, 14, 15, 16, 22, 23, 24, 25, 26] rfl (by decide) rfl (by decide) (by decide) (fun _ => rfl) (by decide)) [0, 1] hK hP hD hS hA rfl (fun hPc hDc hKc hFc => va_runV (As := []) (rest := []) ⟨hx, hb, hml, hown, hts⟩ (t_X6_next l dC dI adK adV cI cB (q 15) (q 1) (q 4) (q 16) (q 6) qb n k (k - n) (bv6 0) (av5 2) H.size (fv4 7) (av5 8)   _ hw) (cwV 0 hts gX5_tallyFitting_X6_next rfl rfl rfl (by decide +kernel) ⟨Nat.le_of_ble_eq_true rfl, Nat.le_of_ble_eq_true rfl⟩) (g_pV czb (q0 := 0) rfl rfl hPc hDc hKc (czc hZ hS hFc)) rfl rfl hl.1 rfl (lv_room (Nat.le_of_ble_eq_true rfl)) dX5_tallyFitting_34 ⟨Nat.le_of_ble_eq_true rfl, Nat.le_of_ble_eq_true rfl⟩) (fun r10 u9 H locs hw hP hD hS => ?_)
      replace hP : va_P (dC, dI) vwCl ((W_P adK adV cI cB cS q qb n k (upd fv4 7 (u9.1)) (q 6) (va_up av5 8 (u9.2)) bv6 sg) ++ va_pl sL (sgF sf)) H := hP
      replace hD : va_D A ((W_P adK adV cI cB cS q qb n k (upd fv4 7 (u9.1)) (q 6) (va_up av5 8 (u9.2)) bv6 sg) ++ va_pl sL (sgF sf)) := hD
      refine lv_if_eq (tgt := 60) hx hb dX5_tallyFitting_37 (by decide) (fun hc11 => ?_) (fun hc11 => ?_)
      · replace hw := hw.1 hc11
        exact hret dX5_tallyFitting_60 hK hP hD hS hw
      · replace hw := hw.2 hc11
        refine lv_aload_n hx hb dX5_tallyFitting_40 rfl (lv_at hl 0 rfl) ?_
        refine va_get (D := (dC, dI)) (ci := 7) (v := .ref (q 18)) (C := RX5) (T := TX5) (N := 15) hx hb hts hiX5 hown hK hP 0 rfl rfl 10 (by decide) hf62 (fun _ h9 => h9) rfl dX5_tallyFitting_41 ?_
        refine lv_aload_n hx hb dX5_tallyFitting_44 rfl (lv_at hl 0 rfl) ?_
        refine va_get (D := (dC, dI)) (ci := 7) (v := .ref (q 15)) (C := RX5) (T := TX5) (N := 15) hx hb hts hiX5 hown hK hP 0 rfl rfl 9 (by decide) hf55 (fun _ h9 => h9) rfl dX5_tallyFitting_45 ?_
        refine va_getN (D := (dC, dI)) (ci := 8) (v := .ref (q 16)) (C := RX6) (T := TX6) (N := 6) hx hb hts hiX6 hown hK hP 15 rfl rfl 3 (by decide) nf161 (fun _ h9 => h9) rfl dX5_tallyFitting_48 ?_
        refine g_cv (g_J.poolQ (W2 := fun u12 : ((Nat → Int32)) => (W_P adK adV cI cB cS q qb n k (upd fv4 7 (u9.1)) (q 6) (va_up av5 8 (u9.2)) (va_up bv6 3 u12) sg)) (pl := va_pl sL (sgF sf)) [((q 0), .inr (7, [.int (nI n), .int (nI k), .ref (q 1), .ref (q 2), .ref (q 3), .ref (q 8), .int (fv4 0), .ref (q 13), .ref (q 14), .ref (q 15), .ref (q 18), .ref (q 21), .int (fv4 1), .ref (q 17), .int (fv4 2)])), ((q 1), .inl (cB, (5), .inr (.inr (.inr (.inr (fun i => (kAll i).map qb)))))), ((q 2), .inl (cI, k, .inl (av5 0))), ((q 3), .inr (10, [.ref (q 4), .ref (q 5), .ref (q 6), .ref (q 7), .int (fv4 3), .int (fv4 4)])), ((q 4), .inl (cI, (k - n), .inl (bv6 0))), ((q 5), .inl (cI, n, .inl (av5 1))), ((q 6), .inl (cI, k, .inl (av5 2))), ((q 7), .inl (cS, (6), .inr (.inr (.inr (.inr (sg 0)))))), ((q 8), .inr (10, [.ref (q 9), .ref (q 10), .ref (q 11), .ref (q 12), .int (fv4 5), .int (fv4 6)])), ((q 9), .inl (cI, (k - n), .inl (bv6 1))), ((q 10), .inl (cI, n, .inl (av5 3))), ((q 11), .inl (cI, k, .inl (av5 4))), ((q 12), .inl (cS, (6), .inr (.inr (.inr (.inr (sg 1)))))), ((q 13), .inl (cI, k, .inl (av5 5))), ((q 14), .inl (cI, k, .inl (av5 6))), ((q 15), .inr (8, [.int (nI n), .ref (q 1), .ref (q 4), .ref (q 16), .ref (q 6), .int (u9.1)])), ((q 17), .inl (cI, (10 * n), .inl (av5 7))), ((q 21), .inl (cI, k, .inl (bv6 4))), ((qb 0), .inr (2, [])), ((qb 1), .inr (3, [])), ((qb 2), .inr (5, [])), ((qb 3), .inr (11, [])), ((qb 4), .inr (4, []))] [18, 19, 20, 16] [0, 1, 2, 3, 4, 5, 6, 7, 8, 9, 10, 11, 12, 13, 14, 15, 17, 21, 22, 23, 24, 25, 26] [0, 1, 2, 3, 4, 5, 6, 7, 8, 9, 10, 11, 12, 13, 14, 15, 26, 16, 23, 24, 25, 17, 18, 19, 20, 21, 22] rfl (by decide) rfl (by decide) (by decide) (fun _ => rfl) (by decide)) [0] hK hP hD hS hA rfl (fun hPc hDc hKc hFc => va_runV (As := [.ref (q 16)]) (rest := []) ⟨hx, hb, hml, hown, hts⟩ (t_X12_add l dC dI adK adV cI (q 18) (q 19) (q 20) k (toL n) (bv6 2) (q 16) k (u9.2) H.size (bv6 3)   _ hw) (cwV 1 hts gX5_tallyFitting_X12_add rfl rfl rfl (by decide +kernel) ⟨Nat.le_of_ble_eq_true rfl, Nat.le_of_ble_eq_true rfl⟩) (g_pV czb (q0 := 0) rfl rfl hPc hDc hKc (czc hZ hS hFc)) rfl rfl hl.1 rfl (lv_room (Nat.le_of_ble_eq_true rfl)) dX5_tallyFitting_51 ⟨Nat.le_of_ble_eq_true rfl, Nat.le_of_ble_eq_true rfl⟩) (fun u12 H locs hw hP hD hS => ?_)
        replace hP : va_P (dC, dI) vwCl ((W_P adK adV cI cB cS q qb n k (upd fv4 7 (u9.1)) (q 6) (va_up av5 8 (u9.2)) (va_up bv6 3 u12) sg) ++ va_pl sL (sgF sf)) H := hP
        replace hD : va_D A ((W_P adK adV cI cB cS q qb n k (upd fv4 7 (u9.1)) (q 6) (va_up av5 8 (u9.2)) (va_up bv6 3 u12) sg) ++ va_pl sL (sgF sf)) := hD
        obtain ⟨x13, ex13⟩ : ∃ y : Int32, y = x3 + (1 : Int32) := ⟨_, rfl⟩
        replace hw := hw x13 ex13
        refine lv_iinc (v := x13) (lv' := [(1, .int x13), (0, .ref (q 0))]) hx hb dX5_tallyFitting_54 hl (k := 1) rfl (by rw [ex13]; rfl) (by decide) rfl (fun ls hl => ?_)
        refine lv_goto (tgt := 23) hx hb dX5_tallyFitting_57 (by decide) ?_
        exact hw H locs ls hP hD hS (lv_sub hl [1, 0] rfl)

def w_X5_nextLook (n : Nat) (k : Nat) (q : Nat → Nat) (f : Nat → Int32) (t : Nat) (a : Nat → Nat → Int32) (b : Nat → Nat → Int32) (sg : Nat → Nat → Option Nat) (sL : List Nat) (sf : Nat → Nat → Int32)   (Q : Int32 → ((Nat → Int32) × (Nat) × (Nat → Nat → Int32) × (Nat → Nat → Int32)) → Prop) : Prop := w_X5_fitting n k q f t a b sg sL sf  (fun (r2 : Int32) (u1 : ((Nat → Int32) × (Nat) × (Nat → Nat → Int32))) => (((¬ r2 = 0) → w_X5_tallyFitting n k q (u1.1) (u1.2.1) (u1.2.2) b sg sL sf  (fun (u4 : ((Nat → Int32) × (Nat) × (Nat → Nat → Int32) × (Nat → Nat → Int32))) => (∀ X8 : Int32 → Int32 → Int32 → Prop, (∀ (x5 : Int32) (x6 : Int32) (x7 : Int32), (((((nI k) ≤ x7) → Q x5 (u4.1, u4.2.1, u4.2.2.1, u4.2.2.2)) ∧ (¬ ((nI k) ≤ x7) → w_X12_worst k (toL n) (u4.2.2.2 2) (u4.2.2.2 3)  x7 (fun (r11 : Int32) (u10 : Unit) => (vp_in x7 k) ∧ ∀ J15 : Int32 → Int32 → Prop, (∀ (x13 : Int32) (x14 : Int32), (∀ x16 : Int32, x16 = x7 + (1 : Int32) → X8 x13 x14 x16) → J15 x13 x14) → (((¬ ((u4.2.2.1 2) x7.toNatClampNeg) = (-1 : Int32)) → J15 x5 x6) ∧ (((u4.2.2.1 2) x7.toNatClampNeg) = (-1 : Int32) → (((x6 ≤ r11) → J15 x5 x6) ∧ (¬ (x6 ≤ r11) → J15 x7 r11)))))))) → X8 x5 x6 x7) → X8 (-1 : Int32) (10001 : Int32) (0 : Int32)))) ∧ (r2 = 0 → Q (-1 : Int32) (u1.1, u1.2.1, u1.2.2, b))))
abbrev rmX5_nextLook : Room := { frames := 5, cells := 0, slots := 0, locals := 128 }
set_option maxHeartbeats 4000000 in
set_option maxRecDepth 100000 in
theorem t_X5_nextLook (l : Launch) (dC : Nat → ClassId) (dI : Nat → Nat → Nat) (adK : Nat → Nat) (adV : Nat → Nat) (cI : ClassId) (cB : ClassId) (cS : ClassId) (q : Nat → Nat) (qb : Nat → Nat) (n : Nat) (k : Nat) (sz : Nat) (f : Nat → Int32) (t : Nat) (a : Nat → Nat → Int32) (b : Nat → Nat → Int32) (sg : Nat → Nat → Option Nat) (sL : List Nat) (sf : Nat → Nat → Int32)    (Q0 : Int32 → ((Nat → Int32) × (Nat) × (Nat → Nat → Int32) × (Nat → Nat → Int32)) → Prop) (hw : w_X5_nextLook n k q f t a b sg sL sf   Q0) : Met l yX5_nextLook wsX5_nextLook rmX5_nextLook (g_pre (cz adK adV) (dC, dI) vwCl [(cI, .int), (cB, .object RX0), (cS, .object RX7)] ((W_P adK adV cI cB cS q qb n k f t a b sg) ++ va_pl sL (sgF sf)) sz [.ref (q 0)]) (g_qi (dC, dI) vwCl [(cI, .int), (cB, .object RX0), (cS, .object RX7)] (fun u : ((Nat → Int32) × (Nat) × (Nat → Nat → Int32) × (Nat → Nat → Int32)) => ((W_P adK adV cI cB cS q qb n k (u.1) (u.2.1) (u.2.2.1) (u.2.2.2) sg) ++ va_pl sL (sgF sf))) Q0 (va_A ((W_P adK adV cI cB cS q qb n k f t a b sg) ++ va_pl sL (sgF sf)) sz)) 0 0 (va_A ((W_P adK adV cI cB cS q qb n k f t a b sg) ++ va_pl sL (sgF sf)) sz) := by
  refine g_starti (by decide) rfl (Nat.le_of_ble_eq_true rfl) ?_
  intro p e s m args below meth c A Q ls hx hb hml hown hts hin hK hP hD hA hS hZ hret hl
  obtain ⟨H, eH⟩ : ∃ H : Heap, H = s.heap := ⟨_, rfl⟩
  obtain ⟨locs, eL⟩ : ∃ L : List Loc, L = [] := ⟨_, rfl⟩
  have hS : va_S A s.heap H locs := by rw [eH, eL]; exact hS
  rw [← eH] at hP
  suffices hg : W p l e rmX5_nextLook s m args below meth c H locs 0 0 Q (F0 m 0 ls []) by rw [eH, eL] at hg; exact hg
  clear eH eL
  replace hl : lv_has ls 5 [(0, .ref (q 0))] := hl
  have hf19 := hts (.fieldLink RX5 19 "NumberPile$Pile" "size" "I") (by decide +kernel)
  have hiX5 : ∀ w ∈ u_ws RX5 TX5 15, w ∈ wsX5_nextLook := fun w h => List.mem_cons_of_mem _ (List.mem_append_left _ (List.mem_append_left _ (List.mem_append_left _ (List.mem_append_right _ h))))
  have hf62 := hts (.fieldLink RX5 62 "NumberPile$Pile" "tally" "LNumberPile$Tally;") (by decide +kernel)
  have hf31 := hts (.fieldLink RX5 31 "NumberPile$Pile" "now" "LNumberPile$State;") (by decide +kernel)
  have nf118 := va_Nw.use (A := args) rfl (hZ.1 _ (List.mem_of_getElem? (i := 27) (rfl : cz_nest[27]? = some (.fieldLinkNest RX5 118 "NumberPile$State" "told" "[I" "NumberPile"))))
  have hiX8 : ∀ w ∈ u_ws RX8 TX8 6, w ∈ wsX5_nextLook := fun w h => List.mem_cons_of_mem _ (List.mem_append_left _ (List.mem_append_left _ (List.mem_append_right _ h)))
  unfold w_X5_nextLook at hw
  refine lv_aload_n hx hb dX5_nextLook_0 rfl (lv_at hl 0 rfl) ?_
  refine g_ci (g_J.poolP (W2 := fun u1 : ((Nat → Int32) × (Nat) × (Nat → Nat → Int32)) => (W_P adK adV cI cB cS q qb n k (u1.1) (u1.2.1) (u1.2.2) b sg)) (pl := va_pl sL (sgF sf)) (PL := fun u1 : ((Nat → Int32) × (Nat) × (Nat → Nat → Int32)) => va_pl sL (sgF sf)) (RX := fun u1 : ((Nat → Int32) × (Nat) × (Nat → Nat → Int32)) => (W_P adK adV cI cB cS q qb n k (u1.1) (u1.2.1) (u1.2.2) b sg)) [] [0, 1, 2, 3, 4, 5, 6, 7, 8, 9, 10, 11, 12, 13, 14, 15, 16, 17, 18, 19, 20, 21, 22, 23, 24, 25, 26] [] [0, 1, 2, 3, 4, 5, 6, 7, 8, 9, 10, 11, 12, 13, 14, 15, 16, 17, 18, 19, 20, 21, 22, 23, 24, 25, 26] rfl (by decide) rfl (by decide) (by decide) (fun _ => rfl) (by decide)) [0, 1, 2] hK hP hD hS hA rfl (fun hPc hDc hKc hFc => va_runV (As := []) (rest := []) ⟨hx, hb, hml, hown, hts⟩ (t_X5_fitting l dC dI adK adV cI cB cS q qb n k H.size f t a b sg sL sf  _ hw) (cwV 0 hts gX5_nextLook_X5_fitting rfl rfl rfl (by decide +kernel) ⟨Nat.le_of_ble_eq_true rfl, Nat.le_of_ble_eq_true rfl⟩) (g_pV czb (q0 := 0) rfl rfl hPc hDc hKc (czc hZ hS hFc)) rfl rfl hl.1 rfl (lv_room (Nat.le_of_ble_eq_true rfl)) dX5_nextLook_1 ⟨Nat.le_of_ble_eq_true rfl, Nat.le_of_ble_eq_true rfl⟩) (fun r2 u1 H locs hw hP hD hS => ?_)
  replace hP : va_P (dC, dI) vwCl ((W_P adK adV cI cB cS q qb n k (u1.1) (u1.2.1) (u1.2.2) b sg) ++ va_pl sL (sgF sf)) H := hP
  replace hD : va_D A ((W_P adK adV cI cB cS q qb n k (u1.1) (u1.2.1) (u1.2.2) b sg) ++ va_pl sL (sgF sf)) := hD
  refine lv_if_ne (tgt := 9) hx hb dX5_nextLook_4 (by decide) (fun hc3 => ?_) (fun hc3 => ?_)
  · replace hw := hw.1 hc3
    refine lv_aload_n hx hb dX5_nextLook_9 rfl (lv_at hl 0 rfl) ?_
    refine g_cv (g_J.poolP (W2 := fun u4 : ((Nat → Int32) × (Nat) × (Nat → Nat → Int32) × (Nat → Nat → Int32)) => (W_P adK adV cI cB cS q qb n k (u4.1) (u4.2.1) (u4.2.2.1) (u4.2.2.2) sg)) (pl := va_pl sL (sgF sf)) (PL := fun u4 : ((Nat → Int32) × (Nat) × (Nat → Nat → Int32) × (Nat → Nat → Int32)) => va_pl sL (sgF sf)) (RX := fun u4 : ((Nat → Int32) × (Nat) × (Nat → Nat → Int32) × (Nat → Nat → Int32)) => (W_P adK adV cI cB cS q qb n k (u4.1) (u4.2.1) (u4.2.2.1) (u4.2.2.2) sg)) [] [0, 1, 2, 3, 4, 5, 6, 7, 8, 9, 10, 11, 12, 13, 14, 15, 16, 17, 18, 19, 20, 21, 22, 23, 24, 25, 26] [] [0, 1, 2, 3, 4, 5, 6, 7, 8, 9, 10, 11, 12, 13, 14, 15, 16, 17, 18, 19, 20, 21, 22, 23, 24, 25, 26] rfl (by decide) rfl (by decide) (by decide) (fun _ => rfl) (by decide)) [0, 1, 2] hK hP hD hS hA rfl (fun hPc hDc hKc hFc => va_runV (As := []) (rest := []) ⟨hx, hb, hml, hown, hts⟩ (t_X5_tallyFitting l dC dI adK adV cI cB cS q qb n k H.size (u1.1) (u1.2.1) (u1.2.2) b sg sL sf  _ hw) (cwV 0 hts gX5_nextLook_X5_tallyFitting rfl rfl rfl (by decide +kernel) ⟨Nat.le_of_ble_eq_true rfl, Nat.le_of_ble_eq_true rfl⟩) (g_pV czb (q0 := 0) rfl rfl hPc hDc hKc (czc hZ hS hFc)) rfl rfl hl.1 rfl (lv_room (Nat.le_of_ble_eq_true rfl)) dX5_nextLook_10 ⟨Nat.le_of_ble_eq_true rfl, Nat.le_of_ble_eq_true rfl⟩) (fun u4 H locs hw hP hD hS => ?_)
    replace hP : va_P (dC, dI) vwCl ((W_P adK adV cI cB cS q qb n k (u4.1) (u4.2.1) (u4.2.2.1) (u4.2.2.2) sg) ++ va_pl sL (sgF sf)) H := hP
    replace hD : va_D A ((W_P adK adV cI cB cS q qb n k (u4.1) (u4.2.1) (u4.2.2.1) (u4.2.2.2) sg) ++ va_pl sL (sgF sf)) := hD
    refine lv_iconst (v := -1) hx hb dX5_nextLook_13 (by decide) ?_
    refine lv_istore_n (lv' := [(1, .int (-1 : Int32)), (0, .ref (q 0))]) hx hb dX5_nextLook_14 rfl hl (by decide) rfl (fun ls hl => ?_)
    refine lv_sipush (v := 10001) hx hb dX5_nextLook_15 (by decide) ?_
    refine lv_istore_n (lv' := [(2, .int (10001 : Int32)), (1, .int (-1 : Int32)), (0, .ref (q 0))]) hx hb dX5_nextLook_18 rfl hl (by decide) rfl (fun ls hl => ?_)
    refine lv_iconst (v := 0) hx hb dX5_nextLook_19 (by decide) ?_
    refine lv_istore_n (lv' := [(3, .int (0 : Int32)), (2, .int (10001 : Int32)), (1, .int (-1 : Int32)), (0, .ref (q 0))]) hx hb dX5_nextLook_20 rfl hl (by decide) rfl (fun ls hl => ?_)
    refine hw (fun (x5 : Int32) (x6 : Int32) (x7 : Int32) => ∀ (H : Heap) (locs : List Loc) (ls : Array Slot), va_P (dC, dI) vwCl ((W_P adK adV cI cB cS q qb n k (u4.1) (u4.2.1) (u4.2.2.1) (u4.2.2.2) sg) ++ va_pl sL (sgF sf)) H → va_D A ((W_P adK adV cI cB cS q qb n k (u4.1) (u4.2.1) (u4.2.2.1) (u4.2.2.2) sg) ++ va_pl sL (sgF sf)) → va_S A s.heap H locs → lv_has ls 5 [(0, .ref (q 0)), (1, .int x5), (2, .int x6), (3, .int x7)] → W p l e rmX5_nextLook s m args below meth c H locs 0 0 Q (F0 m 21 ls [])) ?_ H locs ls hP hD hS (lv_sub hl [3, 2, 1, 0] rfl)
    · intro x5 x6 x7 hw H locs ls hP hD hS hl
      refine lv_iload_n hx hb dX5_nextLook_21 rfl (lv_at hl 3 rfl) ?_
      refine lv_aload_n hx hb dX5_nextLook_22 rfl (lv_at hl 0 rfl) ?_
      refine va_get (D := (dC, dI)) (ci := 7) (v := .int (nI k)) (C := RX5) (T := TX5) (N := 15) hx hb hts hiX5 hown hK hP 0 rfl rfl 1 (by decide) hf19 (fun _ h9 => h9) rfl dX5_nextLook_23 ?_
      refine lv_icmp_ge (tgt := 69) hx hb dX5_nextLook_26 (by decide) (fun hc9 => ?_) (fun hc9 => ?_)
      · replace hw := hw.1 hc9
        refine lv_iload_n hx hb dX5_nextLook_69 rfl (lv_at hl 1 rfl) ?_
        exact hret dX5_nextLook_70 hK hP hD hS hw
      · replace hw := hw.2 hc9
        refine lv_aload_n hx hb dX5_nextLook_29 rfl (lv_at hl 0 rfl) ?_
        refine va_get (D := (dC, dI)) (ci := 7) (v := .ref (q 18)) (C := RX5) (T := TX5) (N := 15) hx hb hts hiX5 hown hK hP 0 rfl rfl 10 (by decide) hf62 (fun _ h9 => h9) rfl dX5_nextLook_30 ?_
        refine lv_iload_n hx hb dX5_nextLook_33 rfl (lv_at hl 3 rfl) ?_
        refine g_ci (g_J.poolQ (W2 := fun u10 : Unit => (W_P adK adV cI cB cS q qb n k (u4.1) (u4.2.1) (u4.2.2.1) (u4.2.2.2) sg)) (pl := va_pl sL (sgF sf)) [((q 0), .inr (7, [.int (nI n), .int (nI k), .ref (q 1), .ref (q 2), .ref (q 3), .ref (q 8), .int (u4.1 0), .ref (q 13), .ref (q 14), .ref (q 15), .ref (q 18), .ref (q 21), .int (u4.1 1), .ref (q 17), .int (u4.1 2)])), ((q 1), .inl (cB, (5), .inr (.inr (.inr (.inr (fun i => (kAll i).map qb)))))), ((q 2), .inl (cI, k, .inl (u4.2.2.1 0))), ((q 3), .inr (10, [.ref (q 4), .ref (q 5), .ref (q 6), .ref (q 7), .int (u4.1 3), .int (u4.1 4)])), ((q 4), .inl (cI, (k - n), .inl (u4.2.2.2 0))), ((q 5), .inl (cI, n, .inl (u4.2.2.1 1))), ((q 6), .inl (cI, k, .inl (u4.2.2.1 2))), ((q 7), .inl (cS, (6), .inr (.inr (.inr (.inr (sg 0)))))), ((q 8), .inr (10, [.ref (q 9), .ref (q 10), .ref (q 11), .ref (q 12), .int (u4.1 5), .int (u4.1 6)])), ((q 9), .inl (cI, (k - n), .inl (u4.2.2.2 1))), ((q 10), .inl (cI, n, .inl (u4.2.2.1 3))), ((q 11), .inl (cI, k, .inl (u4.2.2.1 4))), ((q 12), .inl (cS, (6), .inr (.inr (.inr (.inr (sg 1)))))), ((q 13), .inl (cI, k, .inl (u4.2.2.1 5))), ((q 14), .inl (cI, k, .inl (u4.2.2.1 6))), ((q 15), .inr (8, [.int (nI n), .ref (q 1), .ref (q 4), .ref (q 16), .ref (u4.2.1), .int (u4.1 7)])), ((q 16), .inl (cI, k, .inl (u4.2.2.1 8))), ((q 17), .inl (cI, (10 * n), .inl (u4.2.2.1 7))), ((q 21), .inl (cI, k, .inl (u4.2.2.2 4))), ((qb 0), .inr (2, [])), ((qb 1), .inr (3, [])), ((qb 2), .inr (5, [])), ((qb 3), .inr (11, [])), ((qb 4), .inr (4, []))] [18, 19, 20] [0, 1, 2, 3, 4, 5, 6, 7, 8, 9, 10, 11, 12, 13, 14, 15, 16, 17, 21, 22, 23, 24, 25, 26] [0, 1, 2, 3, 4, 5, 6, 7, 8, 9, 10, 11, 12, 13, 14, 15, 16, 17, 24, 25, 26, 18, 19, 20, 21, 22, 23] rfl (by decide) rfl (by decide) (by decide) (fun _ => rfl) (by decide)) [0] hK hP hD hS hA rfl (fun hPc hDc hKc hFc => va_runV (As := [.int x7]) (rest := []) ⟨hx, hb, hml, hown, hts⟩ (t_X12_worst l dC dI adK adV cI (q 18) (q 19) (q 20) k (toL n) (u4.2.2.2 2) H.size (u4.2.2.2 3)  x7 _ hw) (cwV 1 hts gX5_nextLook_X12_worst rfl rfl rfl (by decide +kernel) ⟨Nat.le_of_ble_eq_true rfl, Nat.le_of_ble_eq_true rfl⟩) (g_pV czb (q0 := 0) rfl rfl hPc hDc hKc (czc hZ hS hFc)) rfl rfl hl.1 rfl (lv_room (Nat.le_of_ble_eq_true rfl)) dX5_nextLook_34 ⟨Nat.le_of_ble_eq_true rfl, Nat.le_of_ble_eq_true rfl⟩) (fun r11 u10 H locs hw hP hD hS => ?_)
        replace hP : va_P (dC, dI) vwCl ((W_P adK adV cI cB cS q qb n k (u4.1) (u4.2.1) (u4.2.2.1) (u4.2.2.2) sg) ++ va_pl sL (sgF sf)) H := hP
        replace hD : va_D A ((W_P adK adV cI cB cS q qb n k (u4.1) (u4.2.1) (u4.2.2.1) (u4.2.2.2) sg) ++ va_pl sL (sgF sf)) := hD
        refine lv_istore (lv' := [(4, .int r11), (0, .ref (q 0)), (1, .int x5), (2, .int x6), (3, .int x7)]) hx hb dX5_nextLook_37 hl (by decide) rfl (fun ls hl => ?_)
        refine lv_aload_n hx hb dX5_nextLook_39 rfl (lv_at hl 1 rfl) ?_
        refine va_get (D := (dC, dI)) (ci := 7) (v := .ref (q 3)) (C := RX5) (T := TX5) (N := 15) hx hb hts hiX5 hown hK hP 0 rfl rfl 4 (by decide) hf31 (fun _ h9 => h9) rfl dX5_nextLook_40 ?_
        refine va_getN (D := (dC, dI)) (ci := 10) (v := .ref (q 6)) (C := RX8) (T := TX8) (N := 6) hx hb hts hiX8 hown hK hP 3 rfl rfl 2 (by decide) nf118 (fun _ h9 => h9) rfl dX5_nextLook_43 ?_
        refine lv_iload_n hx hb dX5_nextLook_46 rfl (lv_at hl 4 rfl) ?_
        obtain ⟨hb12, hw⟩ := hw
        refine va_iald hx hb hK hP 6 0 rfl rfl hb12 dX5_nextLook_47 ?_
        refine lv_iconst (v := -1) hx hb dX5_nextLook_48 (by decide) ?_
        replace hw := hw (fun (x13 : Int32) (x14 : Int32) => ∀ (H : Heap) (locs : List Loc) (ls : Array Slot), va_P (dC, dI) vwCl ((W_P adK adV cI cB cS q qb n k (u4.1) (u4.2.1) (u4.2.2.1) (u4.2.2.2) sg) ++ va_pl sL (sgF sf)) H → va_D A ((W_P adK adV cI cB cS q qb n k (u4.1) (u4.2.1) (u4.2.2.1) (u4.2.2.2) sg) ++ va_pl sL (sgF sf)) → va_S A s.heap H locs → lv_has ls 5 [(0, .ref (q 0)), (1, .int x13), (2, .int x14), (3, .int x7)] → W p l e rmX5_nextLook s m args below meth c H locs 0 0 Q (F0 m 63 ls [])) (by
          intro x13 x14 hw H locs ls hP hD hS hl
          obtain ⟨x16, ex16⟩ : ∃ y : Int32, y = x7 + (1 : Int32) := ⟨_, rfl⟩
          replace hw := hw x16 ex16
          refine lv_iinc (v := x16) (lv' := [(3, .int x16), (0, .ref (q 0)), (1, .int x13), (2, .int x14)]) hx hb dX5_nextLook_63 hl (k := 3) rfl (by rw [ex16]; rfl) (by decide) rfl (fun ls hl => ?_)
          refine lv_goto (tgt := 21) hx hb dX5_nextLook_66 (by decide) ?_
          exact hw H locs ls hP hD hS (lv_sub hl [1, 2, 3, 0] rfl))
        refine lv_icmp_ne (tgt := 63) hx hb dX5_nextLook_49 (by decide) (fun hc17 => ?_) (fun hc17 => ?_)
        · replace hw := hw.1 hc17
          exact hw H locs ls hP hD hS (lv_sub hl [1, 2, 3, 4] rfl)
        · replace hw := hw.2 hc17
          refine lv_iload hx hb dX5_nextLook_52 (lv_at hl 0 rfl) ?_
          refine lv_iload_n hx hb dX5_nextLook_54 rfl (lv_at hl 3 rfl) ?_
          refine lv_icmp_ge (tgt := 63) hx hb dX5_nextLook_55 (by decide) (fun hc18 => ?_) (fun hc18 => ?_)
          · replace hw := hw.1 hc18
            exact hw H locs ls hP hD hS (lv_sub hl [1, 2, 3, 4] rfl)
          · replace hw := hw.2 hc18
            refine lv_iload hx hb dX5_nextLook_58 (lv_at hl 0 rfl) ?_
            refine lv_istore_n (lv' := [(2, .int r11), (4, .int r11), (0, .ref (q 0)), (1, .int x5), (3, .int x7)]) hx hb dX5_nextLook_60 rfl hl (by decide) rfl (fun ls hl => ?_)
            refine lv_iload_n hx hb dX5_nextLook_61 rfl (lv_at hl 4 rfl) ?_
            refine lv_istore_n (lv' := [(1, .int x7), (2, .int r11), (4, .int r11), (0, .ref (q 0)), (3, .int x7)]) hx hb dX5_nextLook_62 rfl hl (by decide) rfl (fun ls hl => ?_)
            exact hw H locs ls hP hD hS (lv_sub hl [3, 0, 1, 4] rfl)
  · replace hw := hw.2 hc3
    refine lv_iconst (v := -1) hx hb dX5_nextLook_7 (by decide) ?_
    exact hret dX5_nextLook_8 hK hP hD hS hw
