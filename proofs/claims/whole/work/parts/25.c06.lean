def w_X5_fittingWith (n : Nat) (k : Nat) (q : Nat → Nat) (f : Nat → Int32) (t : Nat) (a : Nat → Nat → Int32) (b : Nat → Nat → Option Nat) (sg : Nat → Nat → Option Nat) (sL : List Nat) (sf : Nat → Nat → Int32)  (p0 : Int32) (p1 : Int32) (Q : Int32 → ((Nat → Int32) × (Nat) × (Nat → Nat → Int32)) → Prop) : Prop := w_X5_fitting n k q f t a b sg sL sf  (fun (r2 : Int32) (u1 : ((Nat → Int32) × (Nat) × (Nat → Nat → Int32))) => (((¬ r2 = 0) → (vp_in ((p0 * (10 : Int32)) + p1) (10 * n)) ∧ Q ((u1.2.2 7) ((p0 * (10 : Int32)) + p1).toNatClampNeg) (u1.1, u1.2.1, u1.2.2)) ∧ (r2 = 0 → Q (0 : Int32) (u1.1, u1.2.1, u1.2.2))))
abbrev rmX5_fittingWith : Room := { frames := 5, cells := 0, slots := 0, locals := 128 }
set_option maxHeartbeats 4000000 in
set_option maxRecDepth 100000 in
theorem t_X5_fittingWith (l : Launch) (dC : Nat → ClassId) (dI : Nat → Nat → Nat) (adK : Nat → Nat) (adV : Nat → Nat) (cI : ClassId) (cB : ClassId) (cS : ClassId) (q : Nat → Nat) (qb : Nat → Nat) (n : Nat) (k : Nat) (sz : Nat) (f : Nat → Int32) (t : Nat) (a : Nat → Nat → Int32) (b : Nat → Nat → Option Nat) (sg : Nat → Nat → Option Nat) (sL : List Nat) (sf : Nat → Nat → Int32)   (p0 : Int32) (p1 : Int32) (Q0 : Int32 → ((Nat → Int32) × (Nat) × (Nat → Nat → Int32)) → Prop) (hw : w_X5_fittingWith n k q f t a b sg sL sf  p0 p1 Q0) : Met l yX5_fittingWith wsX5_fittingWith rmX5_fittingWith (g_pre (cz adK adV) (dC, dI) vwCl [(cI, .int), (cB, .object RX0), (cS, .object RX7)] ((W_P adK adV cI cB cS q qb n k f t a b sg) ++ va_pl sL (sgF sf)) sz [.ref (q 0), .int p0, .int p1]) (g_qi (dC, dI) vwCl [(cI, .int), (cB, .object RX0), (cS, .object RX7)] (fun u : ((Nat → Int32) × (Nat) × (Nat → Nat → Int32)) => ((W_P adK adV cI cB cS q qb n k (u.1) (u.2.1) (u.2.2) b sg) ++ va_pl sL (sgF sf))) Q0 (va_A ((W_P adK adV cI cB cS q qb n k f t a b sg) ++ va_pl sL (sgF sf)) sz)) 0 0 (va_A ((W_P adK adV cI cB cS q qb n k f t a b sg) ++ va_pl sL (sgF sf)) sz) := by
  refine g_starti (by decide) rfl (Nat.le_of_ble_eq_true rfl) ?_
  intro p e s m args below meth c A Q ls hx hb hml hown hts hin hK hP hD hA hS hZ hret hl
  obtain ⟨H, eH⟩ : ∃ H : Heap, H = s.heap := ⟨_, rfl⟩
  obtain ⟨locs, eL⟩ : ∃ L : List Loc, L = [] := ⟨_, rfl⟩
  have hS : va_S A s.heap H locs := by rw [eH, eL]; exact hS
  rw [← eH] at hP
  suffices hg : W p l e rmX5_fittingWith s m args below meth c H locs 0 0 Q (F0 m 0 ls []) by rw [eH, eL] at hg; exact hg
  clear eH eL
  replace hl : lv_has ls 3 [(0, .ref (q 0)), (1, .int p0), (2, .int p1)] := hl
  have hf44 := hts (.fieldLink RX5 44 "NumberPile$Pile" "fittingWith" "[I") (by decide +kernel)
  have hiX5 : ∀ w ∈ u_ws RX5 TX5 13, w ∈ wsX5_fittingWith := fun w h => List.mem_cons_of_mem _ (List.mem_append_left _ (List.mem_append_left _ (List.mem_append_right _ h)))
  unfold w_X5_fittingWith at hw
  refine lv_aload_n hx hb dX5_fittingWith_0 rfl (lv_at hl 0 rfl) ?_
  refine g_ci (g_J.poolP (W2 := fun u1 : ((Nat → Int32) × (Nat) × (Nat → Nat → Int32)) => (W_P adK adV cI cB cS q qb n k (u1.1) (u1.2.1) (u1.2.2) b sg)) (pl := va_pl sL (sgF sf)) (PL := fun u1 : ((Nat → Int32) × (Nat) × (Nat → Nat → Int32)) => va_pl sL (sgF sf)) (RX := fun u1 : ((Nat → Int32) × (Nat) × (Nat → Nat → Int32)) => (W_P adK adV cI cB cS q qb n k (u1.1) (u1.2.1) (u1.2.2) b sg)) [] [0, 1, 2, 3, 4, 5, 6, 7, 8, 9, 10, 11, 12, 13, 14, 15, 16, 17, 18, 19, 20, 21, 22] [] [0, 1, 2, 3, 4, 5, 6, 7, 8, 9, 10, 11, 12, 13, 14, 15, 16, 17, 18, 19, 20, 21, 22] rfl (by decide) rfl (by decide) (by decide) (fun _ => rfl) (by decide)) [0, 1, 2] hK hP hD hS hA rfl (fun hPc hDc hKc hFc => va_runV (As := []) (rest := []) ⟨hx, hb, hml, hown, hts⟩ (t_X5_fitting l dC dI adK adV cI cB cS q qb n k H.size f t a b sg sL sf  _ hw) (cwV 0 hts gX5_fittingWith_X5_fitting rfl rfl rfl (by decide +kernel) ⟨Nat.le_of_ble_eq_true rfl, Nat.le_of_ble_eq_true rfl⟩) (g_pV czb (q0 := 0) rfl rfl hPc hDc hKc (czc hZ hS hFc)) rfl rfl hl.1 rfl (lv_room (Nat.le_of_ble_eq_true rfl)) dX5_fittingWith_1 ⟨Nat.le_of_ble_eq_true rfl, Nat.le_of_ble_eq_true rfl⟩) (fun r2 u1 H locs hw hP hD hS => ?_)
  replace hP : va_P (dC, dI) vwCl ((W_P adK adV cI cB cS q qb n k (u1.1) (u1.2.1) (u1.2.2) b sg) ++ va_pl sL (sgF sf)) H := hP
  replace hD : va_D A ((W_P adK adV cI cB cS q qb n k (u1.1) (u1.2.1) (u1.2.2) b sg) ++ va_pl sL (sgF sf)) := hD
  refine lv_if_ne (tgt := 11) hx hb dX5_fittingWith_4 (by decide) (fun hc3 => ?_) (fun hc3 => ?_)
  · replace hw := hw.1 hc3
    refine lv_aload_n hx hb dX5_fittingWith_11 rfl (lv_at hl 0 rfl) ?_
    refine va_get (D := (dC, dI)) (ci := 7) (v := .ref (q 17)) (C := RX5) (T := TX5) (N := 13) hx hb hts hiX5 hown hK hP 0 rfl rfl 11 (by decide) hf44 (fun _ h9 => h9) rfl dX5_fittingWith_12 ?_
    refine lv_iload_n hx hb dX5_fittingWith_15 rfl (lv_at hl 1 rfl) ?_
    refine lv_bipush (v := 10) hx hb dX5_fittingWith_16 (by decide) ?_
    refine lv_imul hx hb dX5_fittingWith_18 ?_
    refine lv_iload_n hx hb dX5_fittingWith_19 rfl (lv_at hl 2 rfl) ?_
    refine lv_iadd hx hb dX5_fittingWith_20 ?_
    obtain ⟨hb4, hw⟩ := hw
    refine va_iald hx hb hK hP 17 0 rfl rfl hb4 dX5_fittingWith_21 ?_
    exact hret dX5_fittingWith_22 hK hP hD hS hw
  · replace hw := hw.2 hc3
    refine lv_iconst (v := 0) hx hb dX5_fittingWith_7 (by decide) ?_
    refine lv_goto (tgt := 22) hx hb dX5_fittingWith_8 (by decide) ?_
    exact hret dX5_fittingWith_22 hK hP hD hS hw

def w_X5_fittingRow (n : Nat) (k : Nat) (q : Nat → Nat) (f : Nat → Int32) (t : Nat) (a : Nat → Nat → Int32) (b : Nat → Nat → Option Nat) (sg : Nat → Nat → Option Nat) (sL : List Nat) (sf : Nat → Nat → Int32)  (p0 : Int32) (Q : Int32 → ((Nat → Int32) × (Nat) × (Nat → Nat → Int32)) → Prop) : Prop := w_X5_fitting n k q f t a b sg sL sf  (fun (r2 : Int32) (u1 : ((Nat → Int32) × (Nat) × (Nat → Nat → Int32))) => (((p0 < r2) → w_X6_start k n (u1.2.1) (u1.1 7) (u1.2.2 8)   (fun (u4 : StRSP) => (∀ X8 : Int32 → (Nat → Int32) → (Nat → Nat → Int32) → Prop, (∀ (x5 : Int32) (fv6 : (Nat → Int32)) (av7 : (Nat → Nat → Int32)), (∀ J9 : Prop, ((w_X6_number n k (k - n) (b 0) (av7 2) (fv6 7) (av7 8)   (fun (r11 : Int32) (u10 : Unit) => Q r11 (fv6, (q 6), av7))) → J9) → (((p0 < x5) → J9) ∧ (¬ (p0 < x5) → ((((10000 : Int32) ≤ x5) → J9) ∧ (¬ ((10000 : Int32) ≤ x5) → w_X6_next n k (k - n) (b 0) (av7 2) (fv6 7) (av7 8)   (fun (r15 : Int32) (u14 : ((Int32) × (Nat → Int32))) => (((¬ r15 = 0) → ∀ x17 : Int32, x17 = x5 + (1 : Int32) → X8 x17 (upd fv6 7 (u14.1)) (va_up av7 8 (u14.2))) ∧ (r15 = 0 → Q (-1 : Int32) ((upd fv6 7 (u14.1)), (q 6), (va_up av7 8 (u14.2))))))))))) → X8 x5 fv6 av7) → X8 (0 : Int32) (upd u1.1 7 (u4.1)) (va_up u1.2.2 8 (u4.2))))) ∧ (¬ (p0 < r2) → Q (-1 : Int32) (u1.1, u1.2.1, u1.2.2))))
abbrev rmX5_fittingRow : Room := { frames := 5, cells := 0, slots := 0, locals := 128 }
set_option maxHeartbeats 4000000 in
set_option maxRecDepth 100000 in
theorem t_X5_fittingRow (l : Launch) (dC : Nat → ClassId) (dI : Nat → Nat → Nat) (adK : Nat → Nat) (adV : Nat → Nat) (cI : ClassId) (cB : ClassId) (cS : ClassId) (q : Nat → Nat) (qb : Nat → Nat) (n : Nat) (k : Nat) (sz : Nat) (f : Nat → Int32) (t : Nat) (a : Nat → Nat → Int32) (b : Nat → Nat → Option Nat) (sg : Nat → Nat → Option Nat) (sL : List Nat) (sf : Nat → Nat → Int32)   (p0 : Int32) (Q0 : Int32 → ((Nat → Int32) × (Nat) × (Nat → Nat → Int32)) → Prop) (hw : w_X5_fittingRow n k q f t a b sg sL sf  p0 Q0) : Met l yX5_fittingRow wsX5_fittingRow rmX5_fittingRow (g_pre (cz adK adV) (dC, dI) vwCl [(cI, .int), (cB, .object RX0), (cS, .object RX7)] ((W_P adK adV cI cB cS q qb n k f t a b sg) ++ va_pl sL (sgF sf)) sz [.ref (q 0), .int p0]) (g_qi (dC, dI) vwCl [(cI, .int), (cB, .object RX0), (cS, .object RX7)] (fun u : ((Nat → Int32) × (Nat) × (Nat → Nat → Int32)) => ((W_P adK adV cI cB cS q qb n k (u.1) (u.2.1) (u.2.2) b sg) ++ va_pl sL (sgF sf))) Q0 (va_A ((W_P adK adV cI cB cS q qb n k f t a b sg) ++ va_pl sL (sgF sf)) sz)) 0 0 (va_A ((W_P adK adV cI cB cS q qb n k f t a b sg) ++ va_pl sL (sgF sf)) sz) := by
  refine g_starti (by decide) rfl (Nat.le_of_ble_eq_true rfl) ?_
  intro p e s m args below meth c A Q ls hx hb hml hown hts hin hK hP hD hA hS hZ hret hl
  obtain ⟨H, eH⟩ : ∃ H : Heap, H = s.heap := ⟨_, rfl⟩
  obtain ⟨locs, eL⟩ : ∃ L : List Loc, L = [] := ⟨_, rfl⟩
  have hS : va_S A s.heap H locs := by rw [eH, eL]; exact hS
  rw [← eH] at hP
  suffices hg : W p l e rmX5_fittingRow s m args below meth c H locs 0 0 Q (F0 m 0 ls []) by rw [eH, eL] at hg; exact hg
  clear eH eL
  replace hl : lv_has ls 3 [(0, .ref (q 0)), (1, .int p0)] := hl
  have hf55 := hts (.fieldLink RX5 55 "NumberPile$Pile" "rows" "LNumberPile$Rows;") (by decide +kernel)
  have hiX5 : ∀ w ∈ u_ws RX5 TX5 13, w ∈ wsX5_fittingRow := fun w h => List.mem_cons_of_mem _ (List.mem_append_left _ (List.mem_append_left _ (List.mem_append_right _ h)))
  have hf31 := hts (.fieldLink RX5 31 "NumberPile$Pile" "now" "LNumberPile$State;") (by decide +kernel)
  have nf110 := va_Nw.use (A := args) rfl (hZ.1 _ (List.mem_of_getElem? (i := 24) (rfl : cz_nest[24]? = some (.fieldLinkNest RX5 110 "NumberPile$State" "told" "[I" "NumberPile"))))
  have hiX8 : ∀ w ∈ u_ws RX8 TX8 6, w ∈ wsX5_fittingRow := fun w h => List.mem_cons_of_mem _ (List.mem_append_left _ (List.mem_append_right _ h))
  unfold w_X5_fittingRow at hw
  refine lv_iload_n hx hb dX5_fittingRow_0 rfl (lv_at hl 1 rfl) ?_
  refine lv_aload_n hx hb dX5_fittingRow_1 rfl (lv_at hl 0 rfl) ?_
  refine g_ci (g_J.poolP (W2 := fun u1 : ((Nat → Int32) × (Nat) × (Nat → Nat → Int32)) => (W_P adK adV cI cB cS q qb n k (u1.1) (u1.2.1) (u1.2.2) b sg)) (pl := va_pl sL (sgF sf)) (PL := fun u1 : ((Nat → Int32) × (Nat) × (Nat → Nat → Int32)) => va_pl sL (sgF sf)) (RX := fun u1 : ((Nat → Int32) × (Nat) × (Nat → Nat → Int32)) => (W_P adK adV cI cB cS q qb n k (u1.1) (u1.2.1) (u1.2.2) b sg)) [] [0, 1, 2, 3, 4, 5, 6, 7, 8, 9, 10, 11, 12, 13, 14, 15, 16, 17, 18, 19, 20, 21, 22] [] [0, 1, 2, 3, 4, 5, 6, 7, 8, 9, 10, 11, 12, 13, 14, 15, 16, 17, 18, 19, 20, 21, 22] rfl (by decide) rfl (by decide) (by decide) (fun _ => rfl) (by decide)) [0, 1, 2] hK hP hD hS hA rfl (fun hPc hDc hKc hFc => va_runV (As := []) (rest := [.int p0]) ⟨hx, hb, hml, hown, hts⟩ (t_X5_fitting l dC dI adK adV cI cB cS q qb n k H.size f t a b sg sL sf  _ hw) (cwV 0 hts gX5_fittingRow_X5_fitting rfl rfl rfl (by decide +kernel) ⟨Nat.le_of_ble_eq_true rfl, Nat.le_of_ble_eq_true rfl⟩) (g_pV czb (q0 := 0) rfl rfl hPc hDc hKc (czc hZ hS hFc)) rfl rfl hl.1 rfl (lv_room (Nat.le_of_ble_eq_true rfl)) dX5_fittingRow_2 ⟨Nat.le_of_ble_eq_true rfl, Nat.le_of_ble_eq_true rfl⟩) (fun r2 u1 H locs hw hP hD hS => ?_)
  replace hP : va_P (dC, dI) vwCl ((W_P adK adV cI cB cS q qb n k (u1.1) (u1.2.1) (u1.2.2) b sg) ++ va_pl sL (sgF sf)) H := hP
  replace hD : va_D A ((W_P adK adV cI cB cS q qb n k (u1.1) (u1.2.1) (u1.2.2) b sg) ++ va_pl sL (sgF sf)) := hD
  refine lv_icmp_lt (tgt := 10) hx hb dX5_fittingRow_5 (by decide) (fun hc3 => ?_) (fun hc3 => ?_)
  · replace hw := hw.1 hc3
    refine lv_aload_n hx hb dX5_fittingRow_10 rfl (lv_at hl 0 rfl) ?_
    refine va_get (D := (dC, dI)) (ci := 7) (v := .ref (q 15)) (C := RX5) (T := TX5) (N := 13) hx hb hts hiX5 hown hK hP 0 rfl rfl 9 (by decide) hf55 (fun _ h9 => h9) rfl dX5_fittingRow_11 ?_
    refine lv_aload_n hx hb dX5_fittingRow_14 rfl (lv_at hl 0 rfl) ?_
    refine va_get (D := (dC, dI)) (ci := 7) (v := .ref (q 3)) (C := RX5) (T := TX5) (N := 13) hx hb hts hiX5 hown hK hP 0 rfl rfl 4 (by decide) hf31 (fun _ h9 => h9) rfl dX5_fittingRow_15 ?_
    refine va_getN (D := (dC, dI)) (ci := 10) (v := .ref (q 6)) (C := RX8) (T := TX8) (N := 6) hx hb hts hiX8 hown hK hP 3 rfl rfl 2 (by decide) nf110 (fun _ h9 => h9) rfl dX5_fittingRow_18 ?_
    refine g_cv (g_J.poolQ (W2 := fun u4 : StRSP => (W_P adK adV cI cB cS q qb n k (upd u1.1 7 (u4.1)) (q 6) (va_up u1.2.2 8 (u4.2)) b sg)) (pl := va_pl sL (sgF sf)) [((q 0), .inr (7, [.int (nI n), .int (nI k), .ref (q 1), .ref (q 2), .ref (q 3), .ref (q 8), .int (u1.1 0), .ref (q 13), .ref (q 14), .ref (q 15), .int (u1.1 1), .ref (q 17), .int (u1.1 2)])), ((q 1), .inl (cB, (5), .inr (.inr (.inr (.inr (fun i => (kAll i).map qb)))))), ((q 2), .inl (cI, k, .inl (u1.2.2 0))), ((q 3), .inr (10, [.ref (q 4), .ref (q 5), .ref (q 6), .ref (q 7), .int (u1.1 3), .int (u1.1 4)])), ((q 4), .inl (cB, (k - n), .inr (.inr (.inr (.inr (fun i => ((b 0) i).map qb)))))), ((q 5), .inl (cI, n, .inl (u1.2.2 1))), ((q 7), .inl (cS, (6), .inr (.inr (.inr (.inr (sg 0)))))), ((q 8), .inr (10, [.ref (q 9), .ref (q 10), .ref (q 11), .ref (q 12), .int (u1.1 5), .int (u1.1 6)])), ((q 9), .inl (cB, (k - n), .inr (.inr (.inr (.inr (fun i => ((b 1) i).map qb)))))), ((q 10), .inl (cI, n, .inl (u1.2.2 3))), ((q 11), .inl (cI, k, .inl (u1.2.2 4))), ((q 12), .inl (cS, (6), .inr (.inr (.inr (.inr (sg 1)))))), ((q 13), .inl (cI, k, .inl (u1.2.2 5))), ((q 14), .inl (cI, k, .inl (u1.2.2 6))), ((q 17), .inl (cI, (10 * n), .inl (u1.2.2 7))), ((qb 0), .inr (2, [])), ((qb 1), .inr (3, [])), ((qb 2), .inr (5, [])), ((qb 3), .inr (11, [])), ((qb 4), .inr (4, []))] [15, 16, 6] [0, 1, 2, 3, 4, 5, 7, 8, 9, 10, 11, 12, 13, 14, 17, 18, 19, 20, 21, 22] [0, 1, 2, 3, 4, 5, 22, 6, 7, 8, 9, 10, 11, 12, 13, 20, 21, 14, 15, 16, 17, 18, 19] rfl (by decide) rfl (by decide) (by decide) (fun _ => rfl) (by decide)) [0] hK hP hD hS hA rfl (fun hPc hDc hKc hFc => va_runV (As := [.ref (q 6)]) (rest := []) ⟨hx, hb, hml, hown, hts⟩ (t_X6_start l dC dI cI (q 15) (q 4) (q 16) (q 6) n k (u1.2.2 2) H.size (u1.2.1) (u1.1 7) (u1.2.2 8)   _ hw) (cwV 1 hts gX5_fittingRow_X6_start rfl rfl rfl (by decide +kernel) ⟨Nat.le_of_ble_eq_true rfl, Nat.le_of_ble_eq_true rfl⟩) (g_pV g_Tb (q0 := 0) rfl rfl hPc hDc hKc (fun _ _ _ => trivial)) rfl rfl hl.1 rfl (lv_room (Nat.le_of_ble_eq_true rfl)) dX5_fittingRow_21 ⟨Nat.le_of_ble_eq_true rfl, Nat.le_of_ble_eq_true rfl⟩) (fun u4 H locs hw hP hD hS => ?_)
    replace hP : va_P (dC, dI) vwCl ((W_P adK adV cI cB cS q qb n k (upd u1.1 7 (u4.1)) (q 6) (va_up u1.2.2 8 (u4.2)) b sg) ++ va_pl sL (sgF sf)) H := hP
    replace hD : va_D A ((W_P adK adV cI cB cS q qb n k (upd u1.1 7 (u4.1)) (q 6) (va_up u1.2.2 8 (u4.2)) b sg) ++ va_pl sL (sgF sf)) := hD
    refine lv_iconst (v := 0) hx hb dX5_fittingRow_24 (by decide) ?_
    refine lv_istore_n (lv' := [(2, .int (0 : Int32)), (0, .ref (q 0)), (1, .int p0)]) hx hb dX5_fittingRow_25 rfl hl (by decide) rfl (fun ls hl => ?_)
    refine hw (fun (x5 : Int32) (fv6 : (Nat → Int32)) (av7 : (Nat → Nat → Int32)) => ∀ (H : Heap) (locs : List Loc) (ls : Array Slot), va_P (dC, dI) vwCl ((W_P adK adV cI cB cS q qb n k fv6 (q 6) av7 b sg) ++ va_pl sL (sgF sf)) H → va_D A ((W_P adK adV cI cB cS q qb n k fv6 (q 6) av7 b sg) ++ va_pl sL (sgF sf)) → va_S A s.heap H locs → lv_has ls 3 [(0, .ref (q 0)), (1, .int p0), (2, .int x5)] → W p l e rmX5_fittingRow s m args below meth c H locs 0 0 Q (F0 m 26 ls [])) ?_ H locs ls hP hD hS (lv_sub hl [1, 2, 0] rfl)
    · intro x5 fv6 av7 hw H locs ls hP hD hS hl
      refine lv_iload_n hx hb dX5_fittingRow_26 rfl (lv_at hl 2 rfl) ?_
      refine lv_iload_n hx hb dX5_fittingRow_27 rfl (lv_at hl 1 rfl) ?_
      replace hw := hw (∀ (H : Heap) (locs : List Loc) (ls : Array Slot), va_P (dC, dI) vwCl ((W_P adK adV cI cB cS q qb n k fv6 (q 6) av7 b sg) ++ va_pl sL (sgF sf)) H → va_D A ((W_P adK adV cI cB cS q qb n k fv6 (q 6) av7 b sg) ++ va_pl sL (sgF sf)) → va_S A s.heap H locs → lv_has ls 3 [(0, .ref (q 0))] → W p l e rmX5_fittingRow s m args below meth c H locs 0 0 Q (F0 m 56 ls [])) (by
        intro hw H locs ls hP hD hS hl
        refine lv_aload_n hx hb dX5_fittingRow_56 rfl (lv_at hl 0 rfl) ?_
        refine va_get (D := (dC, dI)) (ci := 7) (v := .ref (q 15)) (C := RX5) (T := TX5) (N := 13) hx hb hts hiX5 hown hK hP 0 rfl rfl 9 (by decide) hf55 (fun _ h9 => h9) rfl dX5_fittingRow_57 ?_
        refine g_ci (g_J.poolQ (W2 := fun u10 : Unit => (W_P adK adV cI cB cS q qb n k fv6 (q 6) av7 b sg)) (pl := va_pl sL (sgF sf)) [((q 0), .inr (7, [.int (nI n), .int (nI k), .ref (q 1), .ref (q 2), .ref (q 3), .ref (q 8), .int (fv6 0), .ref (q 13), .ref (q 14), .ref (q 15), .int (fv6 1), .ref (q 17), .int (fv6 2)])), ((q 1), .inl (cB, (5), .inr (.inr (.inr (.inr (fun i => (kAll i).map qb)))))), ((q 2), .inl (cI, k, .inl (av7 0))), ((q 3), .inr (10, [.ref (q 4), .ref (q 5), .ref (q 6), .ref (q 7), .int (fv6 3), .int (fv6 4)])), ((q 5), .inl (cI, n, .inl (av7 1))), ((q 7), .inl (cS, (6), .inr (.inr (.inr (.inr (sg 0)))))), ((q 8), .inr (10, [.ref (q 9), .ref (q 10), .ref (q 11), .ref (q 12), .int (fv6 5), .int (fv6 6)])), ((q 9), .inl (cB, (k - n), .inr (.inr (.inr (.inr (fun i => ((b 1) i).map qb)))))), ((q 10), .inl (cI, n, .inl (av7 3))), ((q 11), .inl (cI, k, .inl (av7 4))), ((q 12), .inl (cS, (6), .inr (.inr (.inr (.inr (sg 1)))))), ((q 13), .inl (cI, k, .inl (av7 5))), ((q 14), .inl (cI, k, .inl (av7 6))), ((q 17), .inl (cI, (10 * n), .inl (av7 7)))] [15, 16, 6, 4, 18, 19, 20, 21, 22] [0, 1, 2, 3, 5, 7, 8, 9, 10, 11, 12, 13, 14, 17] [0, 1, 2, 3, 17, 4, 16, 5, 6, 7, 8, 9, 10, 11, 12, 14, 15, 13, 18, 19, 20, 21, 22] rfl (by decide) rfl (by decide) (by decide) (fun _ => rfl) (by decide)) [0, 1] hK hP hD hS hA rfl (fun hPc hDc hKc hFc => va_runV (As := []) (rest := []) ⟨hx, hb, hml, hown, hts⟩ (t_X6_number l dC dI adK adV cI cB (q 15) (q 4) (q 16) (q 6) qb n k (k - n) (b 0) (av7 2) H.size (fv6 7) (av7 8)   _ hw) (cwV 0 hts gX5_fittingRow_X6_number rfl rfl rfl (by decide +kernel) ⟨Nat.le_of_ble_eq_true rfl, Nat.le_of_ble_eq_true rfl⟩) (g_pV czb (q0 := 0) rfl rfl hPc hDc hKc (czc hZ hS hFc)) rfl rfl hl.1 rfl (lv_room (Nat.le_of_ble_eq_true rfl)) dX5_fittingRow_60 ⟨Nat.le_of_ble_eq_true rfl, Nat.le_of_ble_eq_true rfl⟩) (fun r11 u10 H locs hw hP hD hS => ?_)
        replace hP : va_P (dC, dI) vwCl ((W_P adK adV cI cB cS q qb n k fv6 (q 6) av7 b sg) ++ va_pl sL (sgF sf)) H := hP
        replace hD : va_D A ((W_P adK adV cI cB cS q qb n k fv6 (q 6) av7 b sg) ++ va_pl sL (sgF sf)) := hD
        exact hret dX5_fittingRow_63 hK hP hD hS hw)
      refine lv_icmp_gt (tgt := 56) hx hb dX5_fittingRow_28 (by decide) (fun hc12 => ?_) (fun hc12 => ?_)
      · replace hw := hw.1 hc12
        exact hw H locs ls hP hD hS (lv_sub hl [0] rfl)
      · replace hw := hw.2 hc12
        refine lv_iload_n hx hb dX5_fittingRow_31 rfl (lv_at hl 2 rfl) ?_
        refine lv_sipush (v := 10000) hx hb dX5_fittingRow_32 (by decide) ?_
        refine lv_icmp_ge (tgt := 56) hx hb dX5_fittingRow_35 (by decide) (fun hc13 => ?_) (fun hc13 => ?_)
        · replace hw := hw.1 hc13
          exact hw H locs ls hP hD hS (lv_sub hl [0] rfl)
        · replace hw := hw.2 hc13
          refine lv_aload_n hx hb dX5_fittingRow_38 rfl (lv_at hl 0 rfl) ?_
          refine va_get (D := (dC, dI)) (ci := 7) (v := .ref (q 15)) (C := RX5) (T := TX5) (N := 13) hx hb hts hiX5 hown hK hP 0 rfl rfl 9 (by decide) hf55 (fun _ h9 => h9) rfl dX5_fittingRow_39 ?_
          refine g_ci (g_J.poolQ (W2 := fun u14 : ((Int32) × (Nat → Int32)) => (W_P adK adV cI cB cS q qb n k (upd fv6 7 (u14.1)) (q 6) (va_up av7 8 (u14.2)) b sg)) (pl := va_pl sL (sgF sf)) [((q 0), .inr (7, [.int (nI n), .int (nI k), .ref (q 1), .ref (q 2), .ref (q 3), .ref (q 8), .int (fv6 0), .ref (q 13), .ref (q 14), .ref (q 15), .int (fv6 1), .ref (q 17), .int (fv6 2)])), ((q 1), .inl (cB, (5), .inr (.inr (.inr (.inr (fun i => (kAll i).map qb)))))), ((q 2), .inl (cI, k, .inl (av7 0))), ((q 3), .inr (10, [.ref (q 4), .ref (q 5), .ref (q 6), .ref (q 7), .int (fv6 3), .int (fv6 4)])), ((q 5), .inl (cI, n, .inl (av7 1))), ((q 7), .inl (cS, (6), .inr (.inr (.inr (.inr (sg 0)))))), ((q 8), .inr (10, [.ref (q 9), .ref (q 10), .ref (q 11), .ref (q 12), .int (fv6 5), .int (fv6 6)])), ((q 9), .inl (cB, (k - n), .inr (.inr (.inr (.inr (fun i => ((b 1) i).map qb)))))), ((q 10), .inl (cI, n, .inl (av7 3))), ((q 11), .inl (cI, k, .inl (av7 4))), ((q 12), .inl (cS, (6), .inr (.inr (.inr (.inr (sg 1)))))), ((q 13), .inl (cI, k, .inl (av7 5))), ((q 14), .inl (cI, k, .inl (av7 6))), ((q 17), .inl (cI, (10 * n), .inl (av7 7)))] [15, 16, 6, 4, 18, 19, 20, 21, 22] [0, 1, 2, 3, 5, 7, 8, 9, 10, 11, 12, 13, 14, 17] [0, 1, 2, 3, 17, 4, 16, 5, 6, 7, 8, 9, 10, 11, 12, 14, 15, 13, 18, 19, 20, 21, 22] rfl (by decide) rfl (by decide) (by decide) (fun _ => rfl) (by decide)) [0, 1] hK hP hD hS hA rfl (fun hPc hDc hKc hFc => va_runV (As := []) (rest := []) ⟨hx, hb, hml, hown, hts⟩ (t_X6_next l dC dI adK adV cI cB (q 15) (q 4) (q 16) (q 6) qb n k (k - n) (b 0) (av7 2) H.size (fv6 7) (av7 8)   _ hw) (cwV 0 hts gX5_fittingRow_X6_next rfl rfl rfl (by decide +kernel) ⟨Nat.le_of_ble_eq_true rfl, Nat.le_of_ble_eq_true rfl⟩) (g_pV czb (q0 := 0) rfl rfl hPc hDc hKc (czc hZ hS hFc)) rfl rfl hl.1 rfl (lv_room (Nat.le_of_ble_eq_true rfl)) dX5_fittingRow_42 ⟨Nat.le_of_ble_eq_true rfl, Nat.le_of_ble_eq_true rfl⟩) (fun r15 u14 H locs hw hP hD hS => ?_)
          replace hP : va_P (dC, dI) vwCl ((W_P adK adV cI cB cS q qb n k (upd fv6 7 (u14.1)) (q 6) (va_up av7 8 (u14.2)) b sg) ++ va_pl sL (sgF sf)) H := hP
          replace hD : va_D A ((W_P adK adV cI cB cS q qb n k (upd fv6 7 (u14.1)) (q 6) (va_up av7 8 (u14.2)) b sg) ++ va_pl sL (sgF sf)) := hD
          refine lv_if_ne (tgt := 50) hx hb dX5_fittingRow_45 (by decide) (fun hc16 => ?_) (fun hc16 => ?_)
          · replace hw := hw.1 hc16
            obtain ⟨x17, ex17⟩ : ∃ y : Int32, y = x5 + (1 : Int32) := ⟨_, rfl⟩
            replace hw := hw x17 ex17
            refine lv_iinc (v := x17) (lv' := [(2, .int x17), (0, .ref (q 0)), (1, .int p0)]) hx hb dX5_fittingRow_50 hl (k := 2) rfl (by rw [ex17]; rfl) (by decide) rfl (fun ls hl => ?_)
            refine lv_goto (tgt := 26) hx hb dX5_fittingRow_53 (by decide) ?_
            exact hw H locs ls hP hD hS (lv_sub hl [1, 2, 0] rfl)
          · replace hw := hw.2 hc16
            refine lv_iconst (v := -1) hx hb dX5_fittingRow_48 (by decide) ?_
            exact hret dX5_fittingRow_49 hK hP hD hS hw
  · replace hw := hw.2 hc3
    refine lv_iconst (v := -1) hx hb dX5_fittingRow_8 (by decide) ?_
    exact hret dX5_fittingRow_9 hK hP hD hS hw

def w_X5_canBe (n : Nat) (k : Nat) (q : Nat → Nat) (f : Nat → Int32) (t : Nat) (a : Nat → Nat → Int32) (b : Nat → Nat → Option Nat) (sg : Nat → Nat → Option Nat) (sL : List Nat) (sf : Nat → Nat → Int32) (kd : Nat) (p0 : Int32) (Q : Int32 → Unit → Prop) : Prop := (∀ X2 : Int32 → Prop, (∀ (x1 : Int32), (((((f 3) ≤ x1) → Q (1 : Int32) ()) ∧ (¬ ((f 3) ≤ x1) → ((((6 : Int32) ≤ x1) → Q (1 : Int32) ()) ∧ (¬ ((6 : Int32) ≤ x1) → (vp_in x1 (6)) ∧ ((((sg 0) x1.toNatClampNeg = none) → ∀ J8 : Prop, ((∀ x9 : Int32, x9 = x1 + (1 : Int32) → X2 x9) → J8) → J8) ∧ (∀ y6 : Nat, (sg 0) x1.toNatClampNeg = some y6 → (y6 ∈ sL) ∧ ∀ J10 : Prop, ((∀ x11 : Int32, x11 = x1 + (1 : Int32) → X2 x11) → J10) → w_X7_isOf  sL sf y6 p0 (fun (r13 : Int32) (u12 : Unit) => (((r13 = 0) → J10) ∧ (¬ (r13 = 0) → w_X7_allows  sL sf y6 kd  (fun (r16 : Int32) (u15 : Unit) => (((¬ r16 = 0) → J10) ∧ (r16 = 0 → Q (0 : Int32) ()))))))))))))) → X2 x1) → X2 (0 : Int32))
abbrev rmX5_canBe : Room := { frames := 3, cells := 0, slots := 0, locals := 83 }
set_option maxHeartbeats 4000000 in
set_option maxRecDepth 100000 in
theorem t_X5_canBe (l : Launch) (dC : Nat → ClassId) (dI : Nat → Nat → Nat) (adK : Nat → Nat) (adV : Nat → Nat) (cI : ClassId) (cB : ClassId) (cS : ClassId) (q : Nat → Nat) (qb : Nat → Nat) (n : Nat) (k : Nat) (sz : Nat) (f : Nat → Int32) (t : Nat) (a : Nat → Nat → Int32) (b : Nat → Nat → Option Nat) (sg : Nat → Nat → Option Nat) (sL : List Nat) (sf : Nat → Nat → Int32) (kd : Nat) (hkd : kd < 5) (p0 : Int32) (Q0 : Int32 → Unit → Prop) (hw : w_X5_canBe n k q f t a b sg sL sf kd p0 Q0) : Met l yX5_canBe wsX5_canBe rmX5_canBe (g_pre (cz adK adV) (dC, dI) vwCl [(cI, .int), (cB, .object RX0), (cS, .object RX7)] ((W_P adK adV cI cB cS q qb n k f t a b sg) ++ va_pl sL (sgF sf)) sz [.ref (q 0), .int p0, .ref (qb kd)]) (g_qi (dC, dI) vwCl [(cI, .int), (cB, .object RX0), (cS, .object RX7)] (fun u : Unit => ((W_P adK adV cI cB cS q qb n k f t a b sg) ++ va_pl sL (sgF sf))) Q0 (va_A ((W_P adK adV cI cB cS q qb n k f t a b sg) ++ va_pl sL (sgF sf)) sz)) 0 0 (va_A ((W_P adK adV cI cB cS q qb n k f t a b sg) ++ va_pl sL (sgF sf)) sz) := by
  refine g_startz (by decide) rfl (Nat.le_of_ble_eq_true rfl) ?_
  intro p e s m args below meth c A Q ls hx hb hml hown hts hin hK hP hD hA hS hZ hret hl
  obtain ⟨H, eH⟩ : ∃ H : Heap, H = s.heap := ⟨_, rfl⟩
  obtain ⟨locs, eL⟩ : ∃ L : List Loc, L = [] := ⟨_, rfl⟩
  have hS : va_S A s.heap H locs := by rw [eH, eL]; exact hS
  rw [← eH] at hP
  suffices hg : W p l e rmX5_canBe s m args below meth c H locs 0 0 Q (F0 m 0 ls []) by rw [eH, eL] at hg; exact hg
  clear eH eL
  replace hl : lv_has ls 5 [(0, .ref (q 0)), (1, .int p0), (2, .ref (qb kd))] := hl
  have hf31 := hts (.fieldLink RX5 31 "NumberPile$Pile" "now" "LNumberPile$State;") (by decide +kernel)
  have hiX5 : ∀ w ∈ u_ws RX5 TX5 13, w ∈ wsX5_canBe := fun w h => List.mem_cons_of_mem _ (List.mem_append_left _ (List.mem_append_left _ (List.mem_append_right _ h)))
  have nf186 := va_Nw.use (A := args) rfl (hZ.1 _ (List.mem_of_getElem? (i := 29) (rfl : cz_nest[29]? = some (.fieldLinkNest RX5 186 "NumberPile$State" "sights" "I" "NumberPile"))))
  have hiX8 : ∀ w ∈ u_ws RX8 TX8 6, w ∈ wsX5_canBe := fun w h => List.mem_cons_of_mem _ (List.mem_append_left _ (List.mem_append_right _ h))
  have nf189 := va_Nw.use (A := args) rfl (hZ.1 _ (List.mem_of_getElem? (i := 30) (rfl : cz_nest[30]? = some (.fieldLinkNest RX5 189 "NumberPile$State" "seen" "[LNumberPile$Sight;" "NumberPile"))))
  unfold w_X5_canBe at hw
  refine lv_iconst (v := 0) hx hb dX5_canBe_0 (by decide) ?_
  refine lv_istore_n (lv' := [(3, .int (0 : Int32)), (0, .ref (q 0)), (1, .int p0), (2, .ref (qb kd))]) hx hb dX5_canBe_1 rfl hl (by decide) rfl (fun ls hl => ?_)
  refine hw (fun (x1 : Int32) => ∀ (H : Heap) (locs : List Loc) (ls : Array Slot), va_P (dC, dI) vwCl ((W_P adK adV cI cB cS q qb n k f t a b sg) ++ va_pl sL (sgF sf)) H → va_D A ((W_P adK adV cI cB cS q qb n k f t a b sg) ++ va_pl sL (sgF sf)) → va_S A s.heap H locs → lv_has ls 5 [(0, .ref (q 0)), (1, .int p0), (2, .ref (qb kd)), (3, .int x1)] → W p l e rmX5_canBe s m args below meth c H locs 0 0 Q (F0 m 2 ls [])) ?_ H locs ls hP hD hS (lv_sub hl [1, 2, 3, 0] rfl)
  · intro x1 hw H locs ls hP hD hS hl
    refine lv_iload_n hx hb dX5_canBe_2 rfl (lv_at hl 3 rfl) ?_
    refine lv_aload_n hx hb dX5_canBe_3 rfl (lv_at hl 0 rfl) ?_
    refine va_get (D := (dC, dI)) (ci := 7) (v := .ref (q 3)) (C := RX5) (T := TX5) (N := 13) hx hb hts hiX5 hown hK hP 0 rfl rfl 4 (by decide) hf31 (fun _ h9 => h9) rfl dX5_canBe_4 ?_
    refine va_getN (D := (dC, dI)) (ci := 10) (v := .int (f 3)) (C := RX8) (T := TX8) (N := 6) hx hb hts hiX8 hown hK hP 3 rfl rfl 4 (by decide) nf186 (fun _ h9 => h9) rfl dX5_canBe_7 ?_
    refine lv_icmp_ge (tgt := 67) hx hb dX5_canBe_10 (by decide) (fun hc3 => ?_) (fun hc3 => ?_)
    · replace hw := hw.1 hc3
      refine lv_iconst (v := 1) hx hb dX5_canBe_67 (by decide) ?_
      exact hret dX5_canBe_68 hK hP hD hS isB_1 hw
    · replace hw := hw.2 hc3
      refine lv_iload_n hx hb dX5_canBe_13 rfl (lv_at hl 3 rfl) ?_
      refine lv_aload_n hx hb dX5_canBe_14 rfl (lv_at hl 0 rfl) ?_
      refine va_get (D := (dC, dI)) (ci := 7) (v := .ref (q 3)) (C := RX5) (T := TX5) (N := 13) hx hb hts hiX5 hown hK hP 0 rfl rfl 4 (by decide) hf31 (fun _ h9 => h9) rfl dX5_canBe_15 ?_
      refine va_getN (D := (dC, dI)) (ci := 10) (v := .ref (q 7)) (C := RX8) (T := TX8) (N := 6) hx hb hts hiX8 hown hK hP 3 rfl rfl 3 (by decide) nf189 (fun _ h9 => h9) rfl dX5_canBe_18 ?_
      refine va_alen hx hb hK hP 7 2 rfl rfl (v := (6 : Int32)) rfl dX5_canBe_21 ?_
      refine lv_icmp_ge (tgt := 67) hx hb dX5_canBe_22 (by decide) (fun hc4 => ?_) (fun hc4 => ?_)
      · replace hw := hw.1 hc4
        refine lv_iconst (v := 1) hx hb dX5_canBe_67 (by decide) ?_
        exact hret dX5_canBe_68 hK hP hD hS isB_1 hw
      · replace hw := hw.2 hc4
        refine lv_aload_n hx hb dX5_canBe_25 rfl (lv_at hl 0 rfl) ?_
        refine va_get (D := (dC, dI)) (ci := 7) (v := .ref (q 3)) (C := RX5) (T := TX5) (N := 13) hx hb hts hiX5 hown hK hP 0 rfl rfl 4 (by decide) hf31 (fun _ h9 => h9) rfl dX5_canBe_26 ?_
        refine va_getN (D := (dC, dI)) (ci := 10) (v := .ref (q 7)) (C := RX8) (T := TX8) (N := 6) hx hb hts hiX8 hown hK hP 3 rfl rfl 3 (by decide) nf189 (fun _ h9 => h9) rfl dX5_canBe_29 ?_
        refine lv_iload_n hx hb dX5_canBe_32 rfl (lv_at hl 3 rfl) ?_
        obtain ⟨hb5, hw⟩ := hw
        refine va_aldq hx hb hK hP 7 2 rfl rfl hb5 dX5_canBe_33 ?_
        rcases hn7 : ((sg 0) x1.toNatClampNeg) with _ | y6
        · replace hw := hw.1 hn7
          refine W.eq (congrArg (fun v => F0 m 34 ls (v :: [])) (show va_rf none = Value.null from rfl)) ?_
          refine lv_astoreN (lv' := [(4, .null), (0, .ref (q 0)), (1, .int p0), (2, .ref (qb kd)), (3, .int x1)]) hx hb dX5_canBe_34 hl (by decide) rfl (fun ls hl => ?_)
          refine lv_aloadN hx hb dX5_canBe_36 (lv_at hl 0 rfl) ?_
          replace hw := hw (∀ (H : Heap) (locs : List Loc) (ls : Array Slot), va_P (dC, dI) vwCl ((W_P adK adV cI cB cS q qb n k f t a b sg) ++ va_pl sL (sgF sf)) H → va_D A ((W_P adK adV cI cB cS q qb n k f t a b sg) ++ va_pl sL (sgF sf)) → va_S A s.heap H locs → lv_has ls 5 [(0, .ref (q 0)), (1, .int p0), (2, .ref (qb kd)), (3, .int x1)] → W p l e rmX5_canBe s m args below meth c H locs 0 0 Q (F0 m 61 ls [])) (by
            intro hw H locs ls hP hD hS hl
            obtain ⟨x9, ex9⟩ : ∃ y : Int32, y = x1 + (1 : Int32) := ⟨_, rfl⟩
            replace hw := hw x9 ex9
            refine lv_iinc (v := x9) (lv' := [(3, .int x9), (0, .ref (q 0)), (1, .int p0), (2, .ref (qb kd))]) hx hb dX5_canBe_61 hl (k := 3) rfl (by rw [ex9]; rfl) (by decide) rfl (fun ls hl => ?_)
            refine lv_goto (tgt := 2) hx hb dX5_canBe_64 (by decide) ?_
            exact hw H locs ls hP hD hS (lv_sub hl [1, 2, 3, 0] rfl))
          refine lv_ifnullN (tgt := 61) hx hb dX5_canBe_38 (by decide) ?_
          exact hw H locs ls hP hD hS (lv_sub hl [1, 2, 3, 4] rfl)
        · obtain ⟨hy6, hw⟩ := hw.2 y6 hn7
          refine W.eq (congrArg (fun v => F0 m 34 ls (v :: [])) (show va_rf (some y6) = Value.ref y6 from rfl)) ?_
          refine lv_astore (lv' := [(4, .ref y6), (0, .ref (q 0)), (1, .int p0), (2, .ref (qb kd)), (3, .int x1)]) hx hb dX5_canBe_34 hl (by decide) rfl (fun ls hl => ?_)
          refine lv_aload hx hb dX5_canBe_36 (lv_at hl 0 rfl) ?_
          replace hw := hw (∀ (H : Heap) (locs : List Loc) (ls : Array Slot), va_P (dC, dI) vwCl ((W_P adK adV cI cB cS q qb n k f t a b sg) ++ va_pl sL (sgF sf)) H → va_D A ((W_P adK adV cI cB cS q qb n k f t a b sg) ++ va_pl sL (sgF sf)) → va_S A s.heap H locs → lv_has ls 5 [(0, .ref (q 0)), (1, .int p0), (2, .ref (qb kd)), (3, .int x1)] → W p l e rmX5_canBe s m args below meth c H locs 0 0 Q (F0 m 61 ls [])) (by
            intro hw H locs ls hP hD hS hl
            obtain ⟨x11, ex11⟩ : ∃ y : Int32, y = x1 + (1 : Int32) := ⟨_, rfl⟩
            replace hw := hw x11 ex11
            refine lv_iinc (v := x11) (lv' := [(3, .int x11), (0, .ref (q 0)), (1, .int p0), (2, .ref (qb kd))]) hx hb dX5_canBe_61 hl (k := 3) rfl (by rw [ex11]; rfl) (by decide) rfl (fun ls hl => ?_)
            refine lv_goto (tgt := 2) hx hb dX5_canBe_64 (by decide) ?_
            exact hw H locs ls hP hD hS (lv_sub hl [1, 2, 3, 0] rfl))
          refine lv_ifnull hx hb dX5_canBe_38 ?_
          refine lv_aload hx hb dX5_canBe_41 (lv_at hl 0 rfl) ?_
          refine lv_iload_n hx hb dX5_canBe_43 rfl (lv_at hl 2 rfl) ?_
          refine g_ci (g_J.poolP (W2 := fun u12 : Unit => (W_P adK adV cI cB cS q qb n k f t a b sg)) (pl := va_pl sL (sgF sf)) (PL := fun u12 : Unit => va_pl sL (sgF sf)) (RX := fun u12 : Unit => (W_G adK adV qb )) [((q 0), .inr (7, [.int (nI n), .int (nI k), .ref (q 1), .ref (q 2), .ref (q 3), .ref (q 8), .int (f 0), .ref (q 13), .ref (q 14), .ref (q 15), .int (f 1), .ref (q 17), .int (f 2)])), ((q 1), .inl (cB, (5), .inr (.inr (.inr (.inr (fun i => (kAll i).map qb)))))), ((q 2), .inl (cI, k, .inl (a 0))), ((q 3), .inr (10, [.ref (q 4), .ref (q 5), .ref (q 6), .ref (q 7), .int (f 3), .int (f 4)])), ((q 4), .inl (cB, (k - n), .inr (.inr (.inr (.inr (fun i => ((b 0) i).map qb)))))), ((q 5), .inl (cI, n, .inl (a 1))), ((q 6), .inl (cI, k, .inl (a 2))), ((q 7), .inl (cS, (6), .inr (.inr (.inr (.inr (sg 0)))))), ((q 8), .inr (10, [.ref (q 9), .ref (q 10), .ref (q 11), .ref (q 12), .int (f 5), .int (f 6)])), ((q 9), .inl (cB, (k - n), .inr (.inr (.inr (.inr (fun i => ((b 1) i).map qb)))))), ((q 10), .inl (cI, n, .inl (a 3))), ((q 11), .inl (cI, k, .inl (a 4))), ((q 12), .inl (cS, (6), .inr (.inr (.inr (.inr (sg 1)))))), ((q 13), .inl (cI, k, .inl (a 5))), ((q 14), .inl (cI, k, .inl (a 6))), ((q 15), .inr (8, [.int (nI n), .ref (q 4), .ref (q 16), .ref t, .int (f 7)])), ((q 16), .inl (cI, k, .inl (a 8))), ((q 17), .inl (cI, (10 * n), .inl (a 7)))] [18, 19, 20, 21, 22] [0, 1, 2, 3, 4, 5, 6, 7, 8, 9, 10, 11, 12, 13, 14, 15, 16, 17] [0, 1, 2, 3, 4, 5, 6, 7, 8, 9, 10, 11, 12, 13, 14, 15, 16, 17, 18, 19, 20, 21, 22] rfl (by decide) rfl (by decide) (by decide) (fun _ => rfl) (by decide)) [] hK hP hD hS hA rfl (fun hPc hDc hKc hFc => va_runV (As := [.int p0]) (rest := []) ⟨hx, hb, hml, hown, hts⟩ (t_X7_isOf l dC dI adK adV qb H.size  sL sf y6 hy6 p0 _ hw) (cwV 1 hts gX5_canBe_X7_isOf rfl rfl rfl (by decide +kernel) ⟨Nat.le_of_ble_eq_true rfl, Nat.le_of_ble_eq_true rfl⟩) (g_pVy czb hy6 hPc hDc hKc (czc hZ hS hFc)) rfl rfl hl.1 rfl (lv_room (Nat.le_of_ble_eq_true rfl)) dX5_canBe_44 ⟨Nat.le_of_ble_eq_true rfl, Nat.le_of_ble_eq_true rfl⟩) (fun r13 u12 H locs hw hP hD hS => ?_)
          replace hP : va_P (dC, dI) vwCl ((W_P adK adV cI cB cS q qb n k f t a b sg) ++ va_pl sL (sgF sf)) H := hP
          replace hD : va_D A ((W_P adK adV cI cB cS q qb n k f t a b sg) ++ va_pl sL (sgF sf)) := hD
          refine lv_if_eq (tgt := 61) hx hb dX5_canBe_47 (by decide) (fun hc14 => ?_) (fun hc14 => ?_)
          · replace hw := hw.1 hc14
            exact hw H locs ls hP hD hS (lv_sub hl [1, 2, 3, 4] rfl)
          · replace hw := hw.2 hc14
            refine lv_aload hx hb dX5_canBe_50 (lv_at hl 0 rfl) ?_
            refine lv_aload_n hx hb dX5_canBe_52 rfl (lv_at hl 3 rfl) ?_
            refine g_ci (g_J.poolP (W2 := fun u15 : Unit => (W_P adK adV cI cB cS q qb n k f t a b sg)) (pl := va_pl sL (sgF sf)) (PL := fun u15 : Unit => va_pl sL (sgF sf)) (RX := fun u15 : Unit => (W_G adK adV qb )) [((q 0), .inr (7, [.int (nI n), .int (nI k), .ref (q 1), .ref (q 2), .ref (q 3), .ref (q 8), .int (f 0), .ref (q 13), .ref (q 14), .ref (q 15), .int (f 1), .ref (q 17), .int (f 2)])), ((q 1), .inl (cB, (5), .inr (.inr (.inr (.inr (fun i => (kAll i).map qb)))))), ((q 2), .inl (cI, k, .inl (a 0))), ((q 3), .inr (10, [.ref (q 4), .ref (q 5), .ref (q 6), .ref (q 7), .int (f 3), .int (f 4)])), ((q 4), .inl (cB, (k - n), .inr (.inr (.inr (.inr (fun i => ((b 0) i).map qb)))))), ((q 5), .inl (cI, n, .inl (a 1))), ((q 6), .inl (cI, k, .inl (a 2))), ((q 7), .inl (cS, (6), .inr (.inr (.inr (.inr (sg 0)))))), ((q 8), .inr (10, [.ref (q 9), .ref (q 10), .ref (q 11), .ref (q 12), .int (f 5), .int (f 6)])), ((q 9), .inl (cB, (k - n), .inr (.inr (.inr (.inr (fun i => ((b 1) i).map qb)))))), ((q 10), .inl (cI, n, .inl (a 3))), ((q 11), .inl (cI, k, .inl (a 4))), ((q 12), .inl (cS, (6), .inr (.inr (.inr (.inr (sg 1)))))), ((q 13), .inl (cI, k, .inl (a 5))), ((q 14), .inl (cI, k, .inl (a 6))), ((q 15), .inr (8, [.int (nI n), .ref (q 4), .ref (q 16), .ref t, .int (f 7)])), ((q 16), .inl (cI, k, .inl (a 8))), ((q 17), .inl (cI, (10 * n), .inl (a 7)))] [18, 19, 20, 21, 22] [0, 1, 2, 3, 4, 5, 6, 7, 8, 9, 10, 11, 12, 13, 14, 15, 16, 17] [0, 1, 2, 3, 4, 5, 6, 7, 8, 9, 10, 11, 12, 13, 14, 15, 16, 17, 18, 19, 20, 21, 22] rfl (by decide) rfl (by decide) (by decide) (fun _ => rfl) (by decide)) [] hK hP hD hS hA rfl (fun hPc hDc hKc hFc => va_runV (As := [.ref (qb kd)]) (rest := []) ⟨hx, hb, hml, hown, hts⟩ (t_X7_allows l dC dI adK adV qb H.size  sL sf y6 kd hy6 hkd  _ hw) (cwV 1 hts gX5_canBe_X7_allows rfl rfl rfl (by decide +kernel) ⟨Nat.le_of_ble_eq_true rfl, Nat.le_of_ble_eq_true rfl⟩) (g_pVy czb hy6 hPc hDc hKc (czc hZ hS hFc)) rfl rfl hl.1 rfl (lv_room (Nat.le_of_ble_eq_true rfl)) dX5_canBe_53 ⟨Nat.le_of_ble_eq_true rfl, Nat.le_of_ble_eq_true rfl⟩) (fun r16 u15 H locs hw hP hD hS => ?_)
            replace hP : va_P (dC, dI) vwCl ((W_P adK adV cI cB cS q qb n k f t a b sg) ++ va_pl sL (sgF sf)) H := hP
            replace hD : va_D A ((W_P adK adV cI cB cS q qb n k f t a b sg) ++ va_pl sL (sgF sf)) := hD
            refine lv_if_ne (tgt := 61) hx hb dX5_canBe_56 (by decide) (fun hc17 => ?_) (fun hc17 => ?_)
            · replace hw := hw.1 hc17
              exact hw H locs ls hP hD hS (lv_sub hl [1, 2, 3, 4] rfl)
            · replace hw := hw.2 hc17
              refine lv_iconst (v := 0) hx hb dX5_canBe_59 (by decide) ?_
              exact hret dX5_canBe_60 hK hP hD hS isB_0 hw

def w_X5_sorts (n : Nat) (k : Nat) (q : Nat → Nat) (f : Nat → Int32) (t : Nat) (a : Nat → Nat → Int32) (b : Nat → Nat → Option Nat) (sg : Nat → Nat → Option Nat) (sL : List Nat) (sf : Nat → Nat → Int32)  (p0 : Int32) (Q : Int32 → Unit → Prop) : Prop := (∀ X3 : Int32 → Int32 → Prop, (∀ (x1 : Int32) (x2 : Int32), (((((5 : Int32) ≤ x2) → Q x1 ()) ∧ (¬ ((5 : Int32) ≤ x2) → (vp_in x2 (5)) ∧ ∃ kd6 : Nat, (kAll x2.toNatClampNeg = some kd6) ∧ (kd6 < 5) ∧ w_X5_canBe n k q f t a b sg sL sf kd6 p0 (fun (r8 : Int32) (u7 : Unit) => ∀ J10 : Int32 → Prop, (∀ (x9 : Int32), (∀ x11 : Int32, x11 = x2 + (1 : Int32) → X3 x9 x11) → J10 x9) → (((r8 = 0) → J10 x1) ∧ (¬ (r8 = 0) → ∀ x13 : Int32, x13 = (x1 ||| ((1 : Int32) <<< (x2 &&& 31))) → J10 x13)))))) → X3 x1 x2) → X3 (0 : Int32) (0 : Int32))
abbrev rmX5_sorts : Room := { frames := 4, cells := 0, slots := 0, locals := 107 }
set_option maxHeartbeats 4000000 in
set_option maxRecDepth 100000 in
theorem t_X5_sorts (l : Launch) (dC : Nat → ClassId) (dI : Nat → Nat → Nat) (adK : Nat → Nat) (adV : Nat → Nat) (cI : ClassId) (cB : ClassId) (cS : ClassId) (q : Nat → Nat) (qb : Nat → Nat) (n : Nat) (k : Nat) (sz : Nat) (f : Nat → Int32) (t : Nat) (a : Nat → Nat → Int32) (b : Nat → Nat → Option Nat) (sg : Nat → Nat → Option Nat) (sL : List Nat) (sf : Nat → Nat → Int32)   (p0 : Int32) (Q0 : Int32 → Unit → Prop) (hw : w_X5_sorts n k q f t a b sg sL sf  p0 Q0) : Met l yX5_sorts wsX5_sorts rmX5_sorts (g_pre (cz adK adV) (dC, dI) vwCl [(cI, .int), (cB, .object RX0), (cS, .object RX7)] ((W_P adK adV cI cB cS q qb n k f t a b sg) ++ va_pl sL (sgF sf)) sz [.ref (q 0), .int p0]) (g_qi (dC, dI) vwCl [(cI, .int), (cB, .object RX0), (cS, .object RX7)] (fun u : Unit => ((W_P adK adV cI cB cS q qb n k f t a b sg) ++ va_pl sL (sgF sf))) Q0 (va_A ((W_P adK adV cI cB cS q qb n k f t a b sg) ++ va_pl sL (sgF sf)) sz)) 0 0 (va_A ((W_P adK adV cI cB cS q qb n k f t a b sg) ++ va_pl sL (sgF sf)) sz) := by
  refine g_starti (by decide) rfl (Nat.le_of_ble_eq_true rfl) ?_
  intro p e s m args below meth c A Q ls hx hb hml hown hts hin hK hP hD hA hS hZ hret hl
  obtain ⟨H, eH⟩ : ∃ H : Heap, H = s.heap := ⟨_, rfl⟩
  obtain ⟨locs, eL⟩ : ∃ L : List Loc, L = [] := ⟨_, rfl⟩
  have hS : va_S A s.heap H locs := by rw [eH, eL]; exact hS
  rw [← eH] at hP
  suffices hg : W p l e rmX5_sorts s m args below meth c H locs 0 0 Q (F0 m 0 ls []) by rw [eH, eL] at hg; exact hg
  clear eH eL
  replace hl : lv_has ls 4 [(0, .ref (q 0)), (1, .int p0)] := hl
  have hf9 := hts (.fieldLink RX5 9 "NumberPile$Pile" "kinds" "[LNumberPile$Brick;") (by decide +kernel)
  have hiX5 : ∀ w ∈ u_ws RX5 TX5 13, w ∈ wsX5_sorts := fun w h => List.mem_cons_of_mem _ (List.mem_append_left _ (List.mem_append_left _ (List.mem_append_right _ h)))
  unfold w_X5_sorts at hw
  refine lv_iconst (v := 0) hx hb dX5_sorts_0 (by decide) ?_
  refine lv_istore_n (lv' := [(2, .int (0 : Int32)), (0, .ref (q 0)), (1, .int p0)]) hx hb dX5_sorts_1 rfl hl (by decide) rfl (fun ls hl => ?_)
  refine lv_iconst (v := 0) hx hb dX5_sorts_2 (by decide) ?_
  refine lv_istore_n (lv' := [(3, .int (0 : Int32)), (2, .int (0 : Int32)), (0, .ref (q 0)), (1, .int p0)]) hx hb dX5_sorts_3 rfl hl (by decide) rfl (fun ls hl => ?_)
  refine hw (fun (x1 : Int32) (x2 : Int32) => ∀ (H : Heap) (locs : List Loc) (ls : Array Slot), va_P (dC, dI) vwCl ((W_P adK adV cI cB cS q qb n k f t a b sg) ++ va_pl sL (sgF sf)) H → va_D A ((W_P adK adV cI cB cS q qb n k f t a b sg) ++ va_pl sL (sgF sf)) → va_S A s.heap H locs → lv_has ls 4 [(0, .ref (q 0)), (1, .int p0), (2, .int x1), (3, .int x2)] → W p l e rmX5_sorts s m args below meth c H locs 0 0 Q (F0 m 4 ls [])) ?_ H locs ls hP hD hS (lv_sub hl [2, 3, 1, 0] rfl)
  · intro x1 x2 hw H locs ls hP hD hS hl
    refine lv_iload_n hx hb dX5_sorts_4 rfl (lv_at hl 3 rfl) ?_
    refine lv_aload_n hx hb dX5_sorts_5 rfl (lv_at hl 0 rfl) ?_
    refine va_get (D := (dC, dI)) (ci := 7) (v := .ref (q 1)) (C := RX5) (T := TX5) (N := 13) hx hb hts hiX5 hown hK hP 0 rfl rfl 2 (by decide) hf9 (fun _ h9 => h9) rfl dX5_sorts_6 ?_
    refine va_alen hx hb hK hP 1 1 rfl rfl (v := (5 : Int32)) rfl dX5_sorts_9 ?_
    refine lv_icmp_ge (tgt := 39) hx hb dX5_sorts_10 (by decide) (fun hc4 => ?_) (fun hc4 => ?_)
    · replace hw := hw.1 hc4
      refine lv_iload_n hx hb dX5_sorts_39 rfl (lv_at hl 2 rfl) ?_
      exact hret dX5_sorts_40 hK hP hD hS hw
    · replace hw := hw.2 hc4
      refine lv_aload_n hx hb dX5_sorts_13 rfl (lv_at hl 0 rfl) ?_
      refine lv_iload_n hx hb dX5_sorts_14 rfl (lv_at hl 1 rfl) ?_
      refine lv_aload_n hx hb dX5_sorts_15 rfl (lv_at hl 0 rfl) ?_
      refine va_get (D := (dC, dI)) (ci := 7) (v := .ref (q 1)) (C := RX5) (T := TX5) (N := 13) hx hb hts hiX5 hown hK hP 0 rfl rfl 2 (by decide) hf9 (fun _ h9 => h9) rfl dX5_sorts_16 ?_
      refine lv_iload_n hx hb dX5_sorts_19 rfl (lv_at hl 3 rfl) ?_
      obtain ⟨hb5, hw⟩ := hw
      refine va_aldq hx hb hK hP 1 1 rfl rfl hb5 dX5_sorts_20 ?_
      obtain ⟨kd6, hkd6, gkd6, hw⟩ := hw
      refine W.eq (congrArg (fun v => F0 m 21 ls (v :: [.int p0, .ref (q 0)])) (bk_rf (qb := qb) hkd6)) ?_
      refine g_ci (g_J.poolP (W2 := fun u7 : Unit => (W_P adK adV cI cB cS q qb n k f t a b sg)) (pl := va_pl sL (sgF sf)) (PL := fun u7 : Unit => va_pl sL (sgF sf)) (RX := fun u7 : Unit => (W_P adK adV cI cB cS q qb n k f t a b sg)) [] [0, 1, 2, 3, 4, 5, 6, 7, 8, 9, 10, 11, 12, 13, 14, 15, 16, 17, 18, 19, 20, 21, 22] [] [0, 1, 2, 3, 4, 5, 6, 7, 8, 9, 10, 11, 12, 13, 14, 15, 16, 17, 18, 19, 20, 21, 22] rfl (by decide) rfl (by decide) (by decide) (fun _ => rfl) (by decide)) [0, 1, 2] hK hP hD hS hA rfl (fun hPc hDc hKc hFc => va_runV (As := [.int p0, .ref (qb kd6)]) (rest := []) ⟨hx, hb, hml, hown, hts⟩ (t_X5_canBe l dC dI adK adV cI cB cS q qb n k H.size f t a b sg sL sf kd6 gkd6 p0 _ hw) (cwV 2 hts gX5_sorts_X5_canBe rfl rfl rfl (by decide +kernel) ⟨Nat.le_of_ble_eq_true rfl, Nat.le_of_ble_eq_true rfl⟩) (g_pV czb (q0 := 0) rfl rfl hPc hDc hKc (czc hZ hS hFc)) rfl rfl hl.1 rfl (lv_room (Nat.le_of_ble_eq_true rfl)) dX5_sorts_21 ⟨Nat.le_of_ble_eq_true rfl, Nat.le_of_ble_eq_true rfl⟩) (fun r8 u7 H locs hw hP hD hS => ?_)
      replace hP : va_P (dC, dI) vwCl ((W_P adK adV cI cB cS q qb n k f t a b sg) ++ va_pl sL (sgF sf)) H := hP
      replace hD : va_D A ((W_P adK adV cI cB cS q qb n k f t a b sg) ++ va_pl sL (sgF sf)) := hD
      replace hw := hw (fun (x9 : Int32) => ∀ (H : Heap) (locs : List Loc) (ls : Array Slot), va_P (dC, dI) vwCl ((W_P adK adV cI cB cS q qb n k f t a b sg) ++ va_pl sL (sgF sf)) H → va_D A ((W_P adK adV cI cB cS q qb n k f t a b sg) ++ va_pl sL (sgF sf)) → va_S A s.heap H locs → lv_has ls 4 [(0, .ref (q 0)), (1, .int p0), (2, .int x9), (3, .int x2)] → W p l e rmX5_sorts s m args below meth c H locs 0 0 Q (F0 m 33 ls [])) (by
        intro x9 hw H locs ls hP hD hS hl
        obtain ⟨x11, ex11⟩ : ∃ y : Int32, y = x2 + (1 : Int32) := ⟨_, rfl⟩
        replace hw := hw x11 ex11
        refine lv_iinc (v := x11) (lv' := [(3, .int x11), (0, .ref (q 0)), (1, .int p0), (2, .int x9)]) hx hb dX5_sorts_33 hl (k := 3) rfl (by rw [ex11]; rfl) (by decide) rfl (fun ls hl => ?_)
        refine lv_goto (tgt := 4) hx hb dX5_sorts_36 (by decide) ?_
        exact hw H locs ls hP hD hS (lv_sub hl [1, 2, 3, 0] rfl))
      refine lv_if_eq (tgt := 33) hx hb dX5_sorts_24 (by decide) (fun hc12 => ?_) (fun hc12 => ?_)
      · replace hw := hw.1 hc12
        exact hw H locs ls hP hD hS (lv_sub hl [0, 1, 2, 3] rfl)
      · replace hw := hw.2 hc12
        refine lv_iload_n hx hb dX5_sorts_27 rfl (lv_at hl 2 rfl) ?_
        refine lv_iconst (v := 1) hx hb dX5_sorts_28 (by decide) ?_
        refine lv_iload_n hx hb dX5_sorts_29 rfl (lv_at hl 3 rfl) ?_
        refine lv_ishl hx hb dX5_sorts_30 ?_
        refine lv_ior hx hb dX5_sorts_31 ?_
        refine lv_topi (fun x13 ex13 => ?_)
        replace hw := hw x13 ex13
        refine lv_istore_n (lv' := [(2, .int x13), (0, .ref (q 0)), (1, .int p0), (3, .int x2)]) hx hb dX5_sorts_32 rfl hl (by decide) rfl (fun ls hl => ?_)
        exact hw H locs ls hP hD hS (lv_sub hl [1, 2, 0, 3] rfl)

def w_X5_kindOf (n : Nat) (k : Nat) (q : Nat → Nat) (f : Nat → Int32) (t : Nat) (a : Nat → Nat → Int32) (b : Nat → Nat → Option Nat) (sg : Nat → Nat → Option Nat) (sL : List Nat) (sf : Nat → Nat → Int32)  (p0 : Int32) (Q : Nat → Prop) : Prop := (vp_in (p0 - (nI n)) (k - n)) ∧ ∃ kd2 : Nat, ((b 0) (p0 - (nI n)).toNatClampNeg = some kd2) ∧ (kd2 < 5) ∧ Q kd2
abbrev rmX5_kindOf : Room := { frames := 0, cells := 0, slots := 0, locals := 0 }
set_option maxHeartbeats 4000000 in
set_option maxRecDepth 100000 in
theorem t_X5_kindOf (l : Launch) (dC : Nat → ClassId) (dI : Nat → Nat → Nat) (adK : Nat → Nat) (adV : Nat → Nat) (cI : ClassId) (cB : ClassId) (cS : ClassId) (q : Nat → Nat) (qb : Nat → Nat) (n : Nat) (k : Nat) (sz : Nat) (f : Nat → Int32) (t : Nat) (a : Nat → Nat → Int32) (b : Nat → Nat → Option Nat) (sg : Nat → Nat → Option Nat) (sL : List Nat) (sf : Nat → Nat → Int32)   (p0 : Int32) (Q0 : Nat → Prop) (hw : w_X5_kindOf n k q f t a b sg sL sf  p0 Q0) : Met l yX5_kindOf wsX5_kindOf rmX5_kindOf (g_pre (cz adK adV) (dC, dI) vwCl [(cI, .int), (cB, .object RX0), (cS, .object RX7)] ((W_P adK adV cI cB cS q qb n k f t a b sg) ++ va_pl sL (sgF sf)) sz [.ref (q 0), .int p0]) (g_qr (dC, dI) vwCl [(cI, .int), (cB, .object RX0), (cS, .object RX7)] (fun u : Nat => ((W_P adK adV cI cB cS q qb n k f t a b sg) ++ va_pl sL (sgF sf))) (fun u : Nat => qb u) Q0 (va_A ((W_P adK adV cI cB cS q qb n k f t a b sg) ++ va_pl sL (sgF sf)) sz)) 0 0 (va_A ((W_P adK adV cI cB cS q qb n k f t a b sg) ++ va_pl sL (sgF sf)) sz) := by
  refine g_startr (Or.inl ⟨_, rfl⟩) (by decide) rfl (Nat.le_of_ble_eq_true rfl) ?_
  intro p e s m args below meth c A Q ls hx hb hml hown hts hin hK hP hD hA hS hZ hret hl
  obtain ⟨H, eH⟩ : ∃ H : Heap, H = s.heap := ⟨_, rfl⟩
  obtain ⟨locs, eL⟩ : ∃ L : List Loc, L = [] := ⟨_, rfl⟩
  have hS : va_S A s.heap H locs := by rw [eH, eL]; exact hS
  rw [← eH] at hP
  suffices hg : W p l e rmX5_kindOf s m args below meth c H locs 0 0 Q (F0 m 0 ls []) by rw [eH, eL] at hg; exact hg
  clear eH eL
  replace hl : lv_has ls 2 [(0, .ref (q 0)), (1, .int p0)] := hl
  have hf31 := hts (.fieldLink RX5 31 "NumberPile$Pile" "now" "LNumberPile$State;") (by decide +kernel)
  have hiX5 : ∀ w ∈ u_ws RX5 TX5 13, w ∈ wsX5_kindOf := fun w h => List.mem_cons_of_mem _ (List.mem_append_left _ (List.mem_append_right _ h))
  have nf49 := va_Nw.use (A := args) rfl (hZ.1 _ (List.mem_of_getElem? (i := 21) (rfl : cz_nest[21]? = some (.fieldLinkNest RX5 49 "NumberPile$State" "above" "[LNumberPile$Brick;" "NumberPile"))))
  have hiX8 : ∀ w ∈ u_ws RX8 TX8 6, w ∈ wsX5_kindOf := fun w h => List.mem_cons_of_mem _ (List.mem_append_right _ h)
  have hf15 := hts (.fieldLink RX5 15 "NumberPile$Pile" "wide" "I") (by decide +kernel)
  unfold w_X5_kindOf at hw
  refine lv_aload_n hx hb dX5_kindOf_0 rfl (lv_at hl 0 rfl) ?_
  refine va_get (D := (dC, dI)) (ci := 7) (v := .ref (q 3)) (C := RX5) (T := TX5) (N := 13) hx hb hts hiX5 hown hK hP 0 rfl rfl 4 (by decide) hf31 (fun _ h9 => h9) rfl dX5_kindOf_1 ?_
  refine va_getN (D := (dC, dI)) (ci := 10) (v := .ref (q 4)) (C := RX8) (T := TX8) (N := 6) hx hb hts hiX8 hown hK hP 3 rfl rfl 0 (by decide) nf49 (fun _ h9 => h9) rfl dX5_kindOf_4 ?_
  refine lv_iload_n hx hb dX5_kindOf_7 rfl (lv_at hl 1 rfl) ?_
  refine lv_aload_n hx hb dX5_kindOf_8 rfl (lv_at hl 0 rfl) ?_
  refine va_get (D := (dC, dI)) (ci := 7) (v := .int (nI n)) (C := RX5) (T := TX5) (N := 13) hx hb hts hiX5 hown hK hP 0 rfl rfl 0 (by decide) hf15 (fun _ h9 => h9) rfl dX5_kindOf_9 ?_
  refine lv_isub hx hb dX5_kindOf_12 ?_
  obtain ⟨hb1, hw⟩ := hw
  refine va_aldq hx hb hK hP 4 1 rfl rfl hb1 dX5_kindOf_13 ?_
  obtain ⟨kd2, hkd2, gkd2, hw⟩ := hw
  refine W.eq (congrArg (fun v => F0 m 14 ls (v :: [])) (bk_rf (qb := qb) hkd2)) ?_
  exact hret (u := kd2) dX5_kindOf_14 hK hP hD hS hw

def w_X8_takeFrom (n : Nat) (k : Nat) (oA : Nat → Option Nat) (oF : Nat → Int32) (oT : Nat → Int32) (oS : Nat → Option Nat) (os : Int32) (oc : Int32) (tA : Nat → Option Nat) (tF : Nat → Int32) (tT : Nat → Int32) (tS : Nat → Option Nat) (ts : Int32) (tc : Int32) (sL : List Nat) (sf : Nat → Nat → Int32)   (Q : ((Nat → Option Nat) × (Nat → Int32) × (Nat → Int32) × (Nat → Option Nat) × (Int32) × (Int32)) → Prop) : Prop := (∀ X4 : Int32 → (Nat → Option Nat) → (Nat → Option Nat) → Prop, (∀ (x1 : Int32) (tAv2 : (Nat → Option Nat)) (tSv3 : (Nat → Option Nat)), (∀ J5 : Prop, (((∀ X9 : Int32 → (Nat → Option Nat) → (Nat → Option Nat) → Prop, (∀ (x6 : Int32) (tAv7 : (Nat → Option Nat)) (tSv8 : (Nat → Option Nat)), (∀ J10 : Prop, ((((¬ (0 : Int32) < 0) ∧ (¬ (0 : Int32) < 0) ∧ (¬ (nI n) < 0) ∧ ((0 : Int32).toNatClampNeg + (nI n).toNatClampNeg ≤ n) ∧ ((0 : Int32).toNatClampNeg + (nI n).toNatClampNeg ≤ n)) ∧ ((¬ (0 : Int32) < 0) ∧ (¬ (0 : Int32) < 0) ∧ (¬ (nI k) < 0) ∧ ((0 : Int32).toNatClampNeg + (nI k).toNatClampNeg ≤ k) ∧ ((0 : Int32).toNatClampNeg + (nI k).toNatClampNeg ≤ k)) ∧ Q (tAv7, (va_cpy oF tF (0 : Int32).toNatClampNeg (0 : Int32).toNatClampNeg (nI n).toNatClampNeg), (va_cpy oT tT (0 : Int32).toNatClampNeg (0 : Int32).toNatClampNeg (nI k).toNatClampNeg), tSv8, os, oc)) → J10) → ((((6 : Int32) ≤ x6) → J10) ∧ (¬ ((6 : Int32) ≤ x6) → ((((6 : Int32) ≤ x6) → J10) ∧ (¬ ((6 : Int32) ≤ x6) → (vp_in x6 (6)) ∧ (((oS x6.toNatClampNeg = none) → (vp_in x6 (6)) ∧ ∀ x27 : Int32, x27 = x6 + (1 : Int32) → X9 x27 tAv7 (va_up tSv8 x6.toNatClampNeg none)) ∧ (∀ y24 : Nat, oS x6.toNatClampNeg = some y24 → (y24 ∈ sL) ∧ (vp_in x6 (6)) ∧ ∀ x30 : Int32, x30 = x6 + (1 : Int32) → X9 x30 tAv7 (va_up tSv8 x6.toNatClampNeg (some y24))))))))) → X9 x6 tAv7 tSv8) → X9 (0 : Int32) tAv2 tSv3)) → J5) → ((((nI (k - n)) ≤ x1) → J5) ∧ (¬ ((nI (k - n)) ≤ x1) → ((((nI (k - n)) ≤ x1) → J5) ∧ (¬ ((nI (k - n)) ≤ x1) → (vp_in x1 (k - n)) ∧ ∃ kd34 : Nat, (oA x1.toNatClampNeg = some kd34) ∧ (kd34 < 5) ∧ (vp_in x1 (k - n)) ∧ ∀ x36 : Int32, x36 = x1 + (1 : Int32) → X4 x36 (va_up tAv2 x1.toNatClampNeg (some kd34)) tSv3))))) → X4 x1 tAv2 tSv3) → X4 (0 : Int32) tA tS)
abbrev rmX8_takeFrom : Room := { frames := 1, cells := 0, slots := 0, locals := 60 }
set_option maxHeartbeats 4000000 in
set_option maxRecDepth 100000 in
theorem t_X8_takeFrom (l : Launch) (dC : Nat → ClassId) (dI : Nat → Nat → Nat) (adK : Nat → Nat) (adV : Nat → Nat) (cI : ClassId) (cB : ClassId) (cS : ClassId) (h : Nat) (h1 : Nat) (h2 : Nat) (h3 : Nat) (h4 : Nat) (g : Nat) (g1 : Nat) (g2 : Nat) (g3 : Nat) (g4 : Nat) (qb : Nat → Nat) (n : Nat) (k : Nat) (oA : Nat → Option Nat) (oF : Nat → Int32) (oT : Nat → Int32) (oS : Nat → Option Nat) (os : Int32) (oc : Int32) (sz : Nat) (tA : Nat → Option Nat) (tF : Nat → Int32) (tT : Nat → Int32) (tS : Nat → Option Nat) (ts : Int32) (tc : Int32) (sL : List Nat) (sf : Nat → Nat → Int32)    (Q0 : ((Nat → Option Nat) × (Nat → Int32) × (Nat → Int32) × (Nat → Option Nat) × (Int32) × (Int32)) → Prop) (hw : w_X8_takeFrom n k oA oF oT oS os oc tA tF tT tS ts tc sL sf   Q0) : Met l yX8_takeFrom wsX8_takeFrom rmX8_takeFrom (g_pre (cz adK adV) (dC, dI) vwCl [(cI, .int), (cB, .object RX0), (cS, .object RX7)] ((W_TS adK adV cI cB cS h h1 h2 h3 h4 g g1 g2 g3 g4 qb n k oA oF oT oS os oc tA tF tT tS ts tc) ++ va_pl sL (sgF sf)) sz [.ref h, .ref g]) (g_qv (dC, dI) vwCl [(cI, .int), (cB, .object RX0), (cS, .object RX7)] (fun u : ((Nat → Option Nat) × (Nat → Int32) × (Nat → Int32) × (Nat → Option Nat) × (Int32) × (Int32)) => ((W_TS adK adV cI cB cS h h1 h2 h3 h4 g g1 g2 g3 g4 qb n k oA oF oT oS os oc (u.1) (u.2.1) (u.2.2.1) (u.2.2.2.1) (u.2.2.2.2.1) (u.2.2.2.2.2)) ++ va_pl sL (sgF sf))) Q0 (va_A ((W_TS adK adV cI cB cS h h1 h2 h3 h4 g g1 g2 g3 g4 qb n k oA oF oT oS os oc tA tF tT tS ts tc) ++ va_pl sL (sgF sf)) sz)) 0 0 (va_A ((W_TS adK adV cI cB cS h h1 h2 h3 h4 g g1 g2 g3 g4 qb n k oA oF oT oS os oc tA tF tT tS ts tc) ++ va_pl sL (sgF sf)) sz) := by
  refine g_startv (by decide) rfl (Nat.le_of_ble_eq_true rfl) ?_
  intro p e s m args below meth c A Q ls hx hb hml hown hts hin hK hP hD hA hS hZ hret hl
  obtain ⟨H, eH⟩ : ∃ H : Heap, H = s.heap := ⟨_, rfl⟩
  obtain ⟨locs, eL⟩ : ∃ L : List Loc, L = [] := ⟨_, rfl⟩
  have hS : va_S A s.heap H locs := by rw [eH, eL]; exact hS
  rw [← eH] at hP
  suffices hg : W p l e rmX8_takeFrom s m args below meth c H locs 0 0 Q (F0 m 0 ls []) by rw [eH, eL] at hg; exact hg
  clear eH eL
  replace hl : lv_has ls 3 [(0, .ref h), (1, .ref g)] := hl
  have hf11 := hts (.fieldLink RX8 11 "NumberPile$State" "above" "[LNumberPile$Brick;") (by decide +kernel)
  have hiX8 : ∀ w ∈ u_ws RX8 TX8 6, w ∈ wsX8_takeFrom := fun w h => List.mem_cons_of_mem _ (List.mem_append_right _ h)
  have hf32 := hts (.fieldLink RX8 32 "NumberPile$State" "seen" "[LNumberPile$Sight;") (by decide +kernel)
  have hf17 := hts (.fieldLink RX8 17 "NumberPile$State" "figures" "[I") (by decide +kernel)
  have al40 := hts (.methodLink RX8 40 arraycopyName) (by decide +kernel)
  have acn := hts (.native arraycopyName) (by decide +kernel)
  have acs := hts (.static arraycopyName) (by decide +kernel)
  have aci := hts (.initialized "java/lang/System") (by decide +kernel)
  have hf21 := hts (.fieldLink RX8 21 "NumberPile$State" "told" "[I") (by decide +kernel)
  have hf36 := hts (.fieldLink RX8 36 "NumberPile$State" "sights" "I") (by decide +kernel)
  have hf46 := hts (.fieldLink RX8 46 "NumberPile$State" "changes" "I") (by decide +kernel)
  unfold w_X8_takeFrom at hw
  refine lv_iconst (v := 0) hx hb dX8_takeFrom_0 (by decide) ?_
  refine lv_istore_n (lv' := [(2, .int (0 : Int32)), (0, .ref h), (1, .ref g)]) hx hb dX8_takeFrom_1 rfl hl (by decide) rfl (fun ls hl => ?_)
  refine hw (fun (x1 : Int32) (tAv2 : (Nat → Option Nat)) (tSv3 : (Nat → Option Nat)) => ∀ (H : Heap) (locs : List Loc) (ls : Array Slot), va_P (dC, dI) vwCl ((W_TS adK adV cI cB cS h h1 h2 h3 h4 g g1 g2 g3 g4 qb n k oA oF oT oS os oc tAv2 tF tT tSv3 ts tc) ++ va_pl sL (sgF sf)) H → va_D A ((W_TS adK adV cI cB cS h h1 h2 h3 h4 g g1 g2 g3 g4 qb n k oA oF oT oS os oc tAv2 tF tT tSv3 ts tc) ++ va_pl sL (sgF sf)) → va_S A s.heap H locs → lv_has ls 3 [(0, .ref h), (1, .ref g), (2, .int x1)] → W p l e rmX8_takeFrom s m args below meth c H locs 0 0 Q (F0 m 2 ls [])) ?_ H locs ls hP hD hS (lv_sub hl [1, 2, 0] rfl)
  · intro x1 tAv2 tSv3 hw H locs ls hP hD hS hl
    refine lv_iload_n hx hb dX8_takeFrom_2 rfl (lv_at hl 2 rfl) ?_
    refine lv_aload_n hx hb dX8_takeFrom_3 rfl (lv_at hl 0 rfl) ?_
    refine va_get (D := (dC, dI)) (ci := 10) (v := .ref h1) (C := RX8) (T := TX8) (N := 6) hx hb hts hiX8 hown hK hP 0 rfl rfl 0 (by decide) hf11 (fun _ h9 => h9) rfl dX8_takeFrom_4 ?_
    refine va_alen hx hb hK hP 1 1 rfl rfl (v := (nI (k - n))) rfl dX8_takeFrom_7 ?_
    replace hw := hw (∀ (H : Heap) (locs : List Loc) (ls : Array Slot), va_P (dC, dI) vwCl ((W_TS adK adV cI cB cS h h1 h2 h3 h4 g g1 g2 g3 g4 qb n k oA oF oT oS os oc tAv2 tF tT tSv3 ts tc) ++ va_pl sL (sgF sf)) H → va_D A ((W_TS adK adV cI cB cS h h1 h2 h3 h4 g g1 g2 g3 g4 qb n k oA oF oT oS os oc tAv2 tF tT tSv3 ts tc) ++ va_pl sL (sgF sf)) → va_S A s.heap H locs → lv_has ls 3 [(0, .ref h), (1, .ref g)] → W p l e rmX8_takeFrom s m args below meth c H locs 0 0 Q (F0 m 38 ls [])) (by
      intro hw H locs ls hP hD hS hl
      refine lv_iconst (v := 0) hx hb dX8_takeFrom_38 (by decide) ?_
      refine lv_istore_n (lv' := [(2, .int (0 : Int32)), (0, .ref h), (1, .ref g)]) hx hb dX8_takeFrom_39 rfl hl (by decide) rfl (fun ls hl => ?_)
      refine hw (fun (x6 : Int32) (tAv7 : (Nat → Option Nat)) (tSv8 : (Nat → Option Nat)) => ∀ (H : Heap) (locs : List Loc) (ls : Array Slot), va_P (dC, dI) vwCl ((W_TS adK adV cI cB cS h h1 h2 h3 h4 g g1 g2 g3 g4 qb n k oA oF oT oS os oc tAv7 tF tT tSv8 ts tc) ++ va_pl sL (sgF sf)) H → va_D A ((W_TS adK adV cI cB cS h h1 h2 h3 h4 g g1 g2 g3 g4 qb n k oA oF oT oS os oc tAv7 tF tT tSv8 ts tc) ++ va_pl sL (sgF sf)) → va_S A s.heap H locs → lv_has ls 3 [(0, .ref h), (1, .ref g), (2, .int x6)] → W p l e rmX8_takeFrom s m args below meth c H locs 0 0 Q (F0 m 40 ls [])) ?_ H locs ls hP hD hS (lv_sub hl [1, 2, 0] rfl)
      · intro x6 tAv7 tSv8 hw H locs ls hP hD hS hl
        refine lv_iload_n hx hb dX8_takeFrom_40 rfl (lv_at hl 2 rfl) ?_
        refine lv_aload_n hx hb dX8_takeFrom_41 rfl (lv_at hl 0 rfl) ?_
        refine va_get (D := (dC, dI)) (ci := 10) (v := .ref h4) (C := RX8) (T := TX8) (N := 6) hx hb hts hiX8 hown hK hP 0 rfl rfl 3 (by decide) hf32 (fun _ h9 => h9) rfl dX8_takeFrom_42 ?_
        refine va_alen hx hb hK hP 4 2 rfl rfl (v := (6 : Int32)) rfl dX8_takeFrom_45 ?_
        replace hw := hw (∀ (H : Heap) (locs : List Loc) (ls : Array Slot), va_P (dC, dI) vwCl ((W_TS adK adV cI cB cS h h1 h2 h3 h4 g g1 g2 g3 g4 qb n k oA oF oT oS os oc tAv7 tF tT tSv8 ts tc) ++ va_pl sL (sgF sf)) H → va_D A ((W_TS adK adV cI cB cS h h1 h2 h3 h4 g g1 g2 g3 g4 qb n k oA oF oT oS os oc tAv7 tF tT tSv8 ts tc) ++ va_pl sL (sgF sf)) → va_S A s.heap H locs → lv_has ls 3 [(0, .ref h), (1, .ref g)] → W p l e rmX8_takeFrom s m args below meth c H locs 0 0 Q (F0 m 76 ls [])) (by
          intro hw H locs ls hP hD hS hl
          refine lv_aload_n hx hb dX8_takeFrom_76 rfl (lv_at hl 1 rfl) ?_
          refine va_get (D := (dC, dI)) (ci := 10) (v := .ref g2) (C := RX8) (T := TX8) (N := 6) hx hb hts hiX8 hown hK hP 5 rfl rfl 1 (by decide) hf17 (fun _ h9 => h9) rfl dX8_takeFrom_77 ?_
          refine lv_iconst (v := 0) hx hb dX8_takeFrom_80 (by decide) ?_
          refine lv_aload_n hx hb dX8_takeFrom_81 rfl (lv_at hl 0 rfl) ?_
          refine va_get (D := (dC, dI)) (ci := 10) (v := .ref h2) (C := RX8) (T := TX8) (N := 6) hx hb hts hiX8 hown hK hP 0 rfl rfl 1 (by decide) hf17 (fun _ h9 => h9) rfl dX8_takeFrom_82 ?_
          refine lv_iconst (v := 0) hx hb dX8_takeFrom_85 (by decide) ?_
          refine lv_aload_n hx hb dX8_takeFrom_86 rfl (lv_at hl 0 rfl) ?_
          refine va_get (D := (dC, dI)) (ci := 10) (v := .ref h2) (C := RX8) (T := TX8) (N := 6) hx hb hts hiX8 hown hK hP 0 rfl rfl 1 (by decide) hf17 (fun _ h9 => h9) rfl dX8_takeFrom_87 ?_
          refine va_alen hx hb hK hP 2 0 rfl rfl (v := (nI n)) rfl dX8_takeFrom_90 ?_
          obtain ⟨⟨hc11, hc12, hc13, hc14, hc15⟩, hw⟩ := hw
          refine va_copyi hx hb (hml.trans hl.1.symm) hown al40 acn acs aci hK hP hD hS 7 2 0 0 rfl rfl rfl rfl rfl hc11 hc12 hc13 hc14 hc15 (fun _ _ => rfl) (Nat.le_of_ble_eq_true rfl) (Nat.le_of_ble_eq_true rfl) dX8_takeFrom_91 (fun H locs hP hD hS => ?_)
          replace hP : va_P (dC, dI) vwCl ((W_TS adK adV cI cB cS h h1 h2 h3 h4 g g1 g2 g3 g4 qb n k oA oF oT oS os oc tAv7 (va_cpy oF tF (0 : Int32).toNatClampNeg (0 : Int32).toNatClampNeg (nI n).toNatClampNeg) tT tSv8 ts tc) ++ va_pl sL (sgF sf)) H := hP
          replace hD : va_D A ((W_TS adK adV cI cB cS h h1 h2 h3 h4 g g1 g2 g3 g4 qb n k oA oF oT oS os oc tAv7 (va_cpy oF tF (0 : Int32).toNatClampNeg (0 : Int32).toNatClampNeg (nI n).toNatClampNeg) tT tSv8 ts tc) ++ va_pl sL (sgF sf)) := hD
          refine lv_aload_n hx hb dX8_takeFrom_94 rfl (lv_at hl 1 rfl) ?_
          refine va_get (D := (dC, dI)) (ci := 10) (v := .ref g3) (C := RX8) (T := TX8) (N := 6) hx hb hts hiX8 hown hK hP 5 rfl rfl 2 (by decide) hf21 (fun _ h9 => h9) rfl dX8_takeFrom_95 ?_
          refine lv_iconst (v := 0) hx hb dX8_takeFrom_98 (by decide) ?_
          refine lv_aload_n hx hb dX8_takeFrom_99 rfl (lv_at hl 0 rfl) ?_
          refine va_get (D := (dC, dI)) (ci := 10) (v := .ref h3) (C := RX8) (T := TX8) (N := 6) hx hb hts hiX8 hown hK hP 0 rfl rfl 2 (by decide) hf21 (fun _ h9 => h9) rfl dX8_takeFrom_100 ?_
          refine lv_iconst (v := 0) hx hb dX8_takeFrom_103 (by decide) ?_
          refine lv_aload_n hx hb dX8_takeFrom_104 rfl (lv_at hl 0 rfl) ?_
          refine va_get (D := (dC, dI)) (ci := 10) (v := .ref h3) (C := RX8) (T := TX8) (N := 6) hx hb hts hiX8 hown hK hP 0 rfl rfl 2 (by decide) hf21 (fun _ h9 => h9) rfl dX8_takeFrom_105 ?_
          refine va_alen hx hb hK hP 3 0 rfl rfl (v := (nI k)) rfl dX8_takeFrom_108 ?_
          obtain ⟨⟨hc16, hc17, hc18, hc19, hc20⟩, hw⟩ := hw
          refine va_copyi hx hb (hml.trans hl.1.symm) hown al40 acn acs aci hK hP hD hS 8 3 0 0 rfl rfl rfl rfl rfl hc16 hc17 hc18 hc19 hc20 (fun _ _ => rfl) (Nat.le_of_ble_eq_true rfl) (Nat.le_of_ble_eq_true rfl) dX8_takeFrom_109 (fun H locs hP hD hS => ?_)
          replace hP : va_P (dC, dI) vwCl ((W_TS adK adV cI cB cS h h1 h2 h3 h4 g g1 g2 g3 g4 qb n k oA oF oT oS os oc tAv7 (va_cpy oF tF (0 : Int32).toNatClampNeg (0 : Int32).toNatClampNeg (nI n).toNatClampNeg) (va_cpy oT tT (0 : Int32).toNatClampNeg (0 : Int32).toNatClampNeg (nI k).toNatClampNeg) tSv8 ts tc) ++ va_pl sL (sgF sf)) H := hP
          replace hD : va_D A ((W_TS adK adV cI cB cS h h1 h2 h3 h4 g g1 g2 g3 g4 qb n k oA oF oT oS os oc tAv7 (va_cpy oF tF (0 : Int32).toNatClampNeg (0 : Int32).toNatClampNeg (nI n).toNatClampNeg) (va_cpy oT tT (0 : Int32).toNatClampNeg (0 : Int32).toNatClampNeg (nI k).toNatClampNeg) tSv8 ts tc) ++ va_pl sL (sgF sf)) := hD
          refine lv_aload_n hx hb dX8_takeFrom_112 rfl (lv_at hl 0 rfl) ?_
          refine lv_aload_n hx hb dX8_takeFrom_113 rfl (lv_at hl 1 rfl) ?_
          refine va_get (D := (dC, dI)) (ci := 10) (v := .int os) (C := RX8) (T := TX8) (N := 6) hx hb hts hiX8 hown hK hP 5 rfl rfl 4 (by decide) hf36 (fun _ h9 => h9) rfl dX8_takeFrom_114 ?_
          refine va_put (D := (dC, dI)) (ci := 10) (v := .int os) (ty := (.int)) (C := RX8) (T := TX8) (N := 6) hx hb hts hiX8 tyX8 tyX8_ok nmX8 hown hK hP hD hS 0 rfl rfl 4 (by decide) hf36 (fun _ h9 => h9) rfl (by decide +kernel) rfl rfl (Nat.le_of_ble_eq_true rfl) dX8_takeFrom_117 (fun H locs hP hD hS => ?_)
          replace hP : va_P (dC, dI) vwCl ((W_TS adK adV cI cB cS h h1 h2 h3 h4 g g1 g2 g3 g4 qb n k oA oF oT oS os oc tAv7 (va_cpy oF tF (0 : Int32).toNatClampNeg (0 : Int32).toNatClampNeg (nI n).toNatClampNeg) (va_cpy oT tT (0 : Int32).toNatClampNeg (0 : Int32).toNatClampNeg (nI k).toNatClampNeg) tSv8 os tc) ++ va_pl sL (sgF sf)) H := hP
          replace hD : va_D A ((W_TS adK adV cI cB cS h h1 h2 h3 h4 g g1 g2 g3 g4 qb n k oA oF oT oS os oc tAv7 (va_cpy oF tF (0 : Int32).toNatClampNeg (0 : Int32).toNatClampNeg (nI n).toNatClampNeg) (va_cpy oT tT (0 : Int32).toNatClampNeg (0 : Int32).toNatClampNeg (nI k).toNatClampNeg) tSv8 os tc) ++ va_pl sL (sgF sf)) := hD
          refine lv_aload_n hx hb dX8_takeFrom_120 rfl (lv_at hl 0 rfl) ?_
          refine lv_aload_n hx hb dX8_takeFrom_121 rfl (lv_at hl 1 rfl) ?_
          refine va_get (D := (dC, dI)) (ci := 10) (v := .int oc) (C := RX8) (T := TX8) (N := 6) hx hb hts hiX8 hown hK hP 5 rfl rfl 5 (by decide) hf46 (fun _ h9 => h9) rfl dX8_takeFrom_122 ?_
          refine va_put (D := (dC, dI)) (ci := 10) (v := .int oc) (ty := (.int)) (C := RX8) (T := TX8) (N := 6) hx hb hts hiX8 tyX8 tyX8_ok nmX8 hown hK hP hD hS 0 rfl rfl 5 (by decide) hf46 (fun _ h9 => h9) rfl (by decide +kernel) rfl rfl (Nat.le_of_ble_eq_true rfl) dX8_takeFrom_125 (fun H locs hP hD hS => ?_)
          replace hP : va_P (dC, dI) vwCl ((W_TS adK adV cI cB cS h h1 h2 h3 h4 g g1 g2 g3 g4 qb n k oA oF oT oS os oc tAv7 (va_cpy oF tF (0 : Int32).toNatClampNeg (0 : Int32).toNatClampNeg (nI n).toNatClampNeg) (va_cpy oT tT (0 : Int32).toNatClampNeg (0 : Int32).toNatClampNeg (nI k).toNatClampNeg) tSv8 os oc) ++ va_pl sL (sgF sf)) H := hP
          replace hD : va_D A ((W_TS adK adV cI cB cS h h1 h2 h3 h4 g g1 g2 g3 g4 qb n k oA oF oT oS os oc tAv7 (va_cpy oF tF (0 : Int32).toNatClampNeg (0 : Int32).toNatClampNeg (nI n).toNatClampNeg) (va_cpy oT tT (0 : Int32).toNatClampNeg (0 : Int32).toNatClampNeg (nI k).toNatClampNeg) tSv8 os oc) ++ va_pl sL (sgF sf)) := hD
          exact hret dX8_takeFrom_128 hK hP hD hS hw)
        refine lv_icmp_ge (tgt := 76) hx hb dX8_takeFrom_46 (by decide) (fun hc21 => ?_) (fun hc21 => ?_)
        · replace hw := hw.1 hc21
          exact hw H locs ls hP hD hS (lv_sub hl [0, 1] rfl)
        · replace hw := hw.2 hc21
          refine lv_iload_n hx hb dX8_takeFrom_49 rfl (lv_at hl 2 rfl) ?_
          refine lv_aload_n hx hb dX8_takeFrom_50 rfl (lv_at hl 1 rfl) ?_
          refine va_get (D := (dC, dI)) (ci := 10) (v := .ref g4) (C := RX8) (T := TX8) (N := 6) hx hb hts hiX8 hown hK hP 5 rfl rfl 3 (by decide) hf32 (fun _ h9 => h9) rfl dX8_takeFrom_51 ?_
          refine va_alen hx hb hK hP 9 2 rfl rfl (v := (6 : Int32)) rfl dX8_takeFrom_54 ?_
          refine lv_icmp_ge (tgt := 76) hx hb dX8_takeFrom_55 (by decide) (fun hc22 => ?_) (fun hc22 => ?_)
          · replace hw := hw.1 hc22
            exact hw H locs ls hP hD hS (lv_sub hl [0, 1] rfl)
          · replace hw := hw.2 hc22
            refine lv_aload_n hx hb dX8_takeFrom_58 rfl (lv_at hl 0 rfl) ?_
            refine va_get (D := (dC, dI)) (ci := 10) (v := .ref h4) (C := RX8) (T := TX8) (N := 6) hx hb hts hiX8 hown hK hP 0 rfl rfl 3 (by decide) hf32 (fun _ h9 => h9) rfl dX8_takeFrom_59 ?_
            refine lv_iload_n hx hb dX8_takeFrom_62 rfl (lv_at hl 2 rfl) ?_
            refine lv_aload_n hx hb dX8_takeFrom_63 rfl (lv_at hl 1 rfl) ?_
            refine va_get (D := (dC, dI)) (ci := 10) (v := .ref g4) (C := RX8) (T := TX8) (N := 6) hx hb hts hiX8 hown hK hP 5 rfl rfl 3 (by decide) hf32 (fun _ h9 => h9) rfl dX8_takeFrom_64 ?_
            refine lv_iload_n hx hb dX8_takeFrom_67 rfl (lv_at hl 2 rfl) ?_
            obtain ⟨hb23, hw⟩ := hw
            refine va_aldq hx hb hK hP 9 2 rfl rfl hb23 dX8_takeFrom_68 ?_
            rcases hn25 : (oS x6.toNatClampNeg) with _ | y24
            · replace hw := hw.1 hn25
              refine W.eq (congrArg (fun v => F0 m 69 ls (v :: [.int x6, .ref h4])) (show va_rf none = Value.null from rfl)) ?_
              obtain ⟨hb26, hw⟩ := hw
              refine va_astqN hx hb hK hP hD hS 4 2 rfl rfl hb26 dX8_takeFrom_69 (fun H locs hP hD hS => ?_)
              replace hP : va_P (dC, dI) vwCl ((W_TS adK adV cI cB cS h h1 h2 h3 h4 g g1 g2 g3 g4 qb n k oA oF oT oS os oc tAv7 tF tT (va_up tSv8 x6.toNatClampNeg none) ts tc) ++ va_pl sL (sgF sf)) H := hP
              replace hD : va_D A ((W_TS adK adV cI cB cS h h1 h2 h3 h4 g g1 g2 g3 g4 qb n k oA oF oT oS os oc tAv7 tF tT (va_up tSv8 x6.toNatClampNeg none) ts tc) ++ va_pl sL (sgF sf)) := hD
              obtain ⟨x27, ex27⟩ : ∃ y : Int32, y = x6 + (1 : Int32) := ⟨_, rfl⟩
              replace hw := hw x27 ex27
              refine lv_iinc (v := x27) (lv' := [(2, .int x27), (0, .ref h), (1, .ref g)]) hx hb dX8_takeFrom_70 hl (k := 2) rfl (by rw [ex27]; rfl) (by decide) rfl (fun ls hl => ?_)
              refine lv_goto (tgt := 40) hx hb dX8_takeFrom_73 (by decide) ?_
              exact hw H locs ls hP hD hS (lv_sub hl [1, 2, 0] rfl)
            · obtain ⟨hy24, hw⟩ := hw.2 y24 hn25
              refine W.eq (congrArg (fun v => F0 m 69 ls (v :: [.int x6, .ref h4])) (show va_rf (some y24) = Value.ref y24 from rfl)) ?_
              obtain ⟨hb28, hw⟩ := hw
              obtain ⟨k29, hk29⟩ := va_pl_get (X := (W_TS adK adV cI cB cS h h1 h2 h3 h4 g g1 g2 g3 g4 qb n k oA oF oT oS os oc tAv7 tF tT tSv8 ts tc)) (f := sgF sf) hy24
              refine va_astq hx hb hK hP hD hS 4 2 k29 9 rfl rfl hk29 rfl hb28 dX8_takeFrom_69 (fun H locs hP hD hS => ?_)
              replace hP : va_P (dC, dI) vwCl ((W_TS adK adV cI cB cS h h1 h2 h3 h4 g g1 g2 g3 g4 qb n k oA oF oT oS os oc tAv7 tF tT (va_up tSv8 x6.toNatClampNeg (some y24)) ts tc) ++ va_pl sL (sgF sf)) H := hP
              replace hD : va_D A ((W_TS adK adV cI cB cS h h1 h2 h3 h4 g g1 g2 g3 g4 qb n k oA oF oT oS os oc tAv7 tF tT (va_up tSv8 x6.toNatClampNeg (some y24)) ts tc) ++ va_pl sL (sgF sf)) := hD
              obtain ⟨x30, ex30⟩ : ∃ y : Int32, y = x6 + (1 : Int32) := ⟨_, rfl⟩
              replace hw := hw x30 ex30
              refine lv_iinc (v := x30) (lv' := [(2, .int x30), (0, .ref h), (1, .ref g)]) hx hb dX8_takeFrom_70 hl (k := 2) rfl (by rw [ex30]; rfl) (by decide) rfl (fun ls hl => ?_)
              refine lv_goto (tgt := 40) hx hb dX8_takeFrom_73 (by decide) ?_
              exact hw H locs ls hP hD hS (lv_sub hl [1, 2, 0] rfl))
    refine lv_icmp_ge (tgt := 38) hx hb dX8_takeFrom_8 (by decide) (fun hc31 => ?_) (fun hc31 => ?_)
    · replace hw := hw.1 hc31
      exact hw H locs ls hP hD hS (lv_sub hl [0, 1] rfl)
    · replace hw := hw.2 hc31
      refine lv_iload_n hx hb dX8_takeFrom_11 rfl (lv_at hl 2 rfl) ?_
      refine lv_aload_n hx hb dX8_takeFrom_12 rfl (lv_at hl 1 rfl) ?_
      refine va_get (D := (dC, dI)) (ci := 10) (v := .ref g1) (C := RX8) (T := TX8) (N := 6) hx hb hts hiX8 hown hK hP 5 rfl rfl 0 (by decide) hf11 (fun _ h9 => h9) rfl dX8_takeFrom_13 ?_
      refine va_alen hx hb hK hP 6 1 rfl rfl (v := (nI (k - n))) rfl dX8_takeFrom_16 ?_
      refine lv_icmp_ge (tgt := 38) hx hb dX8_takeFrom_17 (by decide) (fun hc32 => ?_) (fun hc32 => ?_)
      · replace hw := hw.1 hc32
        exact hw H locs ls hP hD hS (lv_sub hl [0, 1] rfl)
      · replace hw := hw.2 hc32
        refine lv_aload_n hx hb dX8_takeFrom_20 rfl (lv_at hl 0 rfl) ?_
        refine va_get (D := (dC, dI)) (ci := 10) (v := .ref h1) (C := RX8) (T := TX8) (N := 6) hx hb hts hiX8 hown hK hP 0 rfl rfl 0 (by decide) hf11 (fun _ h9 => h9) rfl dX8_takeFrom_21 ?_
        refine lv_iload_n hx hb dX8_takeFrom_24 rfl (lv_at hl 2 rfl) ?_
        refine lv_aload_n hx hb dX8_takeFrom_25 rfl (lv_at hl 1 rfl) ?_
        refine va_get (D := (dC, dI)) (ci := 10) (v := .ref g1) (C := RX8) (T := TX8) (N := 6) hx hb hts hiX8 hown hK hP 5 rfl rfl 0 (by decide) hf11 (fun _ h9 => h9) rfl dX8_takeFrom_26 ?_
        refine lv_iload_n hx hb dX8_takeFrom_29 rfl (lv_at hl 2 rfl) ?_
        obtain ⟨hb33, hw⟩ := hw
        refine va_aldq hx hb hK hP 6 1 rfl rfl hb33 dX8_takeFrom_30 ?_
        obtain ⟨kd34, hkd34, gkd34, hw⟩ := hw
        refine W.eq (congrArg (fun v => F0 m 31 ls (v :: [.int x1, .ref h1])) (bk_rf (qb := qb) hkd34)) ?_
        obtain ⟨hb35, hw⟩ := hw
        refine va_astqM hx hb hK hP hD hS 1 1 rfl rfl (bk_any gkd34 hZ hK hP (by intro j hj; rcases (show j = 0 ∨ j = 1 ∨ j = 2 ∨ j = 3 ∨ j = 4 by omega) with rfl | rfl | rfl | rfl | rfl <;> first | exact ⟨10, [], rfl⟩ | exact ⟨11, [], rfl⟩ | exact ⟨12, [], rfl⟩ | exact ⟨13, [], rfl⟩ | exact ⟨14, [], rfl⟩)) hb35 dX8_takeFrom_31 (fun H locs hP hD hS => ?_)
        rw [bk_up] at hP hD
        replace hP : va_P (dC, dI) vwCl ((W_TS adK adV cI cB cS h h1 h2 h3 h4 g g1 g2 g3 g4 qb n k oA oF oT oS os oc (va_up tAv2 x1.toNatClampNeg (some kd34)) tF tT tSv3 ts tc) ++ va_pl sL (sgF sf)) H := hP
        replace hD : va_D A ((W_TS adK adV cI cB cS h h1 h2 h3 h4 g g1 g2 g3 g4 qb n k oA oF oT oS os oc (va_up tAv2 x1.toNatClampNeg (some kd34)) tF tT tSv3 ts tc) ++ va_pl sL (sgF sf)) := hD
        obtain ⟨x36, ex36⟩ : ∃ y : Int32, y = x1 + (1 : Int32) := ⟨_, rfl⟩
        replace hw := hw x36 ex36
        refine lv_iinc (v := x36) (lv' := [(2, .int x36), (0, .ref h), (1, .ref g)]) hx hb dX8_takeFrom_32 hl (k := 2) rfl (by rw [ex36]; rfl) (by decide) rfl (fun ls hl => ?_)
        refine lv_goto (tgt := 2) hx hb dX8_takeFrom_35 (by decide) ?_
        exact hw H locs ls hP hD hS (lv_sub hl [1, 2, 0] rfl)
