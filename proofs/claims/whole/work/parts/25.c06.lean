def w_X5_fittingRow (n : Nat) (k : Nat) (q : Nat → Nat) (f : Nat → Int32) (t : Nat) (a : Nat → Nat → Int32) (b : Nat → Nat → Int32) (sg : Nat → Nat → Option Nat) (sL : List Nat) (sf : Nat → Nat → Int32)  (p0 : Int32) (Q : Int32 → ((Nat → Int32) × (Nat) × (Nat → Nat → Int32)) → Prop) : Prop := w_X6_start k n t (f 7) (a 8)   (fun (u1 : StRSP) => (∀ X5 : Int32 → (Nat → Int32) → (Nat → Nat → Int32) → Prop, (∀ (x2 : Int32) (fv3 : (Nat → Int32)) (av4 : (Nat → Nat → Int32)), (∀ J6 : Prop, ((w_X6_number n k (k - n) (b 0) (av4 2) (fv3 7) (av4 8)   (fun (r8 : Int32) (u7 : Unit) => Q r8 (fv3, (q 6), av4))) → J6) → (((p0 < x2) → J6) ∧ (¬ (p0 < x2) → ((((10000 : Int32) ≤ x2) → J6) ∧ (¬ ((10000 : Int32) ≤ x2) → w_X6_next n k (k - n) (b 0) (av4 2) (fv3 7) (av4 8)   (fun (r12 : Int32) (u11 : ((Int32) × (Nat → Int32))) => (((¬ r12 = 0) → ∀ x14 : Int32, x14 = x2 + (1 : Int32) → X5 x14 (upd fv3 7 (u11.1)) (va_up av4 8 (u11.2))) ∧ (r12 = 0 → Q (-1 : Int32) ((upd fv3 7 (u11.1)), (q 6), (va_up av4 8 (u11.2))))))))))) → X5 x2 fv3 av4) → X5 (0 : Int32) (upd f 7 (u1.1)) (va_up a 8 (u1.2))))
abbrev rmX5_fittingRow : Room := { frames := 4, cells := 0, slots := 0, locals := 106 }
set_option maxHeartbeats 4000000 in
set_option maxRecDepth 100000 in
theorem t_X5_fittingRow (l : Launch) (dC : Nat → ClassId) (dI : Nat → Nat → Nat) (adK : Nat → Nat) (adV : Nat → Nat) (cI : ClassId) (cB : ClassId) (cS : ClassId) (q : Nat → Nat) (qb : Nat → Nat) (n : Nat) (k : Nat) (sz : Nat) (f : Nat → Int32) (t : Nat) (a : Nat → Nat → Int32) (b : Nat → Nat → Int32) (sg : Nat → Nat → Option Nat) (sL : List Nat) (sf : Nat → Nat → Int32)   (p0 : Int32) (Q0 : Int32 → ((Nat → Int32) × (Nat) × (Nat → Nat → Int32)) → Prop) (hw : w_X5_fittingRow n k q f t a b sg sL sf  p0 Q0) : Met l yX5_fittingRow wsX5_fittingRow rmX5_fittingRow (g_pre (cz adK adV) (dC, dI) vwCl [(cI, .int), (cB, .object RX0), (cS, .object RX7)] ((W_P adK adV cI cB cS q qb n k f t a b sg) ++ va_pl sL (sgF sf)) sz [.ref (q 0), .int p0]) (g_qi (dC, dI) vwCl [(cI, .int), (cB, .object RX0), (cS, .object RX7)] (fun u : ((Nat → Int32) × (Nat) × (Nat → Nat → Int32)) => ((W_P adK adV cI cB cS q qb n k (u.1) (u.2.1) (u.2.2) b sg) ++ va_pl sL (sgF sf))) Q0 (va_A ((W_P adK adV cI cB cS q qb n k f t a b sg) ++ va_pl sL (sgF sf)) sz)) 0 0 (va_A ((W_P adK adV cI cB cS q qb n k f t a b sg) ++ va_pl sL (sgF sf)) sz) := by
  refine g_starti (by decide) rfl (Nat.le_of_ble_eq_true rfl) ?_
  intro p e s m args below meth c A Q ls hx hb hml hown hts hin hK hP hD hA hS hZ hret hl
  obtain ⟨H, eH⟩ : ∃ H : Heap, H = s.heap := ⟨_, rfl⟩
  obtain ⟨locs, eL⟩ : ∃ L : List Loc, L = [] := ⟨_, rfl⟩
  have hS : va_S A s.heap H locs := by rw [eH, eL]; exact hS
  rw [← eH] at hP
  suffices hg : W p l e rmX5_fittingRow s m args below meth c H locs 0 0 Q (F0 m 0 ls []) by rw [eH, eL] at hg; exact hg
  clear eH eL
  replace hl : lv_has ls 3 [(0, .ref (q 0)), (1, .int p0)] := hl
  have hf55 := hts (.fieldLink RX5 55 "NumberPile$Pile" "rows" "LNumberPile$Rows;") (by decide +kernel)
  have hiX5 : ∀ w ∈ u_ws RX5 TX5 15, w ∈ wsX5_fittingRow := fun w h => List.mem_cons_of_mem _ (List.mem_append_left _ (List.mem_append_left _ (List.mem_append_right _ h)))
  have hf31 := hts (.fieldLink RX5 31 "NumberPile$Pile" "now" "LNumberPile$State;") (by decide +kernel)
  have nf118 := va_Nw.use (A := args) rfl (hZ.1 _ (List.mem_of_getElem? (i := 27) (rfl : cz_nest[27]? = some (.fieldLinkNest RX5 118 "NumberPile$State" "told" "[I" "NumberPile"))))
  have hiX8 : ∀ w ∈ u_ws RX8 TX8 6, w ∈ wsX5_fittingRow := fun w h => List.mem_cons_of_mem _ (List.mem_append_left _ (List.mem_append_right _ h))
  unfold w_X5_fittingRow at hw
  refine lv_aload_n hx hb dX5_fittingRow_0 rfl (lv_at hl 0 rfl) ?_
  refine va_get (D := (dC, dI)) (ci := 7) (v := .ref (q 15)) (C := RX5) (T := TX5) (N := 15) hx hb hts hiX5 hown hK hP 0 rfl rfl 9 (by decide) hf55 (fun _ h9 => h9) rfl dX5_fittingRow_1 ?_
  refine lv_aload_n hx hb dX5_fittingRow_4 rfl (lv_at hl 0 rfl) ?_
  refine va_get (D := (dC, dI)) (ci := 7) (v := .ref (q 3)) (C := RX5) (T := TX5) (N := 15) hx hb hts hiX5 hown hK hP 0 rfl rfl 4 (by decide) hf31 (fun _ h9 => h9) rfl dX5_fittingRow_5 ?_
  refine va_getN (D := (dC, dI)) (ci := 10) (v := .ref (q 6)) (C := RX8) (T := TX8) (N := 6) hx hb hts hiX8 hown hK hP 3 rfl rfl 2 (by decide) nf118 (fun _ h9 => h9) rfl dX5_fittingRow_8 ?_
  refine g_cv (g_J.poolQ (W2 := fun u1 : StRSP => (W_P adK adV cI cB cS q qb n k (upd f 7 (u1.1)) (q 6) (va_up a 8 (u1.2)) b sg)) (pl := va_pl sL (sgF sf)) [((q 0), .inr (7, [.int (nI n), .int (nI k), .ref (q 1), .ref (q 2), .ref (q 3), .ref (q 8), .int (f 0), .ref (q 13), .ref (q 14), .ref (q 15), .ref (q 18), .ref (q 21), .int (f 1), .ref (q 17), .int (f 2)])), ((q 1), .inl (cB, (5), .inr (.inr (.inr (.inr (fun i => (kAll i).map qb)))))), ((q 2), .inl (cI, k, .inl (a 0))), ((q 3), .inr (10, [.ref (q 4), .ref (q 5), .ref (q 6), .ref (q 7), .int (f 3), .int (f 4)])), ((q 4), .inl (cI, (k - n), .inl (b 0))), ((q 5), .inl (cI, n, .inl (a 1))), ((q 7), .inl (cS, (6), .inr (.inr (.inr (.inr (sg 0)))))), ((q 8), .inr (10, [.ref (q 9), .ref (q 10), .ref (q 11), .ref (q 12), .int (f 5), .int (f 6)])), ((q 9), .inl (cI, (k - n), .inl (b 1))), ((q 10), .inl (cI, n, .inl (a 3))), ((q 11), .inl (cI, k, .inl (a 4))), ((q 12), .inl (cS, (6), .inr (.inr (.inr (.inr (sg 1)))))), ((q 13), .inl (cI, k, .inl (a 5))), ((q 14), .inl (cI, k, .inl (a 6))), ((q 17), .inl (cI, (10 * n), .inl (a 7))), ((q 18), .inr (14, [.ref (q 19), .ref (q 20)])), ((q 19), .inl (cI, (k + 1), .inl (b 2))), ((q 20), .inl (cI, (toL n), .inl (b 3))), ((q 21), .inl (cI, k, .inl (b 4))), ((qb 0), .inr (2, [])), ((qb 1), .inr (3, [])), ((qb 2), .inr (5, [])), ((qb 3), .inr (11, [])), ((qb 4), .inr (4, []))] [15, 16, 6] [0, 1, 2, 3, 4, 5, 7, 8, 9, 10, 11, 12, 13, 14, 17, 18, 19, 20, 21, 22, 23, 24, 25, 26] [0, 1, 2, 3, 4, 5, 26, 6, 7, 8, 9, 10, 11, 12, 13, 24, 25, 14, 15, 16, 17, 18, 19, 20, 21, 22, 23] rfl (by decide) rfl (by decide) (by decide) (fun _ => rfl) (by decide)) [0] hK hP hD hS hA rfl (fun hPc hDc hKc hFc => va_runV (As := [.ref (q 6)]) (rest := []) ⟨hx, hb, hml, hown, hts⟩ (t_X6_start l dC dI cI (q 15) (q 1) (q 4) (q 16) (q 6) n k (a 2) H.size t (f 7) (a 8)   _ hw) (cwV 1 hts gX5_fittingRow_X6_start rfl rfl rfl (by decide +kernel) ⟨Nat.le_of_ble_eq_true rfl, Nat.le_of_ble_eq_true rfl⟩) (g_pV g_Tb (q0 := 0) rfl rfl hPc hDc hKc (fun _ _ _ => trivial)) rfl rfl hl.1 rfl (lv_room (Nat.le_of_ble_eq_true rfl)) dX5_fittingRow_11 ⟨Nat.le_of_ble_eq_true rfl, Nat.le_of_ble_eq_true rfl⟩) (fun u1 H locs hw hP hD hS => ?_)
  replace hP : va_P (dC, dI) vwCl ((W_P adK adV cI cB cS q qb n k (upd f 7 (u1.1)) (q 6) (va_up a 8 (u1.2)) b sg) ++ va_pl sL (sgF sf)) H := hP
  replace hD : va_D A ((W_P adK adV cI cB cS q qb n k (upd f 7 (u1.1)) (q 6) (va_up a 8 (u1.2)) b sg) ++ va_pl sL (sgF sf)) := hD
  refine lv_iconst (v := 0) hx hb dX5_fittingRow_14 (by decide) ?_
  refine lv_istore_n (lv' := [(2, .int (0 : Int32)), (0, .ref (q 0)), (1, .int p0)]) hx hb dX5_fittingRow_15 rfl hl (by decide) rfl (fun ls hl => ?_)
  refine hw (fun (x2 : Int32) (fv3 : (Nat → Int32)) (av4 : (Nat → Nat → Int32)) => ∀ (H : Heap) (locs : List Loc) (ls : Array Slot), va_P (dC, dI) vwCl ((W_P adK adV cI cB cS q qb n k fv3 (q 6) av4 b sg) ++ va_pl sL (sgF sf)) H → va_D A ((W_P adK adV cI cB cS q qb n k fv3 (q 6) av4 b sg) ++ va_pl sL (sgF sf)) → va_S A s.heap H locs → lv_has ls 3 [(0, .ref (q 0)), (1, .int p0), (2, .int x2)] → W p l e rmX5_fittingRow s m args below meth c H locs 0 0 Q (F0 m 16 ls [])) ?_ H locs ls hP hD hS (lv_sub hl [1, 2, 0] rfl)
  · intro x2 fv3 av4 hw H locs ls hP hD hS hl
    refine lv_iload_n hx hb dX5_fittingRow_16 rfl (lv_at hl 2 rfl) ?_
    refine lv_iload_n hx hb dX5_fittingRow_17 rfl (lv_at hl 1 rfl) ?_
    replace hw := hw (∀ (H : Heap) (locs : List Loc) (ls : Array Slot), va_P (dC, dI) vwCl ((W_P adK adV cI cB cS q qb n k fv3 (q 6) av4 b sg) ++ va_pl sL (sgF sf)) H → va_D A ((W_P adK adV cI cB cS q qb n k fv3 (q 6) av4 b sg) ++ va_pl sL (sgF sf)) → va_S A s.heap H locs → lv_has ls 3 [(0, .ref (q 0))] → W p l e rmX5_fittingRow s m args below meth c H locs 0 0 Q (F0 m 46 ls [])) (by
      intro hw H locs ls hP hD hS hl
      refine lv_aload_n hx hb dX5_fittingRow_46 rfl (lv_at hl 0 rfl) ?_
      refine va_get (D := (dC, dI)) (ci := 7) (v := .ref (q 15)) (C := RX5) (T := TX5) (N := 15) hx hb hts hiX5 hown hK hP 0 rfl rfl 9 (by decide) hf55 (fun _ h9 => h9) rfl dX5_fittingRow_47 ?_
      refine g_ci (g_J.poolQ (W2 := fun u7 : Unit => (W_P adK adV cI cB cS q qb n k fv3 (q 6) av4 b sg)) (pl := va_pl sL (sgF sf)) [((q 0), .inr (7, [.int (nI n), .int (nI k), .ref (q 1), .ref (q 2), .ref (q 3), .ref (q 8), .int (fv3 0), .ref (q 13), .ref (q 14), .ref (q 15), .ref (q 18), .ref (q 21), .int (fv3 1), .ref (q 17), .int (fv3 2)])), ((q 2), .inl (cI, k, .inl (av4 0))), ((q 3), .inr (10, [.ref (q 4), .ref (q 5), .ref (q 6), .ref (q 7), .int (fv3 3), .int (fv3 4)])), ((q 5), .inl (cI, n, .inl (av4 1))), ((q 7), .inl (cS, (6), .inr (.inr (.inr (.inr (sg 0)))))), ((q 8), .inr (10, [.ref (q 9), .ref (q 10), .ref (q 11), .ref (q 12), .int (fv3 5), .int (fv3 6)])), ((q 9), .inl (cI, (k - n), .inl (b 1))), ((q 10), .inl (cI, n, .inl (av4 3))), ((q 11), .inl (cI, k, .inl (av4 4))), ((q 12), .inl (cS, (6), .inr (.inr (.inr (.inr (sg 1)))))), ((q 13), .inl (cI, k, .inl (av4 5))), ((q 14), .inl (cI, k, .inl (av4 6))), ((q 17), .inl (cI, (10 * n), .inl (av4 7))), ((q 18), .inr (14, [.ref (q 19), .ref (q 20)])), ((q 19), .inl (cI, (k + 1), .inl (b 2))), ((q 20), .inl (cI, (toL n), .inl (b 3))), ((q 21), .inl (cI, k, .inl (b 4)))] [15, 16, 6, 4, 1, 22, 23, 24, 25, 26] [0, 2, 3, 5, 7, 8, 9, 10, 11, 12, 13, 14, 17, 18, 19, 20, 21] [0, 21, 1, 2, 20, 3, 19, 4, 5, 6, 7, 8, 9, 10, 11, 17, 18, 12, 13, 14, 15, 16, 22, 23, 24, 25, 26] rfl (by decide) rfl (by decide) (by decide) (fun _ => rfl) (by decide)) [0, 1] hK hP hD hS hA rfl (fun hPc hDc hKc hFc => va_runV (As := []) (rest := []) ⟨hx, hb, hml, hown, hts⟩ (t_X6_number l dC dI adK adV cI cB (q 15) (q 1) (q 4) (q 16) (q 6) qb n k (k - n) (b 0) (av4 2) H.size (fv3 7) (av4 8)   _ hw) (cwV 0 hts gX5_fittingRow_X6_number rfl rfl rfl (by decide +kernel) ⟨Nat.le_of_ble_eq_true rfl, Nat.le_of_ble_eq_true rfl⟩) (g_pV czb (q0 := 0) rfl rfl hPc hDc hKc (czc hZ hS hFc)) rfl rfl hl.1 rfl (lv_room (Nat.le_of_ble_eq_true rfl)) dX5_fittingRow_50 ⟨Nat.le_of_ble_eq_true rfl, Nat.le_of_ble_eq_true rfl⟩) (fun r8 u7 H locs hw hP hD hS => ?_)
      replace hP : va_P (dC, dI) vwCl ((W_P adK adV cI cB cS q qb n k fv3 (q 6) av4 b sg) ++ va_pl sL (sgF sf)) H := hP
      replace hD : va_D A ((W_P adK adV cI cB cS q qb n k fv3 (q 6) av4 b sg) ++ va_pl sL (sgF sf)) := hD
      exact hret dX5_fittingRow_53 hK hP hD hS hw)
    refine lv_icmp_gt (tgt := 46) hx hb dX5_fittingRow_18 (by decide) (fun hc9 => ?_) (fun hc9 => ?_)
    · replace hw := hw.1 hc9
      exact hw H locs ls hP hD hS (lv_sub hl [0] rfl)
    · replace hw := hw.2 hc9
      refine lv_iload_n hx hb dX5_fittingRow_21 rfl (lv_at hl 2 rfl) ?_
      refine lv_sipush (v := 10000) hx hb dX5_fittingRow_22 (by decide) ?_
      refine lv_icmp_ge (tgt := 46) hx hb dX5_fittingRow_25 (by decide) (fun hc10 => ?_) (fun hc10 => ?_)
      · replace hw := hw.1 hc10
        exact hw H locs ls hP hD hS (lv_sub hl [0] rfl)
      · replace hw := hw.2 hc10
        refine lv_aload_n hx hb dX5_fittingRow_28 rfl (lv_at hl 0 rfl) ?_
        refine va_get (D := (dC, dI)) (ci := 7) (v := .ref (q 15)) (C := RX5) (T := TX5) (N := 15) hx hb hts hiX5 hown hK hP 0 rfl rfl 9 (by decide) hf55 (fun _ h9 => h9) rfl dX5_fittingRow_29 ?_
        refine g_ci (g_J.poolQ (W2 := fun u11 : ((Int32) × (Nat → Int32)) => (W_P adK adV cI cB cS q qb n k (upd fv3 7 (u11.1)) (q 6) (va_up av4 8 (u11.2)) b sg)) (pl := va_pl sL (sgF sf)) [((q 0), .inr (7, [.int (nI n), .int (nI k), .ref (q 1), .ref (q 2), .ref (q 3), .ref (q 8), .int (fv3 0), .ref (q 13), .ref (q 14), .ref (q 15), .ref (q 18), .ref (q 21), .int (fv3 1), .ref (q 17), .int (fv3 2)])), ((q 2), .inl (cI, k, .inl (av4 0))), ((q 3), .inr (10, [.ref (q 4), .ref (q 5), .ref (q 6), .ref (q 7), .int (fv3 3), .int (fv3 4)])), ((q 5), .inl (cI, n, .inl (av4 1))), ((q 7), .inl (cS, (6), .inr (.inr (.inr (.inr (sg 0)))))), ((q 8), .inr (10, [.ref (q 9), .ref (q 10), .ref (q 11), .ref (q 12), .int (fv3 5), .int (fv3 6)])), ((q 9), .inl (cI, (k - n), .inl (b 1))), ((q 10), .inl (cI, n, .inl (av4 3))), ((q 11), .inl (cI, k, .inl (av4 4))), ((q 12), .inl (cS, (6), .inr (.inr (.inr (.inr (sg 1)))))), ((q 13), .inl (cI, k, .inl (av4 5))), ((q 14), .inl (cI, k, .inl (av4 6))), ((q 17), .inl (cI, (10 * n), .inl (av4 7))), ((q 18), .inr (14, [.ref (q 19), .ref (q 20)])), ((q 19), .inl (cI, (k + 1), .inl (b 2))), ((q 20), .inl (cI, (toL n), .inl (b 3))), ((q 21), .inl (cI, k, .inl (b 4)))] [15, 16, 6, 4, 1, 22, 23, 24, 25, 26] [0, 2, 3, 5, 7, 8, 9, 10, 11, 12, 13, 14, 17, 18, 19, 20, 21] [0, 21, 1, 2, 20, 3, 19, 4, 5, 6, 7, 8, 9, 10, 11, 17, 18, 12, 13, 14, 15, 16, 22, 23, 24, 25, 26] rfl (by decide) rfl (by decide) (by decide) (fun _ => rfl) (by decide)) [0, 1] hK hP hD hS hA rfl (fun hPc hDc hKc hFc => va_runV (As := []) (rest := []) ⟨hx, hb, hml, hown, hts⟩ (t_X6_next l dC dI adK adV cI cB (q 15) (q 1) (q 4) (q 16) (q 6) qb n k (k - n) (b 0) (av4 2) H.size (fv3 7) (av4 8)   _ hw) (cwV 0 hts gX5_fittingRow_X6_next rfl rfl rfl (by decide +kernel) ⟨Nat.le_of_ble_eq_true rfl, Nat.le_of_ble_eq_true rfl⟩) (g_pV czb (q0 := 0) rfl rfl hPc hDc hKc (czc hZ hS hFc)) rfl rfl hl.1 rfl (lv_room (Nat.le_of_ble_eq_true rfl)) dX5_fittingRow_32 ⟨Nat.le_of_ble_eq_true rfl, Nat.le_of_ble_eq_true rfl⟩) (fun r12 u11 H locs hw hP hD hS => ?_)
        replace hP : va_P (dC, dI) vwCl ((W_P adK adV cI cB cS q qb n k (upd fv3 7 (u11.1)) (q 6) (va_up av4 8 (u11.2)) b sg) ++ va_pl sL (sgF sf)) H := hP
        replace hD : va_D A ((W_P adK adV cI cB cS q qb n k (upd fv3 7 (u11.1)) (q 6) (va_up av4 8 (u11.2)) b sg) ++ va_pl sL (sgF sf)) := hD
        refine lv_if_ne (tgt := 40) hx hb dX5_fittingRow_35 (by decide) (fun hc13 => ?_) (fun hc13 => ?_)
        · replace hw := hw.1 hc13
          obtain ⟨x14, ex14⟩ : ∃ y : Int32, y = x2 + (1 : Int32) := ⟨_, rfl⟩
          replace hw := hw x14 ex14
          refine lv_iinc (v := x14) (lv' := [(2, .int x14), (0, .ref (q 0)), (1, .int p0)]) hx hb dX5_fittingRow_40 hl (k := 2) rfl (by rw [ex14]; rfl) (by decide) rfl (fun ls hl => ?_)
          refine lv_goto (tgt := 16) hx hb dX5_fittingRow_43 (by decide) ?_
          exact hw H locs ls hP hD hS (lv_sub hl [1, 2, 0] rfl)
        · replace hw := hw.2 hc13
          refine lv_iconst (v := -1) hx hb dX5_fittingRow_38 (by decide) ?_
          exact hret dX5_fittingRow_39 hK hP hD hS hw

def w_X5_canBe (n : Nat) (k : Nat) (q : Nat → Nat) (f : Nat → Int32) (t : Nat) (a : Nat → Nat → Int32) (b : Nat → Nat → Int32) (sg : Nat → Nat → Option Nat) (sL : List Nat) (sf : Nat → Nat → Int32) (kd : Nat) (p0 : Int32) (Q : Int32 → Unit → Prop) : Prop := (∀ X2 : Int32 → Prop, (∀ (x1 : Int32), (((((f 3) ≤ x1) → Q (1 : Int32) ()) ∧ (¬ ((f 3) ≤ x1) → ((((6 : Int32) ≤ x1) → Q (1 : Int32) ()) ∧ (¬ ((6 : Int32) ≤ x1) → (vp_in x1 (6)) ∧ ((((sg 0) x1.toNatClampNeg = none) → ∀ J8 : Prop, ((∀ x9 : Int32, x9 = x1 + (1 : Int32) → X2 x9) → J8) → J8) ∧ (∀ y6 : Nat, (sg 0) x1.toNatClampNeg = some y6 → (y6 ∈ sL) ∧ ∀ J10 : Prop, ((∀ x11 : Int32, x11 = x1 + (1 : Int32) → X2 x11) → J10) → w_X7_isOf  sL sf y6 p0 (fun (r13 : Int32) (u12 : Unit) => (((r13 = 0) → J10) ∧ (¬ (r13 = 0) → w_X7_allows  sL sf y6 kd  (fun (r16 : Int32) (u15 : Unit) => (((¬ r16 = 0) → J10) ∧ (r16 = 0 → Q (0 : Int32) ()))))))))))))) → X2 x1) → X2 (0 : Int32))
abbrev rmX5_canBe : Room := { frames := 3, cells := 0, slots := 0, locals := 83 }
set_option maxHeartbeats 4000000 in
set_option maxRecDepth 100000 in
theorem t_X5_canBe (l : Launch) (dC : Nat → ClassId) (dI : Nat → Nat → Nat) (adK : Nat → Nat) (adV : Nat → Nat) (cI : ClassId) (cB : ClassId) (cS : ClassId) (q : Nat → Nat) (qb : Nat → Nat) (n : Nat) (k : Nat) (sz : Nat) (f : Nat → Int32) (t : Nat) (a : Nat → Nat → Int32) (b : Nat → Nat → Int32) (sg : Nat → Nat → Option Nat) (sL : List Nat) (sf : Nat → Nat → Int32) (kd : Nat) (hkd : kd < 5) (p0 : Int32) (Q0 : Int32 → Unit → Prop) (hw : w_X5_canBe n k q f t a b sg sL sf kd p0 Q0) : Met l yX5_canBe wsX5_canBe rmX5_canBe (g_pre (cz adK adV) (dC, dI) vwCl [(cI, .int), (cB, .object RX0), (cS, .object RX7)] ((W_P adK adV cI cB cS q qb n k f t a b sg) ++ va_pl sL (sgF sf)) sz [.ref (q 0), .int p0, .ref (qb kd)]) (g_qi (dC, dI) vwCl [(cI, .int), (cB, .object RX0), (cS, .object RX7)] (fun u : Unit => ((W_P adK adV cI cB cS q qb n k f t a b sg) ++ va_pl sL (sgF sf))) Q0 (va_A ((W_P adK adV cI cB cS q qb n k f t a b sg) ++ va_pl sL (sgF sf)) sz)) 0 0 (va_A ((W_P adK adV cI cB cS q qb n k f t a b sg) ++ va_pl sL (sgF sf)) sz) := by
  refine g_startz (by decide) rfl (Nat.le_of_ble_eq_true rfl) ?_
  intro p e s m args below meth c A Q ls hx hb hml hown hts hin hK hP hD hA hS hZ hret hl
  obtain ⟨H, eH⟩ : ∃ H : Heap, H = s.heap := ⟨_, rfl⟩
  obtain ⟨locs, eL⟩ : ∃ L : List Loc, L = [] := ⟨_, rfl⟩
  have hS : va_S A s.heap H locs := by rw [eH, eL]; exact hS
  rw [← eH] at hP
  suffices hg : W p l e rmX5_canBe s m args below meth c H locs 0 0 Q (F0 m 0 ls []) by rw [eH, eL] at hg; exact hg
  clear eH eL
  replace hl : lv_has ls 5 [(0, .ref (q 0)), (1, .int p0), (2, .ref (qb kd))] := hl
  have hf31 := hts (.fieldLink RX5 31 "NumberPile$Pile" "now" "LNumberPile$State;") (by decide +kernel)
  have hiX5 : ∀ w ∈ u_ws RX5 TX5 15, w ∈ wsX5_canBe := fun w h => List.mem_cons_of_mem _ (List.mem_append_left _ (List.mem_append_left _ (List.mem_append_right _ h)))
  have nf193 := va_Nw.use (A := args) rfl (hZ.1 _ (List.mem_of_getElem? (i := 31) (rfl : cz_nest[31]? = some (.fieldLinkNest RX5 193 "NumberPile$State" "sights" "I" "NumberPile"))))
  have hiX8 : ∀ w ∈ u_ws RX8 TX8 6, w ∈ wsX5_canBe := fun w h => List.mem_cons_of_mem _ (List.mem_append_left _ (List.mem_append_right _ h))
  have nf196 := va_Nw.use (A := args) rfl (hZ.1 _ (List.mem_of_getElem? (i := 32) (rfl : cz_nest[32]? = some (.fieldLinkNest RX5 196 "NumberPile$State" "seen" "[LNumberPile$Sight;" "NumberPile"))))
  unfold w_X5_canBe at hw
  refine lv_iconst (v := 0) hx hb dX5_canBe_0 (by decide) ?_
  refine lv_istore_n (lv' := [(3, .int (0 : Int32)), (0, .ref (q 0)), (1, .int p0), (2, .ref (qb kd))]) hx hb dX5_canBe_1 rfl hl (by decide) rfl (fun ls hl => ?_)
  refine hw (fun (x1 : Int32) => ∀ (H : Heap) (locs : List Loc) (ls : Array Slot), va_P (dC, dI) vwCl ((W_P adK adV cI cB cS q qb n k f t a b sg) ++ va_pl sL (sgF sf)) H → va_D A ((W_P adK adV cI cB cS q qb n k f t a b sg) ++ va_pl sL (sgF sf)) → va_S A s.heap H locs → lv_has ls 5 [(0, .ref (q 0)), (1, .int p0), (2, .ref (qb kd)), (3, .int x1)] → W p l e rmX5_canBe s m args below meth c H locs 0 0 Q (F0 m 2 ls [])) ?_ H locs ls hP hD hS (lv_sub hl [1, 2, 3, 0] rfl)
  · intro x1 hw H locs ls hP hD hS hl
    refine lv_iload_n hx hb dX5_canBe_2 rfl (lv_at hl 3 rfl) ?_
    refine lv_aload_n hx hb dX5_canBe_3 rfl (lv_at hl 0 rfl) ?_
    refine va_get (D := (dC, dI)) (ci := 7) (v := .ref (q 3)) (C := RX5) (T := TX5) (N := 15) hx hb hts hiX5 hown hK hP 0 rfl rfl 4 (by decide) hf31 (fun _ h9 => h9) rfl dX5_canBe_4 ?_
    refine va_getN (D := (dC, dI)) (ci := 10) (v := .int (f 3)) (C := RX8) (T := TX8) (N := 6) hx hb hts hiX8 hown hK hP 3 rfl rfl 4 (by decide) nf193 (fun _ h9 => h9) rfl dX5_canBe_7 ?_
    refine lv_icmp_ge (tgt := 67) hx hb dX5_canBe_10 (by decide) (fun hc3 => ?_) (fun hc3 => ?_)
    · replace hw := hw.1 hc3
      refine lv_iconst (v := 1) hx hb dX5_canBe_67 (by decide) ?_
      exact hret dX5_canBe_68 hK hP hD hS isB_1 hw
    · replace hw := hw.2 hc3
      refine lv_iload_n hx hb dX5_canBe_13 rfl (lv_at hl 3 rfl) ?_
      refine lv_aload_n hx hb dX5_canBe_14 rfl (lv_at hl 0 rfl) ?_
      refine va_get (D := (dC, dI)) (ci := 7) (v := .ref (q 3)) (C := RX5) (T := TX5) (N := 15) hx hb hts hiX5 hown hK hP 0 rfl rfl 4 (by decide) hf31 (fun _ h9 => h9) rfl dX5_canBe_15 ?_
      refine va_getN (D := (dC, dI)) (ci := 10) (v := .ref (q 7)) (C := RX8) (T := TX8) (N := 6) hx hb hts hiX8 hown hK hP 3 rfl rfl 3 (by decide) nf196 (fun _ h9 => h9) rfl dX5_canBe_18 ?_
      refine va_alen hx hb hK hP 7 2 rfl rfl (v := (6 : Int32)) rfl dX5_canBe_21 ?_
      refine lv_icmp_ge (tgt := 67) hx hb dX5_canBe_22 (by decide) (fun hc4 => ?_) (fun hc4 => ?_)
      · replace hw := hw.1 hc4
        refine lv_iconst (v := 1) hx hb dX5_canBe_67 (by decide) ?_
        exact hret dX5_canBe_68 hK hP hD hS isB_1 hw
      · replace hw := hw.2 hc4
        refine lv_aload_n hx hb dX5_canBe_25 rfl (lv_at hl 0 rfl) ?_
        refine va_get (D := (dC, dI)) (ci := 7) (v := .ref (q 3)) (C := RX5) (T := TX5) (N := 15) hx hb hts hiX5 hown hK hP 0 rfl rfl 4 (by decide) hf31 (fun _ h9 => h9) rfl dX5_canBe_26 ?_
        refine va_getN (D := (dC, dI)) (ci := 10) (v := .ref (q 7)) (C := RX8) (T := TX8) (N := 6) hx hb hts hiX8 hown hK hP 3 rfl rfl 3 (by decide) nf196 (fun _ h9 => h9) rfl dX5_canBe_29 ?_
        refine lv_iload_n hx hb dX5_canBe_32 rfl (lv_at hl 3 rfl) ?_
        obtain ⟨hb5, hw⟩ := hw
        refine va_aldq hx hb hK hP 7 2 rfl rfl hb5 dX5_canBe_33 ?_
        rcases hn7 : ((sg 0) x1.toNatClampNeg) with _ | y6
        · replace hw := hw.1 hn7
          refine W.eq (congrArg (fun v => F0 m 34 ls (v :: [])) (show va_rf none = Value.null from rfl)) ?_
          refine lv_astoreN (lv' := [(4, .null), (0, .ref (q 0)), (1, .int p0), (2, .ref (qb kd)), (3, .int x1)]) hx hb dX5_canBe_34 hl (by decide) rfl (fun ls hl => ?_)
          refine lv_aloadN hx hb dX5_canBe_36 (lv_at hl 0 rfl) ?_
          replace hw := hw (∀ (H : Heap) (locs : List Loc) (ls : Array Slot), va_P (dC, dI) vwCl ((W_P adK adV cI cB cS q qb n k f t a b sg) ++ va_pl sL (sgF sf)) H → va_D A ((W_P adK adV cI cB cS q qb n k f t a b sg) ++ va_pl sL (sgF sf)) → va_S A s.heap H locs → lv_has ls 5 [(0, .ref (q 0)), (1, .int p0), (2, .ref (qb kd)), (3, .int x1)] → W p l e rmX5_canBe s m args below meth c H locs 0 0 Q (F0 m 61 ls [])) (by
            intro hw H locs ls hP hD hS hl
            obtain ⟨x9, ex9⟩ : ∃ y : Int32, y = x1 + (1 : Int32) := ⟨_, rfl⟩
            replace hw := hw x9 ex9
            refine lv_iinc (v := x9) (lv' := [(3, .int x9), (0, .ref (q 0)), (1, .int p0), (2, .ref (qb kd))]) hx hb dX5_canBe_61 hl (k := 3) rfl (by rw [ex9]; rfl) (by decide) rfl (fun ls hl => ?_)
            refine lv_goto (tgt := 2) hx hb dX5_canBe_64 (by decide) ?_
            exact hw H locs ls hP hD hS (lv_sub hl [1, 2, 3, 0] rfl))
          refine lv_ifnullN (tgt := 61) hx hb dX5_canBe_38 (by decide) ?_
          exact hw H locs ls hP hD hS (lv_sub hl [1, 2, 3, 4] rfl)
        · obtain ⟨hy6, hw⟩ := hw.2 y6 hn7
          refine W.eq (congrArg (fun v => F0 m 34 ls (v :: [])) (show va_rf (some y6) = Value.ref y6 from rfl)) ?_
          refine lv_astore (lv' := [(4, .ref y6), (0, .ref (q 0)), (1, .int p0), (2, .ref (qb kd)), (3, .int x1)]) hx hb dX5_canBe_34 hl (by decide) rfl (fun ls hl => ?_)
          refine lv_aload hx hb dX5_canBe_36 (lv_at hl 0 rfl) ?_
          replace hw := hw (∀ (H : Heap) (locs : List Loc) (ls : Array Slot), va_P (dC, dI) vwCl ((W_P adK adV cI cB cS q qb n k f t a b sg) ++ va_pl sL (sgF sf)) H → va_D A ((W_P adK adV cI cB cS q qb n k f t a b sg) ++ va_pl sL (sgF sf)) → va_S A s.heap H locs → lv_has ls 5 [(0, .ref (q 0)), (1, .int p0), (2, .ref (qb kd)), (3, .int x1)] → W p l e rmX5_canBe s m args below meth c H locs 0 0 Q (F0 m 61 ls [])) (by
            intro hw H locs ls hP hD hS hl
            obtain ⟨x11, ex11⟩ : ∃ y : Int32, y = x1 + (1 : Int32) := ⟨_, rfl⟩
            replace hw := hw x11 ex11
            refine lv_iinc (v := x11) (lv' := [(3, .int x11), (0, .ref (q 0)), (1, .int p0), (2, .ref (qb kd))]) hx hb dX5_canBe_61 hl (k := 3) rfl (by rw [ex11]; rfl) (by decide) rfl (fun ls hl => ?_)
            refine lv_goto (tgt := 2) hx hb dX5_canBe_64 (by decide) ?_
            exact hw H locs ls hP hD hS (lv_sub hl [1, 2, 3, 0] rfl))
          refine lv_ifnull hx hb dX5_canBe_38 ?_
          refine lv_aload hx hb dX5_canBe_41 (lv_at hl 0 rfl) ?_
          refine lv_iload_n hx hb dX5_canBe_43 rfl (lv_at hl 2 rfl) ?_
          refine g_ci (g_J.poolP (W2 := fun u12 : Unit => (W_P adK adV cI cB cS q qb n k f t a b sg)) (pl := va_pl sL (sgF sf)) (PL := fun u12 : Unit => va_pl sL (sgF sf)) (RX := fun u12 : Unit => (W_G adK adV qb )) [((q 0), .inr (7, [.int (nI n), .int (nI k), .ref (q 1), .ref (q 2), .ref (q 3), .ref (q 8), .int (f 0), .ref (q 13), .ref (q 14), .ref (q 15), .ref (q 18), .ref (q 21), .int (f 1), .ref (q 17), .int (f 2)])), ((q 1), .inl (cB, (5), .inr (.inr (.inr (.inr (fun i => (kAll i).map qb)))))), ((q 2), .inl (cI, k, .inl (a 0))), ((q 3), .inr (10, [.ref (q 4), .ref (q 5), .ref (q 6), .ref (q 7), .int (f 3), .int (f 4)])), ((q 4), .inl (cI, (k - n), .inl (b 0))), ((q 5), .inl (cI, n, .inl (a 1))), ((q 6), .inl (cI, k, .inl (a 2))), ((q 7), .inl (cS, (6), .inr (.inr (.inr (.inr (sg 0)))))), ((q 8), .inr (10, [.ref (q 9), .ref (q 10), .ref (q 11), .ref (q 12), .int (f 5), .int (f 6)])), ((q 9), .inl (cI, (k - n), .inl (b 1))), ((q 10), .inl (cI, n, .inl (a 3))), ((q 11), .inl (cI, k, .inl (a 4))), ((q 12), .inl (cS, (6), .inr (.inr (.inr (.inr (sg 1)))))), ((q 13), .inl (cI, k, .inl (a 5))), ((q 14), .inl (cI, k, .inl (a 6))), ((q 15), .inr (8, [.int (nI n), .ref (q 1), .ref (q 4), .ref (q 16), .ref t, .int (f 7)])), ((q 16), .inl (cI, k, .inl (a 8))), ((q 17), .inl (cI, (10 * n), .inl (a 7))), ((q 18), .inr (14, [.ref (q 19), .ref (q 20)])), ((q 19), .inl (cI, (k + 1), .inl (b 2))), ((q 20), .inl (cI, (toL n), .inl (b 3))), ((q 21), .inl (cI, k, .inl (b 4)))] [22, 23, 24, 25, 26] [0, 1, 2, 3, 4, 5, 6, 7, 8, 9, 10, 11, 12, 13, 14, 15, 16, 17, 18, 19, 20, 21] [0, 1, 2, 3, 4, 5, 6, 7, 8, 9, 10, 11, 12, 13, 14, 15, 16, 17, 18, 19, 20, 21, 22, 23, 24, 25, 26] rfl (by decide) rfl (by decide) (by decide) (fun _ => rfl) (by decide)) [] hK hP hD hS hA rfl (fun hPc hDc hKc hFc => va_runV (As := [.int p0]) (rest := []) ⟨hx, hb, hml, hown, hts⟩ (t_X7_isOf l dC dI adK adV qb H.size  sL sf y6 hy6 p0 _ hw) (cwV 1 hts gX5_canBe_X7_isOf rfl rfl rfl (by decide +kernel) ⟨Nat.le_of_ble_eq_true rfl, Nat.le_of_ble_eq_true rfl⟩) (g_pVy czb hy6 hPc hDc hKc (czc hZ hS hFc)) rfl rfl hl.1 rfl (lv_room (Nat.le_of_ble_eq_true rfl)) dX5_canBe_44 ⟨Nat.le_of_ble_eq_true rfl, Nat.le_of_ble_eq_true rfl⟩) (fun r13 u12 H locs hw hP hD hS => ?_)
          replace hP : va_P (dC, dI) vwCl ((W_P adK adV cI cB cS q qb n k f t a b sg) ++ va_pl sL (sgF sf)) H := hP
          replace hD : va_D A ((W_P adK adV cI cB cS q qb n k f t a b sg) ++ va_pl sL (sgF sf)) := hD
          refine lv_if_eq (tgt := 61) hx hb dX5_canBe_47 (by decide) (fun hc14 => ?_) (fun hc14 => ?_)
          · replace hw := hw.1 hc14
            exact hw H locs ls hP hD hS (lv_sub hl [1, 2, 3, 4] rfl)
          · replace hw := hw.2 hc14
            refine lv_aload hx hb dX5_canBe_50 (lv_at hl 0 rfl) ?_
            refine lv_aload_n hx hb dX5_canBe_52 rfl (lv_at hl 3 rfl) ?_
            refine g_ci (g_J.poolP (W2 := fun u15 : Unit => (W_P adK adV cI cB cS q qb n k f t a b sg)) (pl := va_pl sL (sgF sf)) (PL := fun u15 : Unit => va_pl sL (sgF sf)) (RX := fun u15 : Unit => (W_G adK adV qb )) [((q 0), .inr (7, [.int (nI n), .int (nI k), .ref (q 1), .ref (q 2), .ref (q 3), .ref (q 8), .int (f 0), .ref (q 13), .ref (q 14), .ref (q 15), .ref (q 18), .ref (q 21), .int (f 1), .ref (q 17), .int (f 2)])), ((q 1), .inl (cB, (5), .inr (.inr (.inr (.inr (fun i => (kAll i).map qb)))))), ((q 2), .inl (cI, k, .inl (a 0))), ((q 3), .inr (10, [.ref (q 4), .ref (q 5), .ref (q 6), .ref (q 7), .int (f 3), .int (f 4)])), ((q 4), .inl (cI, (k - n), .inl (b 0))), ((q 5), .inl (cI, n, .inl (a 1))), ((q 6), .inl (cI, k, .inl (a 2))), ((q 7), .inl (cS, (6), .inr (.inr (.inr (.inr (sg 0)))))), ((q 8), .inr (10, [.ref (q 9), .ref (q 10), .ref (q 11), .ref (q 12), .int (f 5), .int (f 6)])), ((q 9), .inl (cI, (k - n), .inl (b 1))), ((q 10), .inl (cI, n, .inl (a 3))), ((q 11), .inl (cI, k, .inl (a 4))), ((q 12), .inl (cS, (6), .inr (.inr (.inr (.inr (sg 1)))))), ((q 13), .inl (cI, k, .inl (a 5))), ((q 14), .inl (cI, k, .inl (a 6))), ((q 15), .inr (8, [.int (nI n), .ref (q 1), .ref (q 4), .ref (q 16), .ref t, .int (f 7)])), ((q 16), .inl (cI, k, .inl (a 8))), ((q 17), .inl (cI, (10 * n), .inl (a 7))), ((q 18), .inr (14, [.ref (q 19), .ref (q 20)])), ((q 19), .inl (cI, (k + 1), .inl (b 2))), ((q 20), .inl (cI, (toL n), .inl (b 3))), ((q 21), .inl (cI, k, .inl (b 4)))] [22, 23, 24, 25, 26] [0, 1, 2, 3, 4, 5, 6, 7, 8, 9, 10, 11, 12, 13, 14, 15, 16, 17, 18, 19, 20, 21] [0, 1, 2, 3, 4, 5, 6, 7, 8, 9, 10, 11, 12, 13, 14, 15, 16, 17, 18, 19, 20, 21, 22, 23, 24, 25, 26] rfl (by decide) rfl (by decide) (by decide) (fun _ => rfl) (by decide)) [] hK hP hD hS hA rfl (fun hPc hDc hKc hFc => va_runV (As := [.ref (qb kd)]) (rest := []) ⟨hx, hb, hml, hown, hts⟩ (t_X7_allows l dC dI adK adV qb H.size  sL sf y6 kd hy6 hkd  _ hw) (cwV 1 hts gX5_canBe_X7_allows rfl rfl rfl (by decide +kernel) ⟨Nat.le_of_ble_eq_true rfl, Nat.le_of_ble_eq_true rfl⟩) (g_pVy czb hy6 hPc hDc hKc (czc hZ hS hFc)) rfl rfl hl.1 rfl (lv_room (Nat.le_of_ble_eq_true rfl)) dX5_canBe_53 ⟨Nat.le_of_ble_eq_true rfl, Nat.le_of_ble_eq_true rfl⟩) (fun r16 u15 H locs hw hP hD hS => ?_)
            replace hP : va_P (dC, dI) vwCl ((W_P adK adV cI cB cS q qb n k f t a b sg) ++ va_pl sL (sgF sf)) H := hP
            replace hD : va_D A ((W_P adK adV cI cB cS q qb n k f t a b sg) ++ va_pl sL (sgF sf)) := hD
            refine lv_if_ne (tgt := 61) hx hb dX5_canBe_56 (by decide) (fun hc17 => ?_) (fun hc17 => ?_)
            · replace hw := hw.1 hc17
              exact hw H locs ls hP hD hS (lv_sub hl [1, 2, 3, 4] rfl)
            · replace hw := hw.2 hc17
              refine lv_iconst (v := 0) hx hb dX5_canBe_59 (by decide) ?_
              exact hret dX5_canBe_60 hK hP hD hS isB_0 hw

def w_X5_sorts (n : Nat) (k : Nat) (q : Nat → Nat) (f : Nat → Int32) (t : Nat) (a : Nat → Nat → Int32) (b : Nat → Nat → Int32) (sg : Nat → Nat → Option Nat) (sL : List Nat) (sf : Nat → Nat → Int32)  (p0 : Int32) (Q : Int32 → Unit → Prop) : Prop := (∀ X3 : Int32 → Int32 → Prop, (∀ (x1 : Int32) (x2 : Int32), (((((5 : Int32) ≤ x2) → Q x1 ()) ∧ (¬ ((5 : Int32) ≤ x2) → (vp_in x2 (5)) ∧ ∃ kd6 : Nat, (kAll x2.toNatClampNeg = some kd6) ∧ (kd6 < 5) ∧ w_X5_canBe n k q f t a b sg sL sf kd6 p0 (fun (r8 : Int32) (u7 : Unit) => ∀ J10 : Int32 → Prop, (∀ (x9 : Int32), (∀ x11 : Int32, x11 = x2 + (1 : Int32) → X3 x9 x11) → J10 x9) → (((r8 = 0) → J10 x1) ∧ (¬ (r8 = 0) → ∀ x13 : Int32, x13 = (x1 ||| ((1 : Int32) <<< (x2 &&& 31))) → J10 x13)))))) → X3 x1 x2) → X3 (0 : Int32) (0 : Int32))
abbrev rmX5_sorts : Room := { frames := 4, cells := 0, slots := 0, locals := 107 }
set_option maxHeartbeats 4000000 in
set_option maxRecDepth 100000 in
theorem t_X5_sorts (l : Launch) (dC : Nat → ClassId) (dI : Nat → Nat → Nat) (adK : Nat → Nat) (adV : Nat → Nat) (cI : ClassId) (cB : ClassId) (cS : ClassId) (q : Nat → Nat) (qb : Nat → Nat) (n : Nat) (k : Nat) (sz : Nat) (f : Nat → Int32) (t : Nat) (a : Nat → Nat → Int32) (b : Nat → Nat → Int32) (sg : Nat → Nat → Option Nat) (sL : List Nat) (sf : Nat → Nat → Int32)   (p0 : Int32) (Q0 : Int32 → Unit → Prop) (hw : w_X5_sorts n k q f t a b sg sL sf  p0 Q0) : Met l yX5_sorts wsX5_sorts rmX5_sorts (g_pre (cz adK adV) (dC, dI) vwCl [(cI, .int), (cB, .object RX0), (cS, .object RX7)] ((W_P adK adV cI cB cS q qb n k f t a b sg) ++ va_pl sL (sgF sf)) sz [.ref (q 0), .int p0]) (g_qi (dC, dI) vwCl [(cI, .int), (cB, .object RX0), (cS, .object RX7)] (fun u : Unit => ((W_P adK adV cI cB cS q qb n k f t a b sg) ++ va_pl sL (sgF sf))) Q0 (va_A ((W_P adK adV cI cB cS q qb n k f t a b sg) ++ va_pl sL (sgF sf)) sz)) 0 0 (va_A ((W_P adK adV cI cB cS q qb n k f t a b sg) ++ va_pl sL (sgF sf)) sz) := by
  refine g_starti (by decide) rfl (Nat.le_of_ble_eq_true rfl) ?_
  intro p e s m args below meth c A Q ls hx hb hml hown hts hin hK hP hD hA hS hZ hret hl
  obtain ⟨H, eH⟩ : ∃ H : Heap, H = s.heap := ⟨_, rfl⟩
  obtain ⟨locs, eL⟩ : ∃ L : List Loc, L = [] := ⟨_, rfl⟩
  have hS : va_S A s.heap H locs := by rw [eH, eL]; exact hS
  rw [← eH] at hP
  suffices hg : W p l e rmX5_sorts s m args below meth c H locs 0 0 Q (F0 m 0 ls []) by rw [eH, eL] at hg; exact hg
  clear eH eL
  replace hl : lv_has ls 4 [(0, .ref (q 0)), (1, .int p0)] := hl
  have hf9 := hts (.fieldLink RX5 9 "NumberPile$Pile" "kinds" "[LNumberPile$Brick;") (by decide +kernel)
  have hiX5 : ∀ w ∈ u_ws RX5 TX5 15, w ∈ wsX5_sorts := fun w h => List.mem_cons_of_mem _ (List.mem_append_left _ (List.mem_append_left _ (List.mem_append_right _ h)))
  unfold w_X5_sorts at hw
  refine lv_iconst (v := 0) hx hb dX5_sorts_0 (by decide) ?_
  refine lv_istore_n (lv' := [(2, .int (0 : Int32)), (0, .ref (q 0)), (1, .int p0)]) hx hb dX5_sorts_1 rfl hl (by decide) rfl (fun ls hl => ?_)
  refine lv_iconst (v := 0) hx hb dX5_sorts_2 (by decide) ?_
  refine lv_istore_n (lv' := [(3, .int (0 : Int32)), (2, .int (0 : Int32)), (0, .ref (q 0)), (1, .int p0)]) hx hb dX5_sorts_3 rfl hl (by decide) rfl (fun ls hl => ?_)
  refine hw (fun (x1 : Int32) (x2 : Int32) => ∀ (H : Heap) (locs : List Loc) (ls : Array Slot), va_P (dC, dI) vwCl ((W_P adK adV cI cB cS q qb n k f t a b sg) ++ va_pl sL (sgF sf)) H → va_D A ((W_P adK adV cI cB cS q qb n k f t a b sg) ++ va_pl sL (sgF sf)) → va_S A s.heap H locs → lv_has ls 4 [(0, .ref (q 0)), (1, .int p0), (2, .int x1), (3, .int x2)] → W p l e rmX5_sorts s m args below meth c H locs 0 0 Q (F0 m 4 ls [])) ?_ H locs ls hP hD hS (lv_sub hl [2, 3, 1, 0] rfl)
  · intro x1 x2 hw H locs ls hP hD hS hl
    refine lv_iload_n hx hb dX5_sorts_4 rfl (lv_at hl 3 rfl) ?_
    refine lv_aload_n hx hb dX5_sorts_5 rfl (lv_at hl 0 rfl) ?_
    refine va_get (D := (dC, dI)) (ci := 7) (v := .ref (q 1)) (C := RX5) (T := TX5) (N := 15) hx hb hts hiX5 hown hK hP 0 rfl rfl 2 (by decide) hf9 (fun _ h9 => h9) rfl dX5_sorts_6 ?_
    refine va_alen hx hb hK hP 1 1 rfl rfl (v := (5 : Int32)) rfl dX5_sorts_9 ?_
    refine lv_icmp_ge (tgt := 39) hx hb dX5_sorts_10 (by decide) (fun hc4 => ?_) (fun hc4 => ?_)
    · replace hw := hw.1 hc4
      refine lv_iload_n hx hb dX5_sorts_39 rfl (lv_at hl 2 rfl) ?_
      exact hret dX5_sorts_40 hK hP hD hS hw
    · replace hw := hw.2 hc4
      refine lv_aload_n hx hb dX5_sorts_13 rfl (lv_at hl 0 rfl) ?_
      refine lv_iload_n hx hb dX5_sorts_14 rfl (lv_at hl 1 rfl) ?_
      refine lv_aload_n hx hb dX5_sorts_15 rfl (lv_at hl 0 rfl) ?_
      refine va_get (D := (dC, dI)) (ci := 7) (v := .ref (q 1)) (C := RX5) (T := TX5) (N := 15) hx hb hts hiX5 hown hK hP 0 rfl rfl 2 (by decide) hf9 (fun _ h9 => h9) rfl dX5_sorts_16 ?_
      refine lv_iload_n hx hb dX5_sorts_19 rfl (lv_at hl 3 rfl) ?_
      obtain ⟨hb5, hw⟩ := hw
      refine va_aldq hx hb hK hP 1 1 rfl rfl hb5 dX5_sorts_20 ?_
      obtain ⟨kd6, hkd6, gkd6, hw⟩ := hw
      refine W.eq (congrArg (fun v => F0 m 21 ls (v :: [.int p0, .ref (q 0)])) (bk_rf (qb := qb) hkd6)) ?_
      refine g_ci (g_J.poolP (W2 := fun u7 : Unit => (W_P adK adV cI cB cS q qb n k f t a b sg)) (pl := va_pl sL (sgF sf)) (PL := fun u7 : Unit => va_pl sL (sgF sf)) (RX := fun u7 : Unit => (W_P adK adV cI cB cS q qb n k f t a b sg)) [] [0, 1, 2, 3, 4, 5, 6, 7, 8, 9, 10, 11, 12, 13, 14, 15, 16, 17, 18, 19, 20, 21, 22, 23, 24, 25, 26] [] [0, 1, 2, 3, 4, 5, 6, 7, 8, 9, 10, 11, 12, 13, 14, 15, 16, 17, 18, 19, 20, 21, 22, 23, 24, 25, 26] rfl (by decide) rfl (by decide) (by decide) (fun _ => rfl) (by decide)) [0, 1, 2] hK hP hD hS hA rfl (fun hPc hDc hKc hFc => va_runV (As := [.int p0, .ref (qb kd6)]) (rest := []) ⟨hx, hb, hml, hown, hts⟩ (t_X5_canBe l dC dI adK adV cI cB cS q qb n k H.size f t a b sg sL sf kd6 gkd6 p0 _ hw) (cwV 2 hts gX5_sorts_X5_canBe rfl rfl rfl (by decide +kernel) ⟨Nat.le_of_ble_eq_true rfl, Nat.le_of_ble_eq_true rfl⟩) (g_pV czb (q0 := 0) rfl rfl hPc hDc hKc (czc hZ hS hFc)) rfl rfl hl.1 rfl (lv_room (Nat.le_of_ble_eq_true rfl)) dX5_sorts_21 ⟨Nat.le_of_ble_eq_true rfl, Nat.le_of_ble_eq_true rfl⟩) (fun r8 u7 H locs hw hP hD hS => ?_)
      replace hP : va_P (dC, dI) vwCl ((W_P adK adV cI cB cS q qb n k f t a b sg) ++ va_pl sL (sgF sf)) H := hP
      replace hD : va_D A ((W_P adK adV cI cB cS q qb n k f t a b sg) ++ va_pl sL (sgF sf)) := hD
      replace hw := hw (fun (x9 : Int32) => ∀ (H : Heap) (locs : List Loc) (ls : Array Slot), va_P (dC, dI) vwCl ((W_P adK adV cI cB cS q qb n k f t a b sg) ++ va_pl sL (sgF sf)) H → va_D A ((W_P adK adV cI cB cS q qb n k f t a b sg) ++ va_pl sL (sgF sf)) → va_S A s.heap H locs → lv_has ls 4 [(0, .ref (q 0)), (1, .int p0), (2, .int x9), (3, .int x2)] → W p l e rmX5_sorts s m args below meth c H locs 0 0 Q (F0 m 33 ls [])) (by
        intro x9 hw H locs ls hP hD hS hl
        obtain ⟨x11, ex11⟩ : ∃ y : Int32, y = x2 + (1 : Int32) := ⟨_, rfl⟩
        replace hw := hw x11 ex11
        refine lv_iinc (v := x11) (lv' := [(3, .int x11), (0, .ref (q 0)), (1, .int p0), (2, .int x9)]) hx hb dX5_sorts_33 hl (k := 3) rfl (by rw [ex11]; rfl) (by decide) rfl (fun ls hl => ?_)
        refine lv_goto (tgt := 4) hx hb dX5_sorts_36 (by decide) ?_
        exact hw H locs ls hP hD hS (lv_sub hl [1, 2, 3, 0] rfl))
      refine lv_if_eq (tgt := 33) hx hb dX5_sorts_24 (by decide) (fun hc12 => ?_) (fun hc12 => ?_)
      · replace hw := hw.1 hc12
        exact hw H locs ls hP hD hS (lv_sub hl [0, 1, 2, 3] rfl)
      · replace hw := hw.2 hc12
        refine lv_iload_n hx hb dX5_sorts_27 rfl (lv_at hl 2 rfl) ?_
        refine lv_iconst (v := 1) hx hb dX5_sorts_28 (by decide) ?_
        refine lv_iload_n hx hb dX5_sorts_29 rfl (lv_at hl 3 rfl) ?_
        refine lv_ishl hx hb dX5_sorts_30 ?_
        refine lv_ior hx hb dX5_sorts_31 ?_
        refine lv_topi (fun x13 ex13 => ?_)
        replace hw := hw x13 ex13
        refine lv_istore_n (lv' := [(2, .int x13), (0, .ref (q 0)), (1, .int p0), (3, .int x2)]) hx hb dX5_sorts_32 rfl hl (by decide) rfl (fun ls hl => ?_)
        exact hw H locs ls hP hD hS (lv_sub hl [1, 2, 0, 3] rfl)

def w_X5_kindOf (n : Nat) (k : Nat) (q : Nat → Nat) (f : Nat → Int32) (t : Nat) (a : Nat → Nat → Int32) (b : Nat → Nat → Int32) (sg : Nat → Nat → Option Nat) (sL : List Nat) (sf : Nat → Nat → Int32)  (p0 : Int32) (Q : Int32 → Unit → Prop) : Prop := (vp_in (p0 - (nI n)) (k - n)) ∧ Q ((b 0) (p0 - (nI n)).toNatClampNeg) ()
abbrev rmX5_kindOf : Room := { frames := 0, cells := 0, slots := 0, locals := 0 }
set_option maxHeartbeats 4000000 in
set_option maxRecDepth 100000 in
theorem t_X5_kindOf (l : Launch) (dC : Nat → ClassId) (dI : Nat → Nat → Nat) (adK : Nat → Nat) (adV : Nat → Nat) (cI : ClassId) (cB : ClassId) (cS : ClassId) (q : Nat → Nat) (qb : Nat → Nat) (n : Nat) (k : Nat) (sz : Nat) (f : Nat → Int32) (t : Nat) (a : Nat → Nat → Int32) (b : Nat → Nat → Int32) (sg : Nat → Nat → Option Nat) (sL : List Nat) (sf : Nat → Nat → Int32)   (p0 : Int32) (Q0 : Int32 → Unit → Prop) (hw : w_X5_kindOf n k q f t a b sg sL sf  p0 Q0) : Met l yX5_kindOf wsX5_kindOf rmX5_kindOf (g_pre (cz adK adV) (dC, dI) vwCl [(cI, .int), (cB, .object RX0), (cS, .object RX7)] ((W_P adK adV cI cB cS q qb n k f t a b sg) ++ va_pl sL (sgF sf)) sz [.ref (q 0), .int p0]) (g_qi (dC, dI) vwCl [(cI, .int), (cB, .object RX0), (cS, .object RX7)] (fun u : Unit => ((W_P adK adV cI cB cS q qb n k f t a b sg) ++ va_pl sL (sgF sf))) Q0 (va_A ((W_P adK adV cI cB cS q qb n k f t a b sg) ++ va_pl sL (sgF sf)) sz)) 0 0 (va_A ((W_P adK adV cI cB cS q qb n k f t a b sg) ++ va_pl sL (sgF sf)) sz) := by
  refine g_starti (by decide) rfl (Nat.le_of_ble_eq_true rfl) ?_
  intro p e s m args below meth c A Q ls hx hb hml hown hts hin hK hP hD hA hS hZ hret hl
  obtain ⟨H, eH⟩ : ∃ H : Heap, H = s.heap := ⟨_, rfl⟩
  obtain ⟨locs, eL⟩ : ∃ L : List Loc, L = [] := ⟨_, rfl⟩
  have hS : va_S A s.heap H locs := by rw [eH, eL]; exact hS
  rw [← eH] at hP
  suffices hg : W p l e rmX5_kindOf s m args below meth c H locs 0 0 Q (F0 m 0 ls []) by rw [eH, eL] at hg; exact hg
  clear eH eL
  replace hl : lv_has ls 2 [(0, .ref (q 0)), (1, .int p0)] := hl
  have hf31 := hts (.fieldLink RX5 31 "NumberPile$Pile" "now" "LNumberPile$State;") (by decide +kernel)
  have hiX5 : ∀ w ∈ u_ws RX5 TX5 15, w ∈ wsX5_kindOf := fun w h => List.mem_cons_of_mem _ (List.mem_append_left _ (List.mem_append_right _ h))
  have nf49 := va_Nw.use (A := args) rfl (hZ.1 _ (List.mem_of_getElem? (i := 23) (rfl : cz_nest[23]? = some (.fieldLinkNest RX5 49 "NumberPile$State" "above" "[I" "NumberPile"))))
  have hiX8 : ∀ w ∈ u_ws RX8 TX8 6, w ∈ wsX5_kindOf := fun w h => List.mem_cons_of_mem _ (List.mem_append_right _ h)
  have hf15 := hts (.fieldLink RX5 15 "NumberPile$Pile" "wide" "I") (by decide +kernel)
  unfold w_X5_kindOf at hw
  refine lv_aload_n hx hb dX5_kindOf_0 rfl (lv_at hl 0 rfl) ?_
  refine va_get (D := (dC, dI)) (ci := 7) (v := .ref (q 3)) (C := RX5) (T := TX5) (N := 15) hx hb hts hiX5 hown hK hP 0 rfl rfl 4 (by decide) hf31 (fun _ h9 => h9) rfl dX5_kindOf_1 ?_
  refine va_getN (D := (dC, dI)) (ci := 10) (v := .ref (q 4)) (C := RX8) (T := TX8) (N := 6) hx hb hts hiX8 hown hK hP 3 rfl rfl 0 (by decide) nf49 (fun _ h9 => h9) rfl dX5_kindOf_4 ?_
  refine lv_iload_n hx hb dX5_kindOf_7 rfl (lv_at hl 1 rfl) ?_
  refine lv_aload_n hx hb dX5_kindOf_8 rfl (lv_at hl 0 rfl) ?_
  refine va_get (D := (dC, dI)) (ci := 7) (v := .int (nI n)) (C := RX5) (T := TX5) (N := 15) hx hb hts hiX5 hown hK hP 0 rfl rfl 0 (by decide) hf15 (fun _ h9 => h9) rfl dX5_kindOf_9 ?_
  refine lv_isub hx hb dX5_kindOf_12 ?_
  obtain ⟨hb1, hw⟩ := hw
  refine va_iald hx hb hK hP 4 0 rfl rfl hb1 dX5_kindOf_13 ?_
  exact hret dX5_kindOf_14 hK hP hD hS hw

def w_X8_takeFrom (n : Nat) (k : Nat) (oA : Nat → Int32) (oF : Nat → Int32) (oT : Nat → Int32) (oS : Nat → Option Nat) (os : Int32) (oc : Int32) (tA : Nat → Int32) (tF : Nat → Int32) (tT : Nat → Int32) (tS : Nat → Option Nat) (ts : Int32) (tc : Int32) (sL : List Nat) (sf : Nat → Nat → Int32)   (Q : ((Nat → Int32) × (Nat → Int32) × (Nat → Int32) × (Nat → Option Nat) × (Int32) × (Int32)) → Prop) : Prop := (∀ X3 : Int32 → (Nat → Option Nat) → Prop, (∀ (x1 : Int32) (tSv2 : (Nat → Option Nat)), (∀ J4 : Prop, ((w_X10_copy (k - n) (k - n) oA tA   (fun (u5 : ((Nat → Int32))) => w_X10_copy n n oF tF   (fun (u6 : ((Nat → Int32))) => w_X10_copy k k oT tT   (fun (u7 : ((Nat → Int32))) => Q (u5, u6, u7, tSv2, os, oc))))) → J4) → ((((6 : Int32) ≤ x1) → J4) ∧ (¬ ((6 : Int32) ≤ x1) → ((((6 : Int32) ≤ x1) → J4) ∧ (¬ ((6 : Int32) ≤ x1) → (vp_in x1 (6)) ∧ (((oS x1.toNatClampNeg = none) → (vp_in x1 (6)) ∧ ∀ x14 : Int32, x14 = x1 + (1 : Int32) → X3 x14 (va_up tSv2 x1.toNatClampNeg none)) ∧ (∀ y11 : Nat, oS x1.toNatClampNeg = some y11 → (y11 ∈ sL) ∧ (vp_in x1 (6)) ∧ ∀ x17 : Int32, x17 = x1 + (1 : Int32) → X3 x17 (va_up tSv2 x1.toNatClampNeg (some y11))))))))) → X3 x1 tSv2) → X3 (0 : Int32) tS)
abbrev rmX8_takeFrom : Room := { frames := 2, cells := 0, slots := 0, locals := 81 }
set_option maxHeartbeats 4000000 in
set_option maxRecDepth 100000 in
theorem t_X8_takeFrom (l : Launch) (dC : Nat → ClassId) (dI : Nat → Nat → Nat) (adK : Nat → Nat) (adV : Nat → Nat) (cI : ClassId) (cB : ClassId) (cS : ClassId) (h : Nat) (h1 : Nat) (h2 : Nat) (h3 : Nat) (h4 : Nat) (g : Nat) (g1 : Nat) (g2 : Nat) (g3 : Nat) (g4 : Nat) (qb : Nat → Nat) (n : Nat) (k : Nat) (oA : Nat → Int32) (oF : Nat → Int32) (oT : Nat → Int32) (oS : Nat → Option Nat) (os : Int32) (oc : Int32) (sz : Nat) (tA : Nat → Int32) (tF : Nat → Int32) (tT : Nat → Int32) (tS : Nat → Option Nat) (ts : Int32) (tc : Int32) (sL : List Nat) (sf : Nat → Nat → Int32)    (Q0 : ((Nat → Int32) × (Nat → Int32) × (Nat → Int32) × (Nat → Option Nat) × (Int32) × (Int32)) → Prop) (hw : w_X8_takeFrom n k oA oF oT oS os oc tA tF tT tS ts tc sL sf   Q0) : Met l yX8_takeFrom wsX8_takeFrom rmX8_takeFrom (g_pre (cz adK adV) (dC, dI) vwCl [(cI, .int), (cB, .object RX0), (cS, .object RX7)] ((W_TS adK adV cI cB cS h h1 h2 h3 h4 g g1 g2 g3 g4 qb n k oA oF oT oS os oc tA tF tT tS ts tc) ++ va_pl sL (sgF sf)) sz [.ref h, .ref g]) (g_qv (dC, dI) vwCl [(cI, .int), (cB, .object RX0), (cS, .object RX7)] (fun u : ((Nat → Int32) × (Nat → Int32) × (Nat → Int32) × (Nat → Option Nat) × (Int32) × (Int32)) => ((W_TS adK adV cI cB cS h h1 h2 h3 h4 g g1 g2 g3 g4 qb n k oA oF oT oS os oc (u.1) (u.2.1) (u.2.2.1) (u.2.2.2.1) (u.2.2.2.2.1) (u.2.2.2.2.2)) ++ va_pl sL (sgF sf))) Q0 (va_A ((W_TS adK adV cI cB cS h h1 h2 h3 h4 g g1 g2 g3 g4 qb n k oA oF oT oS os oc tA tF tT tS ts tc) ++ va_pl sL (sgF sf)) sz)) 0 0 (va_A ((W_TS adK adV cI cB cS h h1 h2 h3 h4 g g1 g2 g3 g4 qb n k oA oF oT oS os oc tA tF tT tS ts tc) ++ va_pl sL (sgF sf)) sz) := by
  refine g_startv (by decide) rfl (Nat.le_of_ble_eq_true rfl) ?_
  intro p e s m args below meth c A Q ls hx hb hml hown hts hin hK hP hD hA hS hZ hret hl
  obtain ⟨H, eH⟩ : ∃ H : Heap, H = s.heap := ⟨_, rfl⟩
  obtain ⟨locs, eL⟩ : ∃ L : List Loc, L = [] := ⟨_, rfl⟩
  have hS : va_S A s.heap H locs := by rw [eH, eL]; exact hS
  rw [← eH] at hP
  suffices hg : W p l e rmX8_takeFrom s m args below meth c H locs 0 0 Q (F0 m 0 ls []) by rw [eH, eL] at hg; exact hg
  clear eH eL
  replace hl : lv_has ls 3 [(0, .ref h), (1, .ref g)] := hl
  have hf29 := hts (.fieldLink RX8 29 "NumberPile$State" "seen" "[LNumberPile$Sight;") (by decide +kernel)
  have hiX8 : ∀ w ∈ u_ws RX8 TX8 6, w ∈ wsX8_takeFrom := fun w h => List.mem_cons_of_mem _ (List.mem_append_right _ h)
  have hf9 := hts (.fieldLink RX8 9 "NumberPile$State" "above" "[I") (by decide +kernel)
  have nm37 := hZ.1 _ (List.mem_of_getElem? (i := 34) (rfl : cz_nest[34]? = some (.methodLinkNest RX8 37 yX10_copy "NumberPile")))
  have iniRX10 := hts (.initialized RX10) (by decide +kernel)
  have st37 := hts (.static yX10_copy) (by decide +kernel)
  have hf15 := hts (.fieldLink RX8 15 "NumberPile$State" "figures" "[I") (by decide +kernel)
  have hf18 := hts (.fieldLink RX8 18 "NumberPile$State" "told" "[I") (by decide +kernel)
  have hf33 := hts (.fieldLink RX8 33 "NumberPile$State" "sights" "I") (by decide +kernel)
  have hf41 := hts (.fieldLink RX8 41 "NumberPile$State" "changes" "I") (by decide +kernel)
  unfold w_X8_takeFrom at hw
  refine lv_iconst (v := 0) hx hb dX8_takeFrom_0 (by decide) ?_
  refine lv_istore_n (lv' := [(2, .int (0 : Int32)), (0, .ref h), (1, .ref g)]) hx hb dX8_takeFrom_1 rfl hl (by decide) rfl (fun ls hl => ?_)
  refine hw (fun (x1 : Int32) (tSv2 : (Nat → Option Nat)) => ∀ (H : Heap) (locs : List Loc) (ls : Array Slot), va_P (dC, dI) vwCl ((W_TS adK adV cI cB cS h h1 h2 h3 h4 g g1 g2 g3 g4 qb n k oA oF oT oS os oc tA tF tT tSv2 ts tc) ++ va_pl sL (sgF sf)) H → va_D A ((W_TS adK adV cI cB cS h h1 h2 h3 h4 g g1 g2 g3 g4 qb n k oA oF oT oS os oc tA tF tT tSv2 ts tc) ++ va_pl sL (sgF sf)) → va_S A s.heap H locs → lv_has ls 3 [(0, .ref h), (1, .ref g), (2, .int x1)] → W p l e rmX8_takeFrom s m args below meth c H locs 0 0 Q (F0 m 2 ls [])) ?_ H locs ls hP hD hS (lv_sub hl [1, 2, 0] rfl)
  · intro x1 tSv2 hw H locs ls hP hD hS hl
    refine lv_iload_n hx hb dX8_takeFrom_2 rfl (lv_at hl 2 rfl) ?_
    refine lv_aload_n hx hb dX8_takeFrom_3 rfl (lv_at hl 0 rfl) ?_
    refine va_get (D := (dC, dI)) (ci := 10) (v := .ref h4) (C := RX8) (T := TX8) (N := 6) hx hb hts hiX8 hown hK hP 0 rfl rfl 3 (by decide) hf29 (fun _ h9 => h9) rfl dX8_takeFrom_4 ?_
    refine va_alen hx hb hK hP 4 2 rfl rfl (v := (6 : Int32)) rfl dX8_takeFrom_7 ?_
    replace hw := hw (∀ (H : Heap) (locs : List Loc) (ls : Array Slot), va_P (dC, dI) vwCl ((W_TS adK adV cI cB cS h h1 h2 h3 h4 g g1 g2 g3 g4 qb n k oA oF oT oS os oc tA tF tT tSv2 ts tc) ++ va_pl sL (sgF sf)) H → va_D A ((W_TS adK adV cI cB cS h h1 h2 h3 h4 g g1 g2 g3 g4 qb n k oA oF oT oS os oc tA tF tT tSv2 ts tc) ++ va_pl sL (sgF sf)) → va_S A s.heap H locs → lv_has ls 3 [(0, .ref h), (1, .ref g)] → W p l e rmX8_takeFrom s m args below meth c H locs 0 0 Q (F0 m 38 ls [])) (by
      intro hw H locs ls hP hD hS hl
      refine lv_aload_n hx hb dX8_takeFrom_38 rfl (lv_at hl 1 rfl) ?_
      refine va_get (D := (dC, dI)) (ci := 10) (v := .ref g1) (C := RX8) (T := TX8) (N := 6) hx hb hts hiX8 hown hK hP 5 rfl rfl 0 (by decide) hf9 (fun _ h9 => h9) rfl dX8_takeFrom_39 ?_
      refine lv_aload_n hx hb dX8_takeFrom_42 rfl (lv_at hl 0 rfl) ?_
      refine va_get (D := (dC, dI)) (ci := 10) (v := .ref h1) (C := RX8) (T := TX8) (N := 6) hx hb hts hiX8 hown hK hP 0 rfl rfl 0 (by decide) hf9 (fun _ h9 => h9) rfl dX8_takeFrom_43 ?_
      refine g_cv (g_J.poolQ (W2 := fun u5 : ((Nat → Int32)) => (W_TS adK adV cI cB cS h h1 h2 h3 h4 g g1 g2 g3 g4 qb n k oA oF oT oS os oc u5 tF tT tSv2 ts tc)) (pl := va_pl sL (sgF sf)) [(h, .inr (10, [.ref h1, .ref h2, .ref h3, .ref h4, .int ts, .int tc])), (h2, .inl (cI, n, .inl tF)), (h3, .inl (cI, k, .inl tT)), (h4, .inl (cS, (6), .inr (.inr (.inr (.inr tSv2))))), (g, .inr (10, [.ref g1, .ref g2, .ref g3, .ref g4, .int os, .int oc])), (g2, .inl (cI, n, .inl oF)), (g3, .inl (cI, k, .inl oT)), (g4, .inl (cS, (6), .inr (.inr (.inr (.inr oS))))), ((qb 0), .inr (2, [])), ((qb 1), .inr (3, [])), ((qb 2), .inr (5, [])), ((qb 3), .inr (11, [])), ((qb 4), .inr (4, []))] [6, 1] [0, 2, 3, 4, 5, 7, 8, 9, 10, 11, 12, 13, 14] [0, 14, 1, 2, 3, 4, 13, 5, 6, 7, 8, 9, 10, 11, 12] rfl (by decide) rfl (by decide) (by decide) (fun _ => rfl) (by decide)) [0] hK hP hD hS hA rfl (fun hPc hDc hKc hFc => va_runSN (As := [.ref g1, .ref h1]) (rest := []) ⟨hx, hb, hml, hown, hts⟩ (t_X10_copy l dC dI cI g1 h1 (k - n) (k - n) oA H.size tA   _ hw) ⟨va_cnB 2 hts gX8_takeFrom_X10_copy_n37 rfl rfl rfl nm37 iniRX10 (by decide +kernel) ⟨Nat.le_of_ble_eq_true rfl, Nat.le_of_ble_eq_true rfl⟩, st37, trivial⟩ (g_pS g_Tb hPc hDc hKc (fun _ _ _ => trivial)) rfl rfl hl.1 rfl (lv_room (Nat.le_of_ble_eq_true rfl)) dX8_takeFrom_46 ⟨Nat.le_of_ble_eq_true rfl, Nat.le_of_ble_eq_true rfl⟩) (fun u5 H locs hw hP hD hS => ?_)
      replace hP : va_P (dC, dI) vwCl ((W_TS adK adV cI cB cS h h1 h2 h3 h4 g g1 g2 g3 g4 qb n k oA oF oT oS os oc u5 tF tT tSv2 ts tc) ++ va_pl sL (sgF sf)) H := hP
      replace hD : va_D A ((W_TS adK adV cI cB cS h h1 h2 h3 h4 g g1 g2 g3 g4 qb n k oA oF oT oS os oc u5 tF tT tSv2 ts tc) ++ va_pl sL (sgF sf)) := hD
      refine lv_aload_n hx hb dX8_takeFrom_49 rfl (lv_at hl 1 rfl) ?_
      refine va_get (D := (dC, dI)) (ci := 10) (v := .ref g2) (C := RX8) (T := TX8) (N := 6) hx hb hts hiX8 hown hK hP 5 rfl rfl 1 (by decide) hf15 (fun _ h9 => h9) rfl dX8_takeFrom_50 ?_
      refine lv_aload_n hx hb dX8_takeFrom_53 rfl (lv_at hl 0 rfl) ?_
      refine va_get (D := (dC, dI)) (ci := 10) (v := .ref h2) (C := RX8) (T := TX8) (N := 6) hx hb hts hiX8 hown hK hP 0 rfl rfl 1 (by decide) hf15 (fun _ h9 => h9) rfl dX8_takeFrom_54 ?_
      refine g_cv (g_J.poolQ (W2 := fun u6 : ((Nat → Int32)) => (W_TS adK adV cI cB cS h h1 h2 h3 h4 g g1 g2 g3 g4 qb n k oA oF oT oS os oc u5 u6 tT tSv2 ts tc)) (pl := va_pl sL (sgF sf)) [(h, .inr (10, [.ref h1, .ref h2, .ref h3, .ref h4, .int ts, .int tc])), (h1, .inl (cI, (k - n), .inl u5)), (h3, .inl (cI, k, .inl tT)), (h4, .inl (cS, (6), .inr (.inr (.inr (.inr tSv2))))), (g, .inr (10, [.ref g1, .ref g2, .ref g3, .ref g4, .int os, .int oc])), (g1, .inl (cI, (k - n), .inl oA)), (g3, .inl (cI, k, .inl oT)), (g4, .inl (cS, (6), .inr (.inr (.inr (.inr oS))))), ((qb 0), .inr (2, [])), ((qb 1), .inr (3, [])), ((qb 2), .inr (5, [])), ((qb 3), .inr (11, [])), ((qb 4), .inr (4, []))] [7, 2] [0, 1, 3, 4, 5, 6, 8, 9, 10, 11, 12, 13, 14] [0, 1, 14, 2, 3, 4, 5, 13, 6, 7, 8, 9, 10, 11, 12] rfl (by decide) rfl (by decide) (by decide) (fun _ => rfl) (by decide)) [0] hK hP hD hS hA rfl (fun hPc hDc hKc hFc => va_runSN (As := [.ref g2, .ref h2]) (rest := []) ⟨hx, hb, hml, hown, hts⟩ (t_X10_copy l dC dI cI g2 h2 n n oF H.size tF   _ hw) ⟨va_cnB 2 hts gX8_takeFrom_X10_copy_n37 rfl rfl rfl nm37 iniRX10 (by decide +kernel) ⟨Nat.le_of_ble_eq_true rfl, Nat.le_of_ble_eq_true rfl⟩, st37, trivial⟩ (g_pS g_Tb hPc hDc hKc (fun _ _ _ => trivial)) rfl rfl hl.1 rfl (lv_room (Nat.le_of_ble_eq_true rfl)) dX8_takeFrom_57 ⟨Nat.le_of_ble_eq_true rfl, Nat.le_of_ble_eq_true rfl⟩) (fun u6 H locs hw hP hD hS => ?_)
      replace hP : va_P (dC, dI) vwCl ((W_TS adK adV cI cB cS h h1 h2 h3 h4 g g1 g2 g3 g4 qb n k oA oF oT oS os oc u5 u6 tT tSv2 ts tc) ++ va_pl sL (sgF sf)) H := hP
      replace hD : va_D A ((W_TS adK adV cI cB cS h h1 h2 h3 h4 g g1 g2 g3 g4 qb n k oA oF oT oS os oc u5 u6 tT tSv2 ts tc) ++ va_pl sL (sgF sf)) := hD
      refine lv_aload_n hx hb dX8_takeFrom_60 rfl (lv_at hl 1 rfl) ?_
      refine va_get (D := (dC, dI)) (ci := 10) (v := .ref g3) (C := RX8) (T := TX8) (N := 6) hx hb hts hiX8 hown hK hP 5 rfl rfl 2 (by decide) hf18 (fun _ h9 => h9) rfl dX8_takeFrom_61 ?_
      refine lv_aload_n hx hb dX8_takeFrom_64 rfl (lv_at hl 0 rfl) ?_
      refine va_get (D := (dC, dI)) (ci := 10) (v := .ref h3) (C := RX8) (T := TX8) (N := 6) hx hb hts hiX8 hown hK hP 0 rfl rfl 2 (by decide) hf18 (fun _ h9 => h9) rfl dX8_takeFrom_65 ?_
      refine g_cv (g_J.poolQ (W2 := fun u7 : ((Nat → Int32)) => (W_TS adK adV cI cB cS h h1 h2 h3 h4 g g1 g2 g3 g4 qb n k oA oF oT oS os oc u5 u6 u7 tSv2 ts tc)) (pl := va_pl sL (sgF sf)) [(h, .inr (10, [.ref h1, .ref h2, .ref h3, .ref h4, .int ts, .int tc])), (h1, .inl (cI, (k - n), .inl u5)), (h2, .inl (cI, n, .inl u6)), (h4, .inl (cS, (6), .inr (.inr (.inr (.inr tSv2))))), (g, .inr (10, [.ref g1, .ref g2, .ref g3, .ref g4, .int os, .int oc])), (g1, .inl (cI, (k - n), .inl oA)), (g2, .inl (cI, n, .inl oF)), (g4, .inl (cS, (6), .inr (.inr (.inr (.inr oS))))), ((qb 0), .inr (2, [])), ((qb 1), .inr (3, [])), ((qb 2), .inr (5, [])), ((qb 3), .inr (11, [])), ((qb 4), .inr (4, []))] [8, 3] [0, 1, 2, 4, 5, 6, 7, 9, 10, 11, 12, 13, 14] [0, 1, 2, 14, 3, 4, 5, 6, 13, 7, 8, 9, 10, 11, 12] rfl (by decide) rfl (by decide) (by decide) (fun _ => rfl) (by decide)) [0] hK hP hD hS hA rfl (fun hPc hDc hKc hFc => va_runSN (As := [.ref g3, .ref h3]) (rest := []) ⟨hx, hb, hml, hown, hts⟩ (t_X10_copy l dC dI cI g3 h3 k k oT H.size tT   _ hw) ⟨va_cnB 2 hts gX8_takeFrom_X10_copy_n37 rfl rfl rfl nm37 iniRX10 (by decide +kernel) ⟨Nat.le_of_ble_eq_true rfl, Nat.le_of_ble_eq_true rfl⟩, st37, trivial⟩ (g_pS g_Tb hPc hDc hKc (fun _ _ _ => trivial)) rfl rfl hl.1 rfl (lv_room (Nat.le_of_ble_eq_true rfl)) dX8_takeFrom_68 ⟨Nat.le_of_ble_eq_true rfl, Nat.le_of_ble_eq_true rfl⟩) (fun u7 H locs hw hP hD hS => ?_)
      replace hP : va_P (dC, dI) vwCl ((W_TS adK adV cI cB cS h h1 h2 h3 h4 g g1 g2 g3 g4 qb n k oA oF oT oS os oc u5 u6 u7 tSv2 ts tc) ++ va_pl sL (sgF sf)) H := hP
      replace hD : va_D A ((W_TS adK adV cI cB cS h h1 h2 h3 h4 g g1 g2 g3 g4 qb n k oA oF oT oS os oc u5 u6 u7 tSv2 ts tc) ++ va_pl sL (sgF sf)) := hD
      refine lv_aload_n hx hb dX8_takeFrom_71 rfl (lv_at hl 0 rfl) ?_
      refine lv_aload_n hx hb dX8_takeFrom_72 rfl (lv_at hl 1 rfl) ?_
      refine va_get (D := (dC, dI)) (ci := 10) (v := .int os) (C := RX8) (T := TX8) (N := 6) hx hb hts hiX8 hown hK hP 5 rfl rfl 4 (by decide) hf33 (fun _ h9 => h9) rfl dX8_takeFrom_73 ?_
      refine va_put (D := (dC, dI)) (ci := 10) (v := .int os) (ty := (.int)) (C := RX8) (T := TX8) (N := 6) hx hb hts hiX8 tyX8 tyX8_ok nmX8 hown hK hP hD hS 0 rfl rfl 4 (by decide) hf33 (fun _ h9 => h9) rfl (by decide +kernel) rfl rfl (Nat.le_of_ble_eq_true rfl) dX8_takeFrom_76 (fun H locs hP hD hS => ?_)
      replace hP : va_P (dC, dI) vwCl ((W_TS adK adV cI cB cS h h1 h2 h3 h4 g g1 g2 g3 g4 qb n k oA oF oT oS os oc u5 u6 u7 tSv2 os tc) ++ va_pl sL (sgF sf)) H := hP
      replace hD : va_D A ((W_TS adK adV cI cB cS h h1 h2 h3 h4 g g1 g2 g3 g4 qb n k oA oF oT oS os oc u5 u6 u7 tSv2 os tc) ++ va_pl sL (sgF sf)) := hD
      refine lv_aload_n hx hb dX8_takeFrom_79 rfl (lv_at hl 0 rfl) ?_
      refine lv_aload_n hx hb dX8_takeFrom_80 rfl (lv_at hl 1 rfl) ?_
      refine va_get (D := (dC, dI)) (ci := 10) (v := .int oc) (C := RX8) (T := TX8) (N := 6) hx hb hts hiX8 hown hK hP 5 rfl rfl 5 (by decide) hf41 (fun _ h9 => h9) rfl dX8_takeFrom_81 ?_
      refine va_put (D := (dC, dI)) (ci := 10) (v := .int oc) (ty := (.int)) (C := RX8) (T := TX8) (N := 6) hx hb hts hiX8 tyX8 tyX8_ok nmX8 hown hK hP hD hS 0 rfl rfl 5 (by decide) hf41 (fun _ h9 => h9) rfl (by decide +kernel) rfl rfl (Nat.le_of_ble_eq_true rfl) dX8_takeFrom_84 (fun H locs hP hD hS => ?_)
      replace hP : va_P (dC, dI) vwCl ((W_TS adK adV cI cB cS h h1 h2 h3 h4 g g1 g2 g3 g4 qb n k oA oF oT oS os oc u5 u6 u7 tSv2 os oc) ++ va_pl sL (sgF sf)) H := hP
      replace hD : va_D A ((W_TS adK adV cI cB cS h h1 h2 h3 h4 g g1 g2 g3 g4 qb n k oA oF oT oS os oc u5 u6 u7 tSv2 os oc) ++ va_pl sL (sgF sf)) := hD
      exact hret dX8_takeFrom_87 hK hP hD hS hw)
    refine lv_icmp_ge (tgt := 38) hx hb dX8_takeFrom_8 (by decide) (fun hc8 => ?_) (fun hc8 => ?_)
    · replace hw := hw.1 hc8
      exact hw H locs ls hP hD hS (lv_sub hl [0, 1] rfl)
    · replace hw := hw.2 hc8
      refine lv_iload_n hx hb dX8_takeFrom_11 rfl (lv_at hl 2 rfl) ?_
      refine lv_aload_n hx hb dX8_takeFrom_12 rfl (lv_at hl 1 rfl) ?_
      refine va_get (D := (dC, dI)) (ci := 10) (v := .ref g4) (C := RX8) (T := TX8) (N := 6) hx hb hts hiX8 hown hK hP 5 rfl rfl 3 (by decide) hf29 (fun _ h9 => h9) rfl dX8_takeFrom_13 ?_
      refine va_alen hx hb hK hP 9 2 rfl rfl (v := (6 : Int32)) rfl dX8_takeFrom_16 ?_
      refine lv_icmp_ge (tgt := 38) hx hb dX8_takeFrom_17 (by decide) (fun hc9 => ?_) (fun hc9 => ?_)
      · replace hw := hw.1 hc9
        exact hw H locs ls hP hD hS (lv_sub hl [0, 1] rfl)
      · replace hw := hw.2 hc9
        refine lv_aload_n hx hb dX8_takeFrom_20 rfl (lv_at hl 0 rfl) ?_
        refine va_get (D := (dC, dI)) (ci := 10) (v := .ref h4) (C := RX8) (T := TX8) (N := 6) hx hb hts hiX8 hown hK hP 0 rfl rfl 3 (by decide) hf29 (fun _ h9 => h9) rfl dX8_takeFrom_21 ?_
        refine lv_iload_n hx hb dX8_takeFrom_24 rfl (lv_at hl 2 rfl) ?_
        refine lv_aload_n hx hb dX8_takeFrom_25 rfl (lv_at hl 1 rfl) ?_
        refine va_get (D := (dC, dI)) (ci := 10) (v := .ref g4) (C := RX8) (T := TX8) (N := 6) hx hb hts hiX8 hown hK hP 5 rfl rfl 3 (by decide) hf29 (fun _ h9 => h9) rfl dX8_takeFrom_26 ?_
        refine lv_iload_n hx hb dX8_takeFrom_29 rfl (lv_at hl 2 rfl) ?_
        obtain ⟨hb10, hw⟩ := hw
        refine va_aldq hx hb hK hP 9 2 rfl rfl hb10 dX8_takeFrom_30 ?_
        rcases hn12 : (oS x1.toNatClampNeg) with _ | y11
        · replace hw := hw.1 hn12
          refine W.eq (congrArg (fun v => F0 m 31 ls (v :: [.int x1, .ref h4])) (show va_rf none = Value.null from rfl)) ?_
          obtain ⟨hb13, hw⟩ := hw
          refine va_astqN hx hb hK hP hD hS 4 2 rfl rfl hb13 dX8_takeFrom_31 (fun H locs hP hD hS => ?_)
          replace hP : va_P (dC, dI) vwCl ((W_TS adK adV cI cB cS h h1 h2 h3 h4 g g1 g2 g3 g4 qb n k oA oF oT oS os oc tA tF tT (va_up tSv2 x1.toNatClampNeg none) ts tc) ++ va_pl sL (sgF sf)) H := hP
          replace hD : va_D A ((W_TS adK adV cI cB cS h h1 h2 h3 h4 g g1 g2 g3 g4 qb n k oA oF oT oS os oc tA tF tT (va_up tSv2 x1.toNatClampNeg none) ts tc) ++ va_pl sL (sgF sf)) := hD
          obtain ⟨x14, ex14⟩ : ∃ y : Int32, y = x1 + (1 : Int32) := ⟨_, rfl⟩
          replace hw := hw x14 ex14
          refine lv_iinc (v := x14) (lv' := [(2, .int x14), (0, .ref h), (1, .ref g)]) hx hb dX8_takeFrom_32 hl (k := 2) rfl (by rw [ex14]; rfl) (by decide) rfl (fun ls hl => ?_)
          refine lv_goto (tgt := 2) hx hb dX8_takeFrom_35 (by decide) ?_
          exact hw H locs ls hP hD hS (lv_sub hl [1, 2, 0] rfl)
        · obtain ⟨hy11, hw⟩ := hw.2 y11 hn12
          refine W.eq (congrArg (fun v => F0 m 31 ls (v :: [.int x1, .ref h4])) (show va_rf (some y11) = Value.ref y11 from rfl)) ?_
          obtain ⟨hb15, hw⟩ := hw
          obtain ⟨k16, hk16⟩ := va_pl_get (X := (W_TS adK adV cI cB cS h h1 h2 h3 h4 g g1 g2 g3 g4 qb n k oA oF oT oS os oc tA tF tT tSv2 ts tc)) (f := sgF sf) hy11
          refine va_astq hx hb hK hP hD hS 4 2 k16 9 rfl rfl hk16 rfl hb15 dX8_takeFrom_31 (fun H locs hP hD hS => ?_)
          replace hP : va_P (dC, dI) vwCl ((W_TS adK adV cI cB cS h h1 h2 h3 h4 g g1 g2 g3 g4 qb n k oA oF oT oS os oc tA tF tT (va_up tSv2 x1.toNatClampNeg (some y11)) ts tc) ++ va_pl sL (sgF sf)) H := hP
          replace hD : va_D A ((W_TS adK adV cI cB cS h h1 h2 h3 h4 g g1 g2 g3 g4 qb n k oA oF oT oS os oc tA tF tT (va_up tSv2 x1.toNatClampNeg (some y11)) ts tc) ++ va_pl sL (sgF sf)) := hD
          obtain ⟨x17, ex17⟩ : ∃ y : Int32, y = x1 + (1 : Int32) := ⟨_, rfl⟩
          replace hw := hw x17 ex17
          refine lv_iinc (v := x17) (lv' := [(2, .int x17), (0, .ref h), (1, .ref g)]) hx hb dX8_takeFrom_32 hl (k := 2) rfl (by rw [ex17]; rfl) (by decide) rfl (fun ls hl => ?_)
          refine lv_goto (tgt := 2) hx hb dX8_takeFrom_35 (by decide) ?_
          exact hw H locs ls hP hD hS (lv_sub hl [1, 2, 0] rfl)

def w_X5_keepImage (n : Nat) (k : Nat) (q : Nat → Nat) (f : Nat → Int32) (t : Nat) (a : Nat → Nat → Int32) (b : Nat → Nat → Int32) (sg : Nat → Nat → Option Nat) (sL : List Nat) (sf : Nat → Nat → Int32)   (Q : ((Nat → Int32) × (Nat → Nat → Int32) × (Nat → Nat → Int32) × (Nat → Nat → Option Nat)) → Prop) : Prop := w_X8_takeFrom n k (b 0) (a 1) (a 2) (sg 0) (f 3) (f 4) (b 1) (a 3) (a 4) (sg 1) (f 5) (f 6) sL sf  (fun (u1 : ((Nat → Int32) × (Nat → Int32) × (Nat → Int32) × (Nat → Option Nat) × (Int32) × (Int32))) => Q ((upd (upd (upd f 5 (u1.2.2.2.2.1)) 6 (u1.2.2.2.2.2)) 0 (1 : Int32)), (va_up (va_up a 3 (u1.2.1)) 4 (u1.2.2.1)), (va_up b 1 (u1.1)), (va_up sg 1 (u1.2.2.2.1))))
abbrev rmX5_keepImage : Room := { frames := 3, cells := 0, slots := 0, locals := 103 }
set_option maxHeartbeats 4000000 in
set_option maxRecDepth 100000 in
theorem t_X5_keepImage (l : Launch) (dC : Nat → ClassId) (dI : Nat → Nat → Nat) (adK : Nat → Nat) (adV : Nat → Nat) (cI : ClassId) (cB : ClassId) (cS : ClassId) (q : Nat → Nat) (qb : Nat → Nat) (n : Nat) (k : Nat) (sz : Nat) (f : Nat → Int32) (t : Nat) (a : Nat → Nat → Int32) (b : Nat → Nat → Int32) (sg : Nat → Nat → Option Nat) (sL : List Nat) (sf : Nat → Nat → Int32)    (Q0 : ((Nat → Int32) × (Nat → Nat → Int32) × (Nat → Nat → Int32) × (Nat → Nat → Option Nat)) → Prop) (hw : w_X5_keepImage n k q f t a b sg sL sf   Q0) : Met l yX5_keepImage wsX5_keepImage rmX5_keepImage (g_pre (cz adK adV) (dC, dI) vwCl [(cI, .int), (cB, .object RX0), (cS, .object RX7)] ((W_P adK adV cI cB cS q qb n k f t a b sg) ++ va_pl sL (sgF sf)) sz [.ref (q 0)]) (g_qv (dC, dI) vwCl [(cI, .int), (cB, .object RX0), (cS, .object RX7)] (fun u : ((Nat → Int32) × (Nat → Nat → Int32) × (Nat → Nat → Int32) × (Nat → Nat → Option Nat)) => ((W_P adK adV cI cB cS q qb n k (u.1) t (u.2.1) (u.2.2.1) (u.2.2.2)) ++ va_pl sL (sgF sf))) Q0 (va_A ((W_P adK adV cI cB cS q qb n k f t a b sg) ++ va_pl sL (sgF sf)) sz)) 0 0 (va_A ((W_P adK adV cI cB cS q qb n k f t a b sg) ++ va_pl sL (sgF sf)) sz) := by
  refine g_startv (by decide) rfl (Nat.le_of_ble_eq_true rfl) ?_
  intro p e s m args below meth c A Q ls hx hb hml hown hts hin hK hP hD hA hS hZ hret hl
  obtain ⟨H, eH⟩ : ∃ H : Heap, H = s.heap := ⟨_, rfl⟩
  obtain ⟨locs, eL⟩ : ∃ L : List Loc, L = [] := ⟨_, rfl⟩
  have hS : va_S A s.heap H locs := by rw [eH, eL]; exact hS
  rw [← eH] at hP
  suffices hg : W p l e rmX5_keepImage s m args below meth c H locs 0 0 Q (F0 m 0 ls []) by rw [eH, eL] at hg; exact hg
  clear eH eL
  replace hl : lv_has ls 1 [(0, .ref (q 0))] := hl
  have hf35 := hts (.fieldLink RX5 35 "NumberPile$Pile" "kept" "LNumberPile$State;") (by decide +kernel)
  have hiX5 : ∀ w ∈ u_ws RX5 TX5 15, w ∈ wsX5_keepImage := fun w h => List.mem_cons_of_mem _ (List.mem_append_left _ (List.mem_append_right _ h))
  have hf31 := hts (.fieldLink RX5 31 "NumberPile$Pile" "now" "LNumberPile$State;") (by decide +kernel)
  have hf135 := hts (.fieldLink RX5 135 "NumberPile$Pile" "hasImage" "Z") (by decide +kernel)
  unfold w_X5_keepImage at hw
  refine lv_aload_n hx hb dX5_keepImage_0 rfl (lv_at hl 0 rfl) ?_
  refine va_get (D := (dC, dI)) (ci := 7) (v := .ref (q 8)) (C := RX5) (T := TX5) (N := 15) hx hb hts hiX5 hown hK hP 0 rfl rfl 5 (by decide) hf35 (fun _ h9 => h9) rfl dX5_keepImage_1 ?_
  refine lv_aload_n hx hb dX5_keepImage_4 rfl (lv_at hl 0 rfl) ?_
  refine va_get (D := (dC, dI)) (ci := 7) (v := .ref (q 3)) (C := RX5) (T := TX5) (N := 15) hx hb hts hiX5 hown hK hP 0 rfl rfl 4 (by decide) hf31 (fun _ h9 => h9) rfl dX5_keepImage_5 ?_
  refine g_cv (g_J.poolP (W2 := fun u1 : ((Nat → Int32) × (Nat → Int32) × (Nat → Int32) × (Nat → Option Nat) × (Int32) × (Int32)) => (W_P adK adV cI cB cS q qb n k (upd (upd f 5 (u1.2.2.2.2.1)) 6 (u1.2.2.2.2.2)) t (va_up (va_up a 3 (u1.2.1)) 4 (u1.2.2.1)) (va_up b 1 (u1.1)) (va_up sg 1 (u1.2.2.2.1)))) (pl := va_pl sL (sgF sf)) (PL := fun u1 : ((Nat → Int32) × (Nat → Int32) × (Nat → Int32) × (Nat → Option Nat) × (Int32) × (Int32)) => va_pl sL (sgF sf)) (RX := fun u1 : ((Nat → Int32) × (Nat → Int32) × (Nat → Int32) × (Nat → Option Nat) × (Int32) × (Int32)) => (W_TS adK adV cI cB cS (q 8) (q 9) (q 10) (q 11) (q 12) (q 3) (q 4) (q 5) (q 6) (q 7) qb n k (b 0) (a 1) (a 2) (sg 0) (f 3) (f 4) (u1.1) (u1.2.1) (u1.2.2.1) (u1.2.2.2.1) (u1.2.2.2.2.1) (u1.2.2.2.2.2))) [((q 0), .inr (7, [.int (nI n), .int (nI k), .ref (q 1), .ref (q 2), .ref (q 3), .ref (q 8), .int (f 0), .ref (q 13), .ref (q 14), .ref (q 15), .ref (q 18), .ref (q 21), .int (f 1), .ref (q 17), .int (f 2)])), ((q 1), .inl (cB, (5), .inr (.inr (.inr (.inr (fun i => (kAll i).map qb)))))), ((q 2), .inl (cI, k, .inl (a 0))), ((q 13), .inl (cI, k, .inl (a 5))), ((q 14), .inl (cI, k, .inl (a 6))), ((q 15), .inr (8, [.int (nI n), .ref (q 1), .ref (q 4), .ref (q 16), .ref t, .int (f 7)])), ((q 16), .inl (cI, k, .inl (a 8))), ((q 17), .inl (cI, (10 * n), .inl (a 7))), ((q 18), .inr (14, [.ref (q 19), .ref (q 20)])), ((q 19), .inl (cI, (k + 1), .inl (b 2))), ((q 20), .inl (cI, (toL n), .inl (b 3))), ((q 21), .inl (cI, k, .inl (b 4)))] [8, 9, 10, 11, 12, 3, 4, 5, 6, 7, 22, 23, 24, 25, 26] [0, 1, 2, 13, 14, 15, 16, 17, 18, 19, 20, 21] [0, 1, 2, 17, 18, 19, 20, 21, 12, 13, 14, 15, 16, 3, 4, 5, 6, 7, 8, 9, 10, 11, 22, 23, 24, 25, 26] rfl (by decide) rfl (by decide) (by decide) (fun _ => rfl) (by decide)) [0, 1, 2] hK hP hD hS hA rfl (fun hPc hDc hKc hFc => va_runV (As := [.ref (q 3)]) (rest := []) ⟨hx, hb, hml, hown, hts⟩ (t_X8_takeFrom l dC dI adK adV cI cB cS (q 8) (q 9) (q 10) (q 11) (q 12) (q 3) (q 4) (q 5) (q 6) (q 7) qb n k (b 0) (a 1) (a 2) (sg 0) (f 3) (f 4) H.size (b 1) (a 3) (a 4) (sg 1) (f 5) (f 6) sL sf  _ hw) (cwV 1 hts gX5_keepImage_X8_takeFrom rfl rfl rfl (by decide +kernel) ⟨Nat.le_of_ble_eq_true rfl, Nat.le_of_ble_eq_true rfl⟩) (g_pV czb (q0 := 0) rfl rfl hPc hDc hKc (czc hZ hS hFc)) rfl rfl hl.1 rfl (lv_room (Nat.le_of_ble_eq_true rfl)) dX5_keepImage_8 ⟨Nat.le_of_ble_eq_true rfl, Nat.le_of_ble_eq_true rfl⟩) (fun u1 H locs hw hP hD hS => ?_)
  replace hP : va_P (dC, dI) vwCl ((W_P adK adV cI cB cS q qb n k (upd (upd f 5 (u1.2.2.2.2.1)) 6 (u1.2.2.2.2.2)) t (va_up (va_up a 3 (u1.2.1)) 4 (u1.2.2.1)) (va_up b 1 (u1.1)) (va_up sg 1 (u1.2.2.2.1))) ++ va_pl sL (sgF sf)) H := hP
  replace hD : va_D A ((W_P adK adV cI cB cS q qb n k (upd (upd f 5 (u1.2.2.2.2.1)) 6 (u1.2.2.2.2.2)) t (va_up (va_up a 3 (u1.2.1)) 4 (u1.2.2.1)) (va_up b 1 (u1.1)) (va_up sg 1 (u1.2.2.2.1))) ++ va_pl sL (sgF sf)) := hD
  refine lv_aload_n hx hb dX5_keepImage_11 rfl (lv_at hl 0 rfl) ?_
  refine lv_iconst (v := 1) hx hb dX5_keepImage_12 (by decide) ?_
  refine va_put (D := (dC, dI)) (ci := 7) (v := .int (1 : Int32)) (ty := (.boolean)) (C := RX5) (T := TX5) (N := 15) hx hb hts hiX5 tyX5 tyX5_ok nmX5 hown hK hP hD hS 0 rfl rfl 6 (by decide) hf135 (fun _ h9 => h9) rfl (by decide +kernel) rfl rfl (Nat.le_of_ble_eq_true rfl) dX5_keepImage_13 (fun H locs hP hD hS => ?_)
  replace hP : va_P (dC, dI) vwCl ((W_P adK adV cI cB cS q qb n k (upd (upd (upd f 5 (u1.2.2.2.2.1)) 6 (u1.2.2.2.2.2)) 0 (1 : Int32)) t (va_up (va_up a 3 (u1.2.1)) 4 (u1.2.2.1)) (va_up b 1 (u1.1)) (va_up sg 1 (u1.2.2.2.1))) ++ va_pl sL (sgF sf)) H := hP
  replace hD : va_D A ((W_P adK adV cI cB cS q qb n k (upd (upd (upd f 5 (u1.2.2.2.2.1)) 6 (u1.2.2.2.2.2)) 0 (1 : Int32)) t (va_up (va_up a 3 (u1.2.1)) 4 (u1.2.2.1)) (va_up b 1 (u1.1)) (va_up sg 1 (u1.2.2.2.1))) ++ va_pl sL (sgF sf)) := hD
  exact hret dX5_keepImage_16 hK hP hD hS hw
