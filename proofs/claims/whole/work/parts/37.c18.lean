abbrev StPO : Type := (Nat → Int32) × (Nat) × (Nat → Nat → Int32) × (Nat → Nat → Option Nat) × (Nat → Nat → Option Nat)
abbrev W_PO (adK : Nat → Nat) (adV : Nat → Nat) (cI : ClassId) (cB : ClassId) (cS : ClassId) (q : Nat → Nat) (qb : Nat → Nat) (n : Nat) (k : Nat) (cO : ClassId) (f : Nat → Int32) (t : Nat) (a : Nat → Nat → Int32) (b : Nat → Nat → Option Nat) (sg : Nat → Nat → Option Nat) : va_W := [((q 0), .inr (7, [.int (nI n), .int (nI k), .ref (q 1), .ref (q 2), .ref (q 3), .ref (q 8), .int (f 0), .ref (q 13), .ref (q 14), .ref (q 15), .int (f 1), .ref (q 17), .int (f 2)])), ((q 1), .inl (cB, (5), .inr (.inr (.inr (.inr (fun i => (kAll i).map qb)))))), ((q 2), .inl (cI, k, .inl (a 0))), ((q 3), .inr (10, [.ref (q 4), .ref (q 5), .ref (q 6), .ref (q 7), .int (f 3), .int (f 4)])), ((q 4), .inl (cB, (k - n), .inr (.inr (.inr (.inr (fun i => ((b 0) i).map qb)))))), ((q 5), .inl (cI, n, .inl (a 1))), ((q 6), .inl (cI, k, .inl (a 2))), ((q 7), .inl (cS, (6), .inr (.inr (.inr (.inr (sg 0)))))), ((q 8), .inr (10, [.ref (q 9), .ref (q 10), .ref (q 11), .ref (q 12), .int (f 5), .int (f 6)])), ((q 9), .inl (cB, (k - n), .inr (.inr (.inr (.inr (fun i => ((b 1) i).map qb)))))), ((q 10), .inl (cI, n, .inl (a 3))), ((q 11), .inl (cI, k, .inl (a 4))), ((q 12), .inl (cS, (6), .inr (.inr (.inr (.inr (sg 1)))))), ((q 13), .inl (cI, k, .inl (a 5))), ((q 14), .inl (cI, k, .inl (a 6))), ((q 15), .inr (8, [.int (nI n), .ref (q 4), .ref (q 16), .ref t, .int (f 7)])), ((q 16), .inl (cI, k, .inl (a 8))), ((q 17), .inl (cI, (10 * n), .inl (a 7))), ((qb 0), .inr (2, [])), ((qb 1), .inr (3, [])), ((qb 2), .inr (5, [])), ((qb 3), .inr (11, [])), ((qb 4), .inr (4, []))]
abbrev W_POu (adK : Nat → Nat) (adV : Nat → Nat) (cI : ClassId) (cB : ClassId) (cS : ClassId) (q : Nat → Nat) (qb : Nat → Nat) (n : Nat) (k : Nat) (cO : ClassId) (u : StPO) : va_W := W_PO adK adV cI cB cS q qb n k cO u.1 u.2.1 u.2.2.1 u.2.2.2.1 u.2.2.2.2

def w_X5_tallyFitting (n : Nat) (k : Nat) (q : Nat → Nat) (f : Nat → Int32) (t : Nat) (a : Nat → Nat → Int32) (b : Nat → Nat → Option Nat) (sg : Nat → Nat → Option Nat) (sL : List Nat) (sf : Nat → Nat → Int32)   (Q : (Nat × (Nat → Nat) × (Nat → Nat → Int32) × (Nat → Int32) × Nat × (Nat → Nat → Int32)) → Prop) : Prop := (k ≤ 10) ∧ ∀ (q1 : Nat) (r2 : Nat → Nat), (∀ i j : Nat, i < k → j < k → r2 i = r2 j → i = j) → w_X6_start k n t (f 7) (a 8)   (fun (u3 : StRSP) => (∀ X8 : Int32 → (Nat → Int32) → (Nat → Nat → Int32) → (Nat → Nat → Int32) → Prop, (∀ (x4 : Int32) (fv5 : (Nat → Int32)) (av6 : (Nat → Nat → Int32)) (T7 : (Nat → Nat → Int32)), (((((10000 : Int32) ≤ x4) → Q (q1, r2, T7, fv5, (q 6), av6)) ∧ (¬ ((10000 : Int32) ≤ x4) → w_X6_next n k (k - n) (b 0) (av6 2) (fv5 7) (av6 8)   (fun (r11 : Int32) (u10 : ((Int32) × (Nat → Int32))) => (((r11 = 0) → Q (q1, r2, T7, (upd fv5 7 (u10.1)), (q 6), (va_up av6 8 (u10.2)))) ∧ (¬ (r11 = 0) → (∀ X16 : Int32 → (Nat → Nat → Int32) → (Nat → Nat → Int32) → Prop, (∀ (x13 : Int32) (av14 : (Nat → Nat → Int32)) (T15 : (Nat → Nat → Int32)), (((((nI k) ≤ x13) → ∀ x18 : Int32, x18 = x4 + (1 : Int32) → X8 x18 (upd fv5 7 (u10.1)) av14 T15) ∧ (¬ ((nI k) ≤ x13) → (vp_in x13 k) ∧ ∀ x20 : Int32, x20 = ((av14 8) x13.toNatClampNeg) → w_X10_isWithin x20 (0 : Int32) (243 : Int32) (fun (r21 : Int32) => ∀ J24 : (Nat → Nat → Int32) → (Nat → Nat → Int32) → Prop, (∀ (av22 : (Nat → Nat → Int32)) (T23 : (Nat → Nat → Int32)), (∀ x25 : Int32, x25 = x13 + (1 : Int32) → X16 x25 av22 T23) → J24 av22 T23) → (((r21 = 0) → J24 av14 T15) ∧ (¬ (r21 = 0) → (vp_in x13 k) ∧ (vp_in x20 244) ∧ ∀ x30 : Int32, x30 = ((T15 (r2 x13.toNatClampNeg) x20.toNatClampNeg) + (1 : Int32)) → (vp_in x20 244) ∧ J24 av14 (va_up T15 (r2 x13.toNatClampNeg) (upd (T15 (r2 x13.toNatClampNeg)) x20.toNatClampNeg x30)))))))) → X16 x13 av14 T15) → X16 (0 : Int32) (va_up av6 8 (u10.2)) T7))))))) → X8 x4 fv5 av6 T7) → X8 (0 : Int32) (upd f 7 (u3.1)) (va_up a 8 (u3.2)) (fun _ _ => 0)))
abbrev rmX5_tallyFitting : Room := { frames := 4, cells := 11, slots := 2450, locals := 106 }
set_option maxHeartbeats 4000000 in
set_option maxRecDepth 100000 in
theorem t_X5_tallyFitting (l : Launch) (dC : Nat → ClassId) (dI : Nat → Nat → Nat) (adK : Nat → Nat) (adV : Nat → Nat) (cI : ClassId) (cB : ClassId) (cS : ClassId) (q : Nat → Nat) (qb : Nat → Nat) (n : Nat) (k : Nat) (cO : ClassId) (sz : Nat) (f : Nat → Int32) (t : Nat) (a : Nat → Nat → Int32) (b : Nat → Nat → Option Nat) (sg : Nat → Nat → Option Nat) (sL : List Nat) (sf : Nat → Nat → Int32)    (Q0 : (Nat × (Nat → Nat) × (Nat → Nat → Int32) × (Nat → Int32) × Nat × (Nat → Nat → Int32)) → Prop) (hw : w_X5_tallyFitting n k q f t a b sg sL sf   Q0) : Met l yX5_tallyFitting wsX5_tallyFitting rmX5_tallyFitting (g_pre (czo adK adV) (dC, dI) vwCl [(cI, .int), (cB, .object RX0), (cS, .object RX7), (cO, .array .int)] ((W_PO adK adV cI cB cS q qb n k cO f t a b sg) ++ va_pl sL (sgF sf)) sz [.ref (q 0)]) (g_qr (dC, dI) vwCl [(cI, .int), (cB, .object RX0), (cS, .object RX7), (cO, .array .int)] (fun u : (Nat × (Nat → Nat) × (Nat → Nat → Int32) × (Nat → Int32) × Nat × (Nat → Nat → Int32)) => W_PO adK adV cI cB cS q qb n k cO (u.2.2.2.1) (u.2.2.2.2.1) (u.2.2.2.2.2) b sg ++ (va_pl sL (sgF sf) ++ tlO cO cI (u.1) (u.2.1) k (u.2.2.1))) (fun u : (Nat × (Nat → Nat) × (Nat → Nat → Int32) × (Nat → Int32) × Nat × (Nat → Nat → Int32)) => u.1) Q0 (va_A ((W_PO adK adV cI cB cS q qb n k cO f t a b sg) ++ va_pl sL (sgF sf)) sz)) 11 2450 (va_A ((W_PO adK adV cI cB cS q qb n k cO f t a b sg) ++ va_pl sL (sgF sf)) sz) := by
  refine g_startr (Or.inr ⟨_, rfl⟩) (by decide) rfl (Nat.le_of_ble_eq_true rfl) ?_
  intro p e s m args below meth c A Q ls hx hb hml hown hts hin hK hP hD hA hS hZ hret hl
  obtain ⟨H, eH⟩ : ∃ H : Heap, H = s.heap := ⟨_, rfl⟩
  obtain ⟨locs, eL⟩ : ∃ L : List Loc, L = [] := ⟨_, rfl⟩
  have hS : va_S A s.heap H locs := by rw [eH, eL]; exact hS
  rw [← eH] at hP
  suffices hg : W p l e rmX5_tallyFitting s m args below meth c H locs 0 0 Q (F0 m 0 ls []) by rw [eH, eL] at hg; exact hg
  clear eH eL
  replace hl : lv_has ls 5 [(0, .ref (q 0))] := hl
  have hf19 := hts (.fieldLink RX5 19 "NumberPile$Pile" "size" "I") (by decide +kernel)
  have hiX5 : ∀ w ∈ u_ws RX5 TX5 13, w ∈ wsX5_tallyFitting := fun w h => List.mem_cons_of_mem _ (List.mem_append_left _ (List.mem_append_left _ (List.mem_append_right _ h)))
  have cl176 := hts (.classLink RX5 176 "[[I") (by decide +kernel)
  have acI := hts (.arrayClass .int) (by decide +kernel)
  have hf55 := hts (.fieldLink RX5 55 "NumberPile$Pile" "rows" "LNumberPile$Rows;") (by decide +kernel)
  have hf31 := hts (.fieldLink RX5 31 "NumberPile$Pile" "now" "LNumberPile$State;") (by decide +kernel)
  have nf110 := va_Nw.use (A := args) rfl (hZ.1.1 _ (List.mem_of_getElem? (i := 24) (rfl : cz_nest[24]? = some (.fieldLinkNest RX5 110 "NumberPile$State" "told" "[I" "NumberPile"))))
  have hiX8 : ∀ w ∈ u_ws RX8 TX8 6, w ∈ wsX5_tallyFitting := fun w h => List.mem_cons_of_mem _ (List.mem_append_left _ (List.mem_append_right _ h))
  have nf153 := va_Nw.use (A := args) rfl (hZ.1.1 _ (List.mem_of_getElem? (i := 27) (rfl : cz_nest[27]? = some (.fieldLinkNest RX5 153 "NumberPile$Rows" "values" "[I" "NumberPile"))))
  have hiX6 : ∀ w ∈ u_ws RX6 TX6 5, w ∈ wsX5_tallyFitting := fun w h => List.mem_cons_of_mem _ (List.mem_append_right _ h)
  have nm178 := hZ.1.1 _ (List.mem_of_getElem? (i := 28) (rfl : cz_nest[28]? = some (.methodLinkNest RX5 178 yX10_isWithin "NumberPile")))
  have iniRX10 := hts (.initialized RX10) (by decide +kernel)
  have st178 := hts (.static yX10_isWithin) (by decide +kernel)
  unfold w_X5_tallyFitting at hw
  refine lv_aload_n hx hb dX5_tallyFitting_0 rfl (lv_at hl 0 rfl) ?_
  refine va_get (D := (dC, dI)) (ci := 7) (v := .int (nI k)) (C := RX5) (T := TX5) (N := 13) hx hb hts hiX5 hown hK hP 0 rfl rfl 1 (by decide) hf19 (fun _ h9 => h9) rfl dX5_tallyFitting_1 ?_
  refine lv_sipush (v := 244) hx hb dX5_tallyFitting_4 (by decide) ?_
  obtain ⟨hk10, hw⟩ := hw
  refine g_mna hx hb hown cl176 hZ.2 acI hK 0 3 rfl rfl hP hD hS hA hk10 (Nat.le_of_ble_eq_true rfl) (Nat.le_of_ble_eq_true rfl) dX5_tallyFitting_7 (fun q1 r2 H hri hP hD hS => ?_)
  replace hw := hw q1 r2 hri
  refine W.widen (k := 11) (n := 2450) (Nat.le_of_ble_eq_true rfl) (Nat.le_of_ble_eq_true rfl) ?_
  replace hP : va_P (dC, dI) vwCl ((W_PO adK adV cI cB cS q qb n k cO f t a b sg) ++ (va_pl sL (sgF sf) ++ tlO cO cI q1 r2 k (fun _ _ => 0))) H := hP
  replace hD : va_D A ((W_PO adK adV cI cB cS q qb n k cO f t a b sg) ++ (va_pl sL (sgF sf) ++ tlO cO cI q1 r2 k (fun _ _ => 0))) := hD
  refine lv_astore_n (lv' := [(1, .ref q1), (0, .ref (q 0))]) hx hb dX5_tallyFitting_11 rfl hl (by decide) rfl (fun ls hl => ?_)
  refine lv_aload_n hx hb dX5_tallyFitting_12 rfl (lv_at hl 1 rfl) ?_
  refine va_get (D := (dC, dI)) (ci := 7) (v := .ref (q 15)) (C := RX5) (T := TX5) (N := 13) hx hb hts hiX5 hown hK hP 0 rfl rfl 9 (by decide) hf55 (fun _ h9 => h9) rfl dX5_tallyFitting_13 ?_
  refine lv_aload_n hx hb dX5_tallyFitting_16 rfl (lv_at hl 1 rfl) ?_
  refine va_get (D := (dC, dI)) (ci := 7) (v := .ref (q 3)) (C := RX5) (T := TX5) (N := 13) hx hb hts hiX5 hown hK hP 0 rfl rfl 4 (by decide) hf31 (fun _ h9 => h9) rfl dX5_tallyFitting_17 ?_
  refine va_getN (D := (dC, dI)) (ci := 10) (v := .ref (q 6)) (C := RX8) (T := TX8) (N := 6) hx hb hts hiX8 hown hK hP 3 rfl rfl 2 (by decide) nf110 (fun _ h9 => h9) rfl dX5_tallyFitting_20 ?_
  refine g_cv (g_J.poolQ (W2 := fun u3 : StRSP => (W_PO adK adV cI cB cS q qb n k cO (upd f 7 (u3.1)) (q 6) (va_up a 8 (u3.2)) b sg)) (pl := (va_pl sL (sgF sf) ++ tlO cO cI q1 r2 k (fun _ _ => 0))) [((q 0), .inr (7, [.int (nI n), .int (nI k), .ref (q 1), .ref (q 2), .ref (q 3), .ref (q 8), .int (f 0), .ref (q 13), .ref (q 14), .ref (q 15), .int (f 1), .ref (q 17), .int (f 2)])), ((q 1), .inl (cB, (5), .inr (.inr (.inr (.inr (fun i => (kAll i).map qb)))))), ((q 2), .inl (cI, k, .inl (a 0))), ((q 3), .inr (10, [.ref (q 4), .ref (q 5), .ref (q 6), .ref (q 7), .int (f 3), .int (f 4)])), ((q 4), .inl (cB, (k - n), .inr (.inr (.inr (.inr (fun i => ((b 0) i).map qb)))))), ((q 5), .inl (cI, n, .inl (a 1))), ((q 7), .inl (cS, (6), .inr (.inr (.inr (.inr (sg 0)))))), ((q 8), .inr (10, [.ref (q 9), .ref (q 10), .ref (q 11), .ref (q 12), .int (f 5), .int (f 6)])), ((q 9), .inl (cB, (k - n), .inr (.inr (.inr (.inr (fun i => ((b 1) i).map qb)))))), ((q 10), .inl (cI, n, .inl (a 3))), ((q 11), .inl (cI, k, .inl (a 4))), ((q 12), .inl (cS, (6), .inr (.inr (.inr (.inr (sg 1)))))), ((q 13), .inl (cI, k, .inl (a 5))), ((q 14), .inl (cI, k, .inl (a 6))), ((q 17), .inl (cI, (10 * n), .inl (a 7))), ((qb 0), .inr (2, [])), ((qb 1), .inr (3, [])), ((qb 2), .inr (5, [])), ((qb 3), .inr (11, [])), ((qb 4), .inr (4, []))] [15, 16, 6] [0, 1, 2, 3, 4, 5, 7, 8, 9, 10, 11, 12, 13, 14, 17, 18, 19, 20, 21, 22] [0, 1, 2, 3, 4, 5, 22, 6, 7, 8, 9, 10, 11, 12, 13, 20, 21, 14, 15, 16, 17, 18, 19] rfl (by decide) rfl (by decide) (by decide) (fun _ => rfl) (by decide)) [0] hK hP hD hS hA rfl (fun hPc hDc hKc hFc => va_runV (As := [.ref (q 6)]) (rest := []) ⟨hx, hb, hml, hown, hts⟩ (t_X6_start l dC dI cI (q 15) (q 4) (q 16) (q 6) n k (a 2) H.size t (f 7) (a 8)   _ hw) (cwV 1 hts gX5_tallyFitting_X6_start rfl rfl rfl (by decide +kernel) ⟨Nat.le_of_ble_eq_true rfl, Nat.le_of_ble_eq_true rfl⟩) (g_pV g_Tb (q0 := 0) rfl rfl hPc hDc hKc (fun _ _ _ => trivial)) rfl rfl hl.1 rfl (lv_room (Nat.le_of_ble_eq_true rfl)) dX5_tallyFitting_23 ⟨Nat.le_of_ble_eq_true rfl, Nat.le_of_ble_eq_true rfl⟩) (fun u3 H locs hw hP hD hS => ?_)
  replace hP : va_P (dC, dI) vwCl ((W_PO adK adV cI cB cS q qb n k cO (upd f 7 (u3.1)) (q 6) (va_up a 8 (u3.2)) b sg) ++ (va_pl sL (sgF sf) ++ tlO cO cI q1 r2 k (fun _ _ => 0))) H := hP
  replace hD : va_D A ((W_PO adK adV cI cB cS q qb n k cO (upd f 7 (u3.1)) (q 6) (va_up a 8 (u3.2)) b sg) ++ (va_pl sL (sgF sf) ++ tlO cO cI q1 r2 k (fun _ _ => 0))) := hD
  refine lv_iconst (v := 0) hx hb dX5_tallyFitting_26 (by decide) ?_
  refine lv_istore_n (lv' := [(2, .int (0 : Int32)), (1, .ref q1), (0, .ref (q 0))]) hx hb dX5_tallyFitting_27 rfl hl (by decide) rfl (fun ls hl => ?_)
  refine hw (fun (x4 : Int32) (fv5 : (Nat → Int32)) (av6 : (Nat → Nat → Int32)) (T7 : (Nat → Nat → Int32)) => ∀ (H : Heap) (locs : List Loc) (ls : Array Slot), va_P (dC, dI) vwCl ((W_PO adK adV cI cB cS q qb n k cO fv5 (q 6) av6 b sg) ++ (va_pl sL (sgF sf) ++ tlO cO cI q1 r2 k T7)) H → va_D A ((W_PO adK adV cI cB cS q qb n k cO fv5 (q 6) av6 b sg) ++ (va_pl sL (sgF sf) ++ tlO cO cI q1 r2 k T7)) → va_S A s.heap H locs → lv_has ls 5 [(0, .ref (q 0)), (1, .ref q1), (2, .int x4)] → W p l e rmX5_tallyFitting s m args below meth c H locs 11 2450 Q (F0 m 28 ls [])) ?_ H locs ls hP hD hS (lv_sub hl [2, 1, 0] rfl)
  · intro x4 fv5 av6 T7 hw H locs ls hP hD hS hl
    refine lv_iload_n hx hb dX5_tallyFitting_28 rfl (lv_at hl 2 rfl) ?_
    refine lv_sipush (v := 10000) hx hb dX5_tallyFitting_29 (by decide) ?_
    refine lv_icmp_ge (tgt := 100) hx hb dX5_tallyFitting_32 (by decide) (fun hc9 => ?_) (fun hc9 => ?_)
    · replace hw := hw.1 hc9
      refine lv_aload_n hx hb dX5_tallyFitting_100 rfl (lv_at hl 1 rfl) ?_
      exact hret (u := (q1, r2, T7, fv5, (q 6), av6)) dX5_tallyFitting_101 hK hP hD hS hw
    · replace hw := hw.2 hc9
      refine lv_aload_n hx hb dX5_tallyFitting_35 rfl (lv_at hl 0 rfl) ?_
      refine va_get (D := (dC, dI)) (ci := 7) (v := .ref (q 15)) (C := RX5) (T := TX5) (N := 13) hx hb hts hiX5 hown hK hP 0 rfl rfl 9 (by decide) hf55 (fun _ h9 => h9) rfl dX5_tallyFitting_36 ?_
      refine g_ci (g_J.poolQ (W2 := fun u10 : ((Int32) × (Nat → Int32)) => (W_PO adK adV cI cB cS q qb n k cO (upd fv5 7 (u10.1)) (q 6) (va_up av6 8 (u10.2)) b sg)) (pl := (va_pl sL (sgF sf) ++ tlO cO cI q1 r2 k T7)) [((q 0), .inr (7, [.int (nI n), .int (nI k), .ref (q 1), .ref (q 2), .ref (q 3), .ref (q 8), .int (fv5 0), .ref (q 13), .ref (q 14), .ref (q 15), .int (fv5 1), .ref (q 17), .int (fv5 2)])), ((q 1), .inl (cB, (5), .inr (.inr (.inr (.inr (fun i => (kAll i).map qb)))))), ((q 2), .inl (cI, k, .inl (av6 0))), ((q 3), .inr (10, [.ref (q 4), .ref (q 5), .ref (q 6), .ref (q 7), .int (fv5 3), .int (fv5 4)])), ((q 5), .inl (cI, n, .inl (av6 1))), ((q 7), .inl (cS, (6), .inr (.inr (.inr (.inr (sg 0)))))), ((q 8), .inr (10, [.ref (q 9), .ref (q 10), .ref (q 11), .ref (q 12), .int (fv5 5), .int (fv5 6)])), ((q 9), .inl (cB, (k - n), .inr (.inr (.inr (.inr (fun i => ((b 1) i).map qb)))))), ((q 10), .inl (cI, n, .inl (av6 3))), ((q 11), .inl (cI, k, .inl (av6 4))), ((q 12), .inl (cS, (6), .inr (.inr (.inr (.inr (sg 1)))))), ((q 13), .inl (cI, k, .inl (av6 5))), ((q 14), .inl (cI, k, .inl (av6 6))), ((q 17), .inl (cI, (10 * n), .inl (av6 7)))] [15, 16, 6, 4, 18, 19, 20, 21, 22] [0, 1, 2, 3, 5, 7, 8, 9, 10, 11, 12, 13, 14, 17] [0, 1, 2, 3, 17, 4, 16, 5, 6, 7, 8, 9, 10, 11, 12, 14, 15, 13, 18, 19, 20, 21, 22] rfl (by decide) rfl (by decide) (by decide) (fun _ => rfl) (by decide)) [0, 1] hK hP hD hS hA rfl (fun hPc hDc hKc hFc => va_runV (As := []) (rest := []) ⟨hx, hb, hml, hown, hts⟩ (t_X6_next l dC dI adK adV cI cB (q 15) (q 4) (q 16) (q 6) qb n k (k - n) (b 0) (av6 2) H.size (fv5 7) (av6 8)   _ hw) (cwV 0 hts gX5_tallyFitting_X6_next rfl rfl rfl (by decide +kernel) ⟨Nat.le_of_ble_eq_true rfl, Nat.le_of_ble_eq_true rfl⟩) (g_pV czb (q0 := 0) rfl rfl hPc hDc hKc (czc hZ.1 hS hFc)) rfl rfl hl.1 rfl (lv_room (Nat.le_of_ble_eq_true rfl)) dX5_tallyFitting_39 ⟨Nat.le_of_ble_eq_true rfl, Nat.le_of_ble_eq_true rfl⟩) (fun r11 u10 H locs hw hP hD hS => ?_)
      replace hP : va_P (dC, dI) vwCl ((W_PO adK adV cI cB cS q qb n k cO (upd fv5 7 (u10.1)) (q 6) (va_up av6 8 (u10.2)) b sg) ++ (va_pl sL (sgF sf) ++ tlO cO cI q1 r2 k T7)) H := hP
      replace hD : va_D A ((W_PO adK adV cI cB cS q qb n k cO (upd fv5 7 (u10.1)) (q 6) (va_up av6 8 (u10.2)) b sg) ++ (va_pl sL (sgF sf) ++ tlO cO cI q1 r2 k T7)) := hD
      refine lv_if_eq (tgt := 100) hx hb dX5_tallyFitting_42 (by decide) (fun hc12 => ?_) (fun hc12 => ?_)
      · replace hw := hw.1 hc12
        refine lv_aload_n hx hb dX5_tallyFitting_100 rfl (lv_at hl 1 rfl) ?_
        exact hret (u := (q1, r2, T7, (upd fv5 7 (u10.1)), (q 6), (va_up av6 8 (u10.2)))) dX5_tallyFitting_101 hK hP hD hS hw
      · replace hw := hw.2 hc12
        refine lv_iconst (v := 0) hx hb dX5_tallyFitting_45 (by decide) ?_
        refine lv_istore_n (lv' := [(3, .int (0 : Int32)), (0, .ref (q 0)), (1, .ref q1), (2, .int x4)]) hx hb dX5_tallyFitting_46 rfl hl (by decide) rfl (fun ls hl => ?_)
        refine hw (fun (x13 : Int32) (av14 : (Nat → Nat → Int32)) (T15 : (Nat → Nat → Int32)) => ∀ (H : Heap) (locs : List Loc) (ls : Array Slot), va_P (dC, dI) vwCl ((W_PO adK adV cI cB cS q qb n k cO (upd fv5 7 (u10.1)) (q 6) av14 b sg) ++ (va_pl sL (sgF sf) ++ tlO cO cI q1 r2 k T15)) H → va_D A ((W_PO adK adV cI cB cS q qb n k cO (upd fv5 7 (u10.1)) (q 6) av14 b sg) ++ (va_pl sL (sgF sf) ++ tlO cO cI q1 r2 k T15)) → va_S A s.heap H locs → lv_has ls 5 [(0, .ref (q 0)), (1, .ref q1), (2, .int x4), (3, .int x13)] → W p l e rmX5_tallyFitting s m args below meth c H locs 11 2450 Q (F0 m 47 ls [])) ?_ H locs ls hP hD hS (lv_sub hl [1, 2, 3, 0] rfl)
        · intro x13 av14 T15 hw H locs ls hP hD hS hl
          refine lv_iload_n hx hb dX5_tallyFitting_47 rfl (lv_at hl 3 rfl) ?_
          refine lv_aload_n hx hb dX5_tallyFitting_48 rfl (lv_at hl 0 rfl) ?_
          refine va_get (D := (dC, dI)) (ci := 7) (v := .int (nI k)) (C := RX5) (T := TX5) (N := 13) hx hb hts hiX5 hown hK hP 0 rfl rfl 1 (by decide) hf19 (fun _ h9 => h9) rfl dX5_tallyFitting_49 ?_
          refine lv_icmp_ge (tgt := 94) hx hb dX5_tallyFitting_52 (by decide) (fun hc17 => ?_) (fun hc17 => ?_)
          · replace hw := hw.1 hc17
            obtain ⟨x18, ex18⟩ : ∃ y : Int32, y = x4 + (1 : Int32) := ⟨_, rfl⟩
            replace hw := hw x18 ex18
            refine lv_iinc (v := x18) (lv' := [(2, .int x18), (0, .ref (q 0)), (1, .ref q1), (3, .int x13)]) hx hb dX5_tallyFitting_94 hl (k := 2) rfl (by rw [ex18]; rfl) (by decide) rfl (fun ls hl => ?_)
            refine lv_goto (tgt := 28) hx hb dX5_tallyFitting_97 (by decide) ?_
            exact hw H locs ls hP hD hS (lv_sub hl [1, 2, 0] rfl)
          · replace hw := hw.2 hc17
            refine lv_aload_n hx hb dX5_tallyFitting_55 rfl (lv_at hl 0 rfl) ?_
            refine va_get (D := (dC, dI)) (ci := 7) (v := .ref (q 15)) (C := RX5) (T := TX5) (N := 13) hx hb hts hiX5 hown hK hP 0 rfl rfl 9 (by decide) hf55 (fun _ h9 => h9) rfl dX5_tallyFitting_56 ?_
            refine va_getN (D := (dC, dI)) (ci := 8) (v := .ref (q 16)) (C := RX6) (T := TX6) (N := 5) hx hb hts hiX6 hown hK hP 15 rfl rfl 2 (by decide) nf153 (fun _ h9 => h9) rfl dX5_tallyFitting_59 ?_
            refine lv_iload_n hx hb dX5_tallyFitting_62 rfl (lv_at hl 3 rfl) ?_
            obtain ⟨hb19, hw⟩ := hw
            refine va_iald hx hb hK hP 16 0 rfl rfl hb19 dX5_tallyFitting_63 ?_
            refine lv_topi (fun x20 ex20 => ?_)
            replace hw := hw x20 ex20
            refine lv_istore (lv' := [(4, .int x20), (0, .ref (q 0)), (1, .ref q1), (2, .int x4), (3, .int x13)]) hx hb dX5_tallyFitting_64 hl (by decide) rfl (fun ls hl => ?_)
            refine lv_iload hx hb dX5_tallyFitting_66 (lv_at hl 0 rfl) ?_
            refine lv_iconst (v := 0) hx hb dX5_tallyFitting_68 (by decide) ?_
            refine lv_sipush (v := 243) hx hb dX5_tallyFitting_69 (by decide) ?_
            refine g_c0 (rest := []) (va_runSN (As := [.int x20, .int (0 : Int32), .int (243 : Int32)]) (rest := []) ⟨hx, hb, hml, hown, hts⟩ (t_X10_isWithin l  x20 (0 : Int32) (243 : Int32) _ hw) ⟨va_cnB 3 hts gX5_tallyFitting_X10_isWithin_n178 rfl rfl rfl nm178 iniRX10 (by decide +kernel) ⟨Nat.le_of_ble_eq_true rfl, Nat.le_of_ble_eq_true rfl⟩, st178, trivial⟩ g_p0S rfl rfl hl.1 rfl (lv_room (Nat.le_of_ble_eq_true rfl)) dX5_tallyFitting_72 ⟨Nat.le_of_ble_eq_true rfl, Nat.le_of_ble_eq_true rfl⟩) (fun r21 hw => ?_)
            replace hw := hw (fun (av22 : (Nat → Nat → Int32)) (T23 : (Nat → Nat → Int32)) => ∀ (H : Heap) (locs : List Loc) (ls : Array Slot), va_P (dC, dI) vwCl ((W_PO adK adV cI cB cS q qb n k cO (upd fv5 7 (u10.1)) (q 6) av22 b sg) ++ (va_pl sL (sgF sf) ++ tlO cO cI q1 r2 k T23)) H → va_D A ((W_PO adK adV cI cB cS q qb n k cO (upd fv5 7 (u10.1)) (q 6) av22 b sg) ++ (va_pl sL (sgF sf) ++ tlO cO cI q1 r2 k T23)) → va_S A s.heap H locs → lv_has ls 5 [(0, .ref (q 0)), (1, .ref q1), (2, .int x4), (3, .int x13)] → W p l e rmX5_tallyFitting s m args below meth c H locs 11 2450 Q (F0 m 88 ls [])) (by
              intro av22 T23 hw H locs ls hP hD hS hl
              obtain ⟨x25, ex25⟩ : ∃ y : Int32, y = x13 + (1 : Int32) := ⟨_, rfl⟩
              replace hw := hw x25 ex25
              refine lv_iinc (v := x25) (lv' := [(3, .int x25), (0, .ref (q 0)), (1, .ref q1), (2, .int x4)]) hx hb dX5_tallyFitting_88 hl (k := 3) rfl (by rw [ex25]; rfl) (by decide) rfl (fun ls hl => ?_)
              refine lv_goto (tgt := 47) hx hb dX5_tallyFitting_91 (by decide) ?_
              exact hw H locs ls hP hD hS (lv_sub hl [1, 2, 3, 0] rfl))
            refine lv_if_eq (tgt := 88) hx hb dX5_tallyFitting_75 (by decide) (fun hc26 => ?_) (fun hc26 => ?_)
            · replace hw := hw.1 hc26
              exact hw H locs ls hP hD hS (lv_sub hl [1, 2, 3, 4] rfl)
            · replace hw := hw.2 hc26
              refine lv_aload_n hx hb dX5_tallyFitting_78 rfl (lv_at hl 2 rfl) ?_
              refine lv_iload_n hx hb dX5_tallyFitting_79 rfl (lv_at hl 4 rfl) ?_
              obtain ⟨hb27, hw⟩ := hw
              refine g_tla hx hb hK 3 rfl hP hb27 dX5_tallyFitting_80 ?_
              refine lv_iload hx hb dX5_tallyFitting_81 (lv_at hl 0 rfl) ?_
              refine lv_dup2_11 hx hb dX5_tallyFitting_83 rfl rfl ?_
              obtain ⟨hb28, hw⟩ := hw
              refine g_tli hx hb hK 0 rfl hP (Nat.not_le.mp fun q => hb27 (Or.inr q)) hb28 dX5_tallyFitting_84 ?_
              refine lv_iconst (v := 1) hx hb dX5_tallyFitting_85 (by decide) ?_
              refine lv_iadd hx hb dX5_tallyFitting_86 ?_
              refine lv_topi (fun x30 ex30 => ?_)
              replace hw := hw x30 ex30
              obtain ⟨hb29, hw⟩ := hw
              refine g_tls hx hb hK 0 rfl hP hD hS (Nat.not_le.mp fun q => hb27 (Or.inr q)) hb29 dX5_tallyFitting_87 (fun H locs hP hD hS => ?_)
              replace hP : va_P (dC, dI) vwCl ((W_PO adK adV cI cB cS q qb n k cO (upd fv5 7 (u10.1)) (q 6) av14 b sg) ++ (va_pl sL (sgF sf) ++ tlO cO cI q1 r2 k (va_up T15 (r2 x13.toNatClampNeg) (upd (T15 (r2 x13.toNatClampNeg)) x20.toNatClampNeg x30)))) H := hP
              replace hD : va_D A ((W_PO adK adV cI cB cS q qb n k cO (upd fv5 7 (u10.1)) (q 6) av14 b sg) ++ (va_pl sL (sgF sf) ++ tlO cO cI q1 r2 k (va_up T15 (r2 x13.toNatClampNeg) (upd (T15 (r2 x13.toNatClampNeg)) x20.toNatClampNeg x30)))) := hD
              exact hw H locs ls hP hD hS (lv_sub hl [1, 2, 3, 4] rfl)

def w_X5_nextLook (n : Nat) (k : Nat) (q : Nat → Nat) (f : Nat → Int32) (t : Nat) (a : Nat → Nat → Int32) (b : Nat → Nat → Option Nat) (sg : Nat → Nat → Option Nat) (sL : List Nat) (sf : Nat → Nat → Int32)   (Q : Int32 → ((Nat → Int32) × (Nat) × (Nat → Nat → Int32)) → Prop) : Prop := w_X5_fitting n k q f t a b sg sL sf  (fun (r2 : Int32) (u1 : ((Nat → Int32) × (Nat) × (Nat → Nat → Int32))) => (((¬ r2 = 0) → w_X5_tallyFitting n k q (u1.1) (u1.2.1) (u1.2.2) b sg sL sf  (fun (kd4 : (Nat × (Nat → Nat) × (Nat → Nat → Int32) × (Nat → Int32) × Nat × (Nat → Nat → Int32))) => (∀ X8 : Int32 → Int32 → Int32 → Prop, (∀ (x5 : Int32) (x6 : Int32) (x7 : Int32), (((((nI k) ≤ x7) → Q x5 (kd4.2.2.2.1, kd4.2.2.2.2.1, kd4.2.2.2.2.2)) ∧ (¬ ((nI k) ≤ x7) → (vp_in x7 k) ∧ w_X5_greatest 244 ((kd4.2.2.1) ((kd4.2.1) x7.toNatClampNeg)) (fun (r11 : Int32) (u12 : Unit) => (vp_in x7 k) ∧ ∀ J17 : Int32 → Int32 → Prop, (∀ (x15 : Int32) (x16 : Int32), (∀ x18 : Int32, x18 = x7 + (1 : Int32) → X8 x15 x16 x18) → J17 x15 x16) → (((¬ ((kd4.2.2.2.2.2 2) x7.toNatClampNeg) = (-1 : Int32)) → J17 x5 x6) ∧ (((kd4.2.2.2.2.2 2) x7.toNatClampNeg) = (-1 : Int32) → (((x6 ≤ r11) → J17 x5 x6) ∧ (¬ (x6 ≤ r11) → J17 x7 r11)))))))) → X8 x5 x6 x7) → X8 (-1 : Int32) (10001 : Int32) (0 : Int32)))) ∧ (r2 = 0 → Q (-1 : Int32) (u1.1, u1.2.1, u1.2.2))))
abbrev rmX5_nextLook : Room := { frames := 5, cells := 11, slots := 2450, locals := 130 }
set_option maxHeartbeats 4000000 in
set_option maxRecDepth 100000 in
theorem t_X5_nextLook (l : Launch) (dC : Nat → ClassId) (dI : Nat → Nat → Nat) (adK : Nat → Nat) (adV : Nat → Nat) (cI : ClassId) (cB : ClassId) (cS : ClassId) (q : Nat → Nat) (qb : Nat → Nat) (n : Nat) (k : Nat) (cO : ClassId) (sz : Nat) (f : Nat → Int32) (t : Nat) (a : Nat → Nat → Int32) (b : Nat → Nat → Option Nat) (sg : Nat → Nat → Option Nat) (sL : List Nat) (sf : Nat → Nat → Int32)    (Q0 : Int32 → ((Nat → Int32) × (Nat) × (Nat → Nat → Int32)) → Prop) (hw : w_X5_nextLook n k q f t a b sg sL sf   Q0) : Met l yX5_nextLook wsX5_nextLook rmX5_nextLook (g_pre (czo adK adV) (dC, dI) vwCl [(cI, .int), (cB, .object RX0), (cS, .object RX7), (cO, .array .int)] ((W_PO adK adV cI cB cS q qb n k cO f t a b sg) ++ va_pl sL (sgF sf)) sz [.ref (q 0)]) (g_qi (dC, dI) vwCl [(cI, .int), (cB, .object RX0), (cS, .object RX7), (cO, .array .int)] (fun u : ((Nat → Int32) × (Nat) × (Nat → Nat → Int32)) => ((W_PO adK adV cI cB cS q qb n k cO (u.1) (u.2.1) (u.2.2) b sg) ++ va_pl sL (sgF sf))) Q0 (va_A ((W_PO adK adV cI cB cS q qb n k cO f t a b sg) ++ va_pl sL (sgF sf)) sz)) 11 2450 (va_A ((W_PO adK adV cI cB cS q qb n k cO f t a b sg) ++ va_pl sL (sgF sf)) sz) := by
  refine g_starti (by decide) rfl (Nat.le_of_ble_eq_true rfl) ?_
  intro p e s m args below meth c A Q ls hx hb hml hown hts hin hK hP hD hA hS hZ hret hl
  obtain ⟨H, eH⟩ : ∃ H : Heap, H = s.heap := ⟨_, rfl⟩
  obtain ⟨locs, eL⟩ : ∃ L : List Loc, L = [] := ⟨_, rfl⟩
  have hS : va_S A s.heap H locs := by rw [eH, eL]; exact hS
  rw [← eH] at hP
  suffices hg : W p l e rmX5_nextLook s m args below meth c H locs 0 0 Q (F0 m 0 ls []) by rw [eH, eL] at hg; exact hg
  clear eH eL
  replace hl : lv_has ls 6 [(0, .ref (q 0))] := hl
  have hf19 := hts (.fieldLink RX5 19 "NumberPile$Pile" "size" "I") (by decide +kernel)
  have hiX5 : ∀ w ∈ u_ws RX5 TX5 13, w ∈ wsX5_nextLook := fun w h => List.mem_cons_of_mem _ (List.mem_append_left _ (List.mem_append_left _ (List.mem_append_right _ h)))
  have hf31 := hts (.fieldLink RX5 31 "NumberPile$Pile" "now" "LNumberPile$State;") (by decide +kernel)
  have nf110 := va_Nw.use (A := args) rfl (hZ.1.1 _ (List.mem_of_getElem? (i := 24) (rfl : cz_nest[24]? = some (.fieldLinkNest RX5 110 "NumberPile$State" "told" "[I" "NumberPile"))))
  have hiX8 : ∀ w ∈ u_ws RX8 TX8 6, w ∈ wsX5_nextLook := fun w h => List.mem_cons_of_mem _ (List.mem_append_left _ (List.mem_append_right _ h))
  unfold w_X5_nextLook at hw
  refine lv_aload_n hx hb dX5_nextLook_0 rfl (lv_at hl 0 rfl) ?_
  refine g_ci (g_J.poolP (W2 := fun u1 : ((Nat → Int32) × (Nat) × (Nat → Nat → Int32)) => (W_PO adK adV cI cB cS q qb n k cO (u1.1) (u1.2.1) (u1.2.2) b sg)) (pl := va_pl sL (sgF sf)) (PL := fun u1 : ((Nat → Int32) × (Nat) × (Nat → Nat → Int32)) => va_pl sL (sgF sf)) (RX := fun u1 : ((Nat → Int32) × (Nat) × (Nat → Nat → Int32)) => (W_P adK adV cI cB cS q qb n k (u1.1) (u1.2.1) (u1.2.2) b sg)) [] [0, 1, 2, 3, 4, 5, 6, 7, 8, 9, 10, 11, 12, 13, 14, 15, 16, 17, 18, 19, 20, 21, 22] [] [0, 1, 2, 3, 4, 5, 6, 7, 8, 9, 10, 11, 12, 13, 14, 15, 16, 17, 18, 19, 20, 21, 22] rfl (by decide) rfl (by decide) (by decide) (fun _ => rfl) (by decide)) [0, 1, 2] hK hP hD hS hA rfl (fun hPc hDc hKc hFc => va_runV (As := []) (rest := []) ⟨hx, hb, hml, hown, hts⟩ (t_X5_fitting l dC dI adK adV cI cB cS q qb n k H.size f t a b sg sL sf  _ hw) (cwV 0 hts gX5_nextLook_X5_fitting rfl rfl rfl (by decide +kernel) ⟨Nat.le_of_ble_eq_true rfl, Nat.le_of_ble_eq_true rfl⟩) (g_pV czb (q0 := 0) rfl rfl hPc hDc hKc (czc hZ.1 hS hFc)) rfl rfl hl.1 rfl (lv_room (Nat.le_of_ble_eq_true rfl)) dX5_nextLook_1 ⟨Nat.le_of_ble_eq_true rfl, Nat.le_of_ble_eq_true rfl⟩) (fun r2 u1 H locs hw hP hD hS => ?_)
  replace hP : va_P (dC, dI) vwCl ((W_PO adK adV cI cB cS q qb n k cO (u1.1) (u1.2.1) (u1.2.2) b sg) ++ va_pl sL (sgF sf)) H := hP
  replace hD : va_D A ((W_PO adK adV cI cB cS q qb n k cO (u1.1) (u1.2.1) (u1.2.2) b sg) ++ va_pl sL (sgF sf)) := hD
  refine lv_if_ne (tgt := 9) hx hb dX5_nextLook_4 (by decide) (fun hc3 => ?_) (fun hc3 => ?_)
  · replace hw := hw.1 hc3
    refine lv_aload_n hx hb dX5_nextLook_9 rfl (lv_at hl 0 rfl) ?_
    refine g_cr (g_J.poolP (W2 := fun kd4 : (Nat × (Nat → Nat) × (Nat → Nat → Int32) × (Nat → Int32) × Nat × (Nat → Nat → Int32)) => (W_PO adK adV cI cB cS q qb n k cO (kd4.2.2.2.1) (kd4.2.2.2.2.1) (kd4.2.2.2.2.2) b sg)) (pl := va_pl sL (sgF sf)) (PL := fun kd4 : (Nat × (Nat → Nat) × (Nat → Nat → Int32) × (Nat → Int32) × Nat × (Nat → Nat → Int32)) => (va_pl sL (sgF sf) ++ tlO cO cI (kd4.1) (kd4.2.1) k (kd4.2.2.1))) (RX := fun kd4 : (Nat × (Nat → Nat) × (Nat → Nat → Int32) × (Nat → Int32) × Nat × (Nat → Nat → Int32)) => (W_PO adK adV cI cB cS q qb n k cO (kd4.2.2.2.1) (kd4.2.2.2.2.1) (kd4.2.2.2.2.2) b sg)) [] [0, 1, 2, 3, 4, 5, 6, 7, 8, 9, 10, 11, 12, 13, 14, 15, 16, 17, 18, 19, 20, 21, 22] [] [0, 1, 2, 3, 4, 5, 6, 7, 8, 9, 10, 11, 12, 13, 14, 15, 16, 17, 18, 19, 20, 21, 22] rfl (by decide) rfl (by decide) (by decide) (fun _ => rfl) (by decide)) [0, 1, 2, 3] hK hP hD hS hA rfl (fun hPc hDc hKc hFc => va_runV (As := []) (rest := []) ⟨hx, hb, hml, hown, hts⟩ (t_X5_tallyFitting l dC dI adK adV cI cB cS q qb n k cO H.size (u1.1) (u1.2.1) (u1.2.2) b sg sL sf  _ hw) (cwV 0 hts gX5_nextLook_X5_tallyFitting rfl rfl rfl (by decide +kernel) ⟨Nat.le_of_ble_eq_true rfl, Nat.le_of_ble_eq_true rfl⟩) (g_pV czob (q0 := 0) rfl rfl hPc hDc hKc (czoc hZ hS hFc)) rfl rfl hl.1 rfl (lv_room (Nat.le_of_ble_eq_true rfl)) dX5_nextLook_10 ⟨Nat.le_of_ble_eq_true rfl, Nat.le_of_ble_eq_true rfl⟩) (fun kd4 H locs hw hP hD hS => ?_)
    refine W.widen (k := 11) (n := 2450) (Nat.le_of_ble_eq_true rfl) (Nat.le_of_ble_eq_true rfl) ?_
    replace hP : va_P (dC, dI) vwCl ((W_PO adK adV cI cB cS q qb n k cO (kd4.2.2.2.1) (kd4.2.2.2.2.1) (kd4.2.2.2.2.2) b sg) ++ (va_pl sL (sgF sf) ++ tlO cO cI (kd4.1) (kd4.2.1) k (kd4.2.2.1))) H := hP
    replace hD : va_D A ((W_PO adK adV cI cB cS q qb n k cO (kd4.2.2.2.1) (kd4.2.2.2.2.1) (kd4.2.2.2.2.2) b sg) ++ (va_pl sL (sgF sf) ++ tlO cO cI (kd4.1) (kd4.2.1) k (kd4.2.2.1))) := hD
    refine lv_astore_n (lv' := [(1, .ref (kd4.1)), (0, .ref (q 0))]) hx hb dX5_nextLook_13 rfl hl (by decide) rfl (fun ls hl => ?_)
    refine lv_iconst (v := -1) hx hb dX5_nextLook_14 (by decide) ?_
    refine lv_istore_n (lv' := [(2, .int (-1 : Int32)), (1, .ref (kd4.1)), (0, .ref (q 0))]) hx hb dX5_nextLook_15 rfl hl (by decide) rfl (fun ls hl => ?_)
    refine lv_sipush (v := 10001) hx hb dX5_nextLook_16 (by decide) ?_
    refine lv_istore_n (lv' := [(3, .int (10001 : Int32)), (2, .int (-1 : Int32)), (1, .ref (kd4.1)), (0, .ref (q 0))]) hx hb dX5_nextLook_19 rfl hl (by decide) rfl (fun ls hl => ?_)
    refine lv_iconst (v := 0) hx hb dX5_nextLook_20 (by decide) ?_
    refine lv_istore (lv' := [(4, .int (0 : Int32)), (3, .int (10001 : Int32)), (2, .int (-1 : Int32)), (1, .ref (kd4.1)), (0, .ref (q 0))]) hx hb dX5_nextLook_21 hl (by decide) rfl (fun ls hl => ?_)
    refine hw (fun (x5 : Int32) (x6 : Int32) (x7 : Int32) => ∀ (H : Heap) (locs : List Loc) (ls : Array Slot), va_P (dC, dI) vwCl ((W_PO adK adV cI cB cS q qb n k cO (kd4.2.2.2.1) (kd4.2.2.2.2.1) (kd4.2.2.2.2.2) b sg) ++ (va_pl sL (sgF sf) ++ tlO cO cI (kd4.1) (kd4.2.1) k (kd4.2.2.1))) H → va_D A ((W_PO adK adV cI cB cS q qb n k cO (kd4.2.2.2.1) (kd4.2.2.2.2.1) (kd4.2.2.2.2.2) b sg) ++ (va_pl sL (sgF sf) ++ tlO cO cI (kd4.1) (kd4.2.1) k (kd4.2.2.1))) → va_S A s.heap H locs → lv_has ls 6 [(0, .ref (q 0)), (1, .ref (kd4.1)), (2, .int x5), (3, .int x6), (4, .int x7)] → W p l e rmX5_nextLook s m args below meth c H locs 11 2450 Q (F0 m 23 ls [])) ?_ H locs ls hP hD hS (lv_sub hl [4, 3, 2, 1, 0] rfl)
    · intro x5 x6 x7 hw H locs ls hP hD hS hl
      refine lv_iload hx hb dX5_nextLook_23 (lv_at hl 4 rfl) ?_
      refine lv_aload_n hx hb dX5_nextLook_25 rfl (lv_at hl 0 rfl) ?_
      refine va_get (D := (dC, dI)) (ci := 7) (v := .int (nI k)) (C := RX5) (T := TX5) (N := 13) hx hb hts hiX5 hown hK hP 0 rfl rfl 1 (by decide) hf19 (fun _ h9 => h9) rfl dX5_nextLook_26 ?_
      refine lv_icmp_ge (tgt := 73) hx hb dX5_nextLook_29 (by decide) (fun hc9 => ?_) (fun hc9 => ?_)
      · replace hw := hw.1 hc9
        refine lv_iload_n hx hb dX5_nextLook_73 rfl (lv_at hl 2 rfl) ?_
        replace hP := tlO_dropP hP
        replace hD := tlO_dropD hD
        exact hret dX5_nextLook_74 hK hP hD hS hw
      · replace hw := hw.2 hc9
        refine lv_aload_n hx hb dX5_nextLook_32 rfl (lv_at hl 1 rfl) ?_
        refine lv_iload hx hb dX5_nextLook_33 (lv_at hl 4 rfl) ?_
        obtain ⟨hb10, hw⟩ := hw
        refine g_tla hx hb hK 3 rfl hP hb10 dX5_nextLook_35 ?_
        obtain ⟨k13, hk13⟩ := tlO_at (cO := cO) (cI := cI) (q := (kd4.1)) (r := (kd4.2.1)) (T := (kd4.2.2.1)) (X := (W_PO adK adV cI cB cS q qb n k cO (kd4.2.2.2.1) (kd4.2.2.2.2.1) (kd4.2.2.2.2.2) b sg)) (pl := va_pl sL (sgF sf)) (Nat.not_le.mp fun q => hb10 (Or.inr q))
        refine g_ci (g_J.one hk13) [0] hK hP hD hS hA rfl (fun hPc hDc hKc hFc => va_runS (As := [.ref ((kd4.2.1) x7.toNatClampNeg)]) (rest := []) ⟨hx, hb, hml, hown, hts⟩ (t_X5_greatest l dC dI cI ((kd4.2.1) x7.toNatClampNeg) 244 H.size ((kd4.2.2.1) ((kd4.2.1) x7.toNatClampNeg)) _ hw) (va_cwS 1 hts gX5_nextLook_X5_greatest rfl rfl rfl (by decide +kernel) ⟨Nat.le_of_ble_eq_true rfl, Nat.le_of_ble_eq_true rfl⟩) (g_pS g_Tb hPc hDc hKc (fun _ _ _ => trivial)) rfl rfl hl.1 rfl (lv_room (Nat.le_of_ble_eq_true rfl)) dX5_nextLook_36 ⟨Nat.le_of_ble_eq_true rfl, Nat.le_of_ble_eq_true rfl⟩) (fun r11 u12 H locs hw hP hD hS => ?_)
        refine lv_istore (lv' := [(5, .int r11), (0, .ref (q 0)), (1, .ref (kd4.1)), (2, .int x5), (3, .int x6), (4, .int x7)]) hx hb dX5_nextLook_39 hl (by decide) rfl (fun ls hl => ?_)
        refine lv_aload_n hx hb dX5_nextLook_41 rfl (lv_at hl 1 rfl) ?_
        refine va_get (D := (dC, dI)) (ci := 7) (v := .ref (q 3)) (C := RX5) (T := TX5) (N := 13) hx hb hts hiX5 hown hK hP 0 rfl rfl 4 (by decide) hf31 (fun _ h9 => h9) rfl dX5_nextLook_42 ?_
        refine va_getN (D := (dC, dI)) (ci := 10) (v := .ref (q 6)) (C := RX8) (T := TX8) (N := 6) hx hb hts hiX8 hown hK hP 3 rfl rfl 2 (by decide) nf110 (fun _ h9 => h9) rfl dX5_nextLook_45 ?_
        refine lv_iload hx hb dX5_nextLook_48 (lv_at hl 5 rfl) ?_
        obtain ⟨hb14, hw⟩ := hw
        refine va_iald hx hb hK hP 6 0 rfl rfl hb14 dX5_nextLook_50 ?_
        refine lv_iconst (v := -1) hx hb dX5_nextLook_51 (by decide) ?_
        replace hw := hw (fun (x15 : Int32) (x16 : Int32) => ∀ (H : Heap) (locs : List Loc) (ls : Array Slot), va_P (dC, dI) vwCl ((W_PO adK adV cI cB cS q qb n k cO (kd4.2.2.2.1) (kd4.2.2.2.2.1) (kd4.2.2.2.2.2) b sg) ++ (va_pl sL (sgF sf) ++ tlO cO cI (kd4.1) (kd4.2.1) k (kd4.2.2.1))) H → va_D A ((W_PO adK adV cI cB cS q qb n k cO (kd4.2.2.2.1) (kd4.2.2.2.2.1) (kd4.2.2.2.2.2) b sg) ++ (va_pl sL (sgF sf) ++ tlO cO cI (kd4.1) (kd4.2.1) k (kd4.2.2.1))) → va_S A s.heap H locs → lv_has ls 6 [(0, .ref (q 0)), (1, .ref (kd4.1)), (2, .int x15), (3, .int x16), (4, .int x7)] → W p l e rmX5_nextLook s m args below meth c H locs 11 2450 Q (F0 m 67 ls [])) (by
          intro x15 x16 hw H locs ls hP hD hS hl
          obtain ⟨x18, ex18⟩ : ∃ y : Int32, y = x7 + (1 : Int32) := ⟨_, rfl⟩
          replace hw := hw x18 ex18
          refine lv_iinc (v := x18) (lv' := [(4, .int x18), (0, .ref (q 0)), (1, .ref (kd4.1)), (2, .int x15), (3, .int x16)]) hx hb dX5_nextLook_67 hl (k := 4) rfl (by rw [ex18]; rfl) (by decide) rfl (fun ls hl => ?_)
          refine lv_goto (tgt := 23) hx hb dX5_nextLook_70 (by decide) ?_
          exact hw H locs ls hP hD hS (lv_sub hl [1, 2, 3, 4, 0] rfl))
        refine lv_icmp_ne (tgt := 67) hx hb dX5_nextLook_52 (by decide) (fun hc19 => ?_) (fun hc19 => ?_)
        · replace hw := hw.1 hc19
          exact hw H locs ls hP hD hS (lv_sub hl [1, 2, 3, 4, 5] rfl)
        · replace hw := hw.2 hc19
          refine lv_iload hx hb dX5_nextLook_55 (lv_at hl 0 rfl) ?_
          refine lv_iload_n hx hb dX5_nextLook_57 rfl (lv_at hl 4 rfl) ?_
          refine lv_icmp_ge (tgt := 67) hx hb dX5_nextLook_58 (by decide) (fun hc20 => ?_) (fun hc20 => ?_)
          · replace hw := hw.1 hc20
            exact hw H locs ls hP hD hS (lv_sub hl [1, 2, 3, 4, 5] rfl)
          · replace hw := hw.2 hc20
            refine lv_iload hx hb dX5_nextLook_61 (lv_at hl 0 rfl) ?_
            refine lv_istore_n (lv' := [(3, .int r11), (5, .int r11), (0, .ref (q 0)), (1, .ref (kd4.1)), (2, .int x5), (4, .int x7)]) hx hb dX5_nextLook_63 rfl hl (by decide) rfl (fun ls hl => ?_)
            refine lv_iload hx hb dX5_nextLook_64 (lv_at hl 5 rfl) ?_
            refine lv_istore_n (lv' := [(2, .int x7), (3, .int r11), (5, .int r11), (0, .ref (q 0)), (1, .ref (kd4.1)), (4, .int x7)]) hx hb dX5_nextLook_66 rfl hl (by decide) rfl (fun ls hl => ?_)
            exact hw H locs ls hP hD hS (lv_sub hl [3, 4, 0, 1, 5] rfl)
  · replace hw := hw.2 hc3
    refine lv_iconst (v := -1) hx hb dX5_nextLook_7 (by decide) ?_
    refine W.widen (k := 11) (n := 2450) (Nat.le_of_ble_eq_true rfl) (Nat.le_of_ble_eq_true rfl) ?_
    exact hret dX5_nextLook_8 hK hP hD hS hw

abbrev StNO : Type := (Nat → Int32) × (Nat) × (Nat) × (Int32) × (Int32) × (Nat → Int32) × (Nat → Int32) × (Nat) × (Nat → Nat → Int32) × (Nat → Nat → Option Nat) × (Nat → Nat → Option Nat)
abbrev W_NO (adK : Nat → Nat) (adV : Nat → Nat) (cI : ClassId) (cB : ClassId) (cS : ClassId) (cY : ClassId) (np : Nat) (pg : Nat) (g : Nat) (q : Nat → Nat) (qb : Nat → Nat) (n : Nat) (k : Nat) (cO : ClassId) (ni : Nat → Int32) (bv : Nat) (bm : Nat) (ml : Int32) (cn : Int32) (bt : Nat → Int32) (f : Nat → Int32) (t : Nat) (a : Nat → Nat → Int32) (b : Nat → Nat → Option Nat) (sg : Nat → Nat → Option Nat) : va_W := [(np, .inr (12, [.ref (q 1), .ref pg, .ref (q 0), .int (ni 0), .int (ni 1), .int (ni 2)])), (pg, .inr (6, [.ref g])), (g, .inr (1, [.ref bv, .int (0 : Int32), .int ml, .int cn])), (bv, .inl (cY, bm, .inl bt)), ((q 0), .inr (7, [.int (nI n), .int (nI k), .ref (q 1), .ref (q 2), .ref (q 3), .ref (q 8), .int (f 0), .ref (q 13), .ref (q 14), .ref (q 15), .int (f 1), .ref (q 17), .int (f 2)])), ((q 1), .inl (cB, (5), .inr (.inr (.inr (.inr (fun i => (kAll i).map qb)))))), ((q 2), .inl (cI, k, .inl (a 0))), ((q 3), .inr (10, [.ref (q 4), .ref (q 5), .ref (q 6), .ref (q 7), .int (f 3), .int (f 4)])), ((q 4), .inl (cB, (k - n), .inr (.inr (.inr (.inr (fun i => ((b 0) i).map qb)))))), ((q 5), .inl (cI, n, .inl (a 1))), ((q 6), .inl (cI, k, .inl (a 2))), ((q 7), .inl (cS, (6), .inr (.inr (.inr (.inr (sg 0)))))), ((q 8), .inr (10, [.ref (q 9), .ref (q 10), .ref (q 11), .ref (q 12), .int (f 5), .int (f 6)])), ((q 9), .inl (cB, (k - n), .inr (.inr (.inr (.inr (fun i => ((b 1) i).map qb)))))), ((q 10), .inl (cI, n, .inl (a 3))), ((q 11), .inl (cI, k, .inl (a 4))), ((q 12), .inl (cS, (6), .inr (.inr (.inr (.inr (sg 1)))))), ((q 13), .inl (cI, k, .inl (a 5))), ((q 14), .inl (cI, k, .inl (a 6))), ((q 15), .inr (8, [.int (nI n), .ref (q 4), .ref (q 16), .ref t, .int (f 7)])), ((q 16), .inl (cI, k, .inl (a 8))), ((q 17), .inl (cI, (10 * n), .inl (a 7))), ((qb 0), .inr (2, [])), ((qb 1), .inr (3, [])), ((qb 2), .inr (5, [])), ((qb 3), .inr (11, [])), ((qb 4), .inr (4, []))]
abbrev W_NOu (adK : Nat → Nat) (adV : Nat → Nat) (cI : ClassId) (cB : ClassId) (cS : ClassId) (cY : ClassId) (np : Nat) (pg : Nat) (g : Nat) (q : Nat → Nat) (qb : Nat → Nat) (n : Nat) (k : Nat) (cO : ClassId) (u : StNO) : va_W := W_NO adK adV cI cB cS cY np pg g q qb n k cO u.1 u.2.1 u.2.2.1 u.2.2.2.1 u.2.2.2.2.1 u.2.2.2.2.2.1 u.2.2.2.2.2.2.1 u.2.2.2.2.2.2.2.1 u.2.2.2.2.2.2.2.2.1 u.2.2.2.2.2.2.2.2.2.1 u.2.2.2.2.2.2.2.2.2.2

def w_X10_look (n : Nat) (k : Nat) (q : Nat → Nat) (ni : Nat → Int32) (bv : Nat) (bm : Nat) (ml : Int32) (cn : Int32) (bt : Nat → Int32) (f : Nat → Int32) (t : Nat) (a : Nat → Nat → Int32) (b : Nat → Nat → Option Nat) (sg : Nat → Nat → Option Nat) (sL : List Nat) (sf : Nat → Nat → Int32)   (Q : Int32 → ((Nat → Int32) × (Nat → Int32) × (Nat) × (Nat → Nat → Int32)) → Prop) : Prop := w_X10_hasPile n k q ni bv bm ml cn bt f t a b sg sL sf  (fun (r2 : Int32) (u1 : Unit) => (((r2 = 0) → Q (-103 : Int32) (ni, f, t, a)) ∧ (¬ (r2 = 0) → ((((ni 2) < (20 : Int32)) → ∀ x5 : Int32, x5 = ((ni 2) + (1 : Int32)) → w_X5_nextLook n k q f t a b sg sL sf  (fun (r7 : Int32) (u6 : ((Nat → Int32) × (Nat) × (Nat → Nat → Int32))) => Q r7 ((upd ni 2 x5), u6.1, u6.2.1, u6.2.2))) ∧ (¬ ((ni 2) < (20 : Int32)) → Q (-103 : Int32) (ni, f, t, a))))))
abbrev rmX10_look : Room := { frames := 6, cells := 11, slots := 2450, locals := 155 }
set_option maxHeartbeats 4000000 in
set_option maxRecDepth 100000 in
theorem t_X10_look (l : Launch) (dC : Nat → ClassId) (dI : Nat → Nat → Nat) (adK : Nat → Nat) (adV : Nat → Nat) (cI : ClassId) (cB : ClassId) (cS : ClassId) (cY : ClassId) (np : Nat) (pg : Nat) (g : Nat) (q : Nat → Nat) (qb : Nat → Nat) (n : Nat) (k : Nat) (cO : ClassId) (sz : Nat) (ni : Nat → Int32) (bv : Nat) (bm : Nat) (ml : Int32) (cn : Int32) (bt : Nat → Int32) (f : Nat → Int32) (t : Nat) (a : Nat → Nat → Int32) (b : Nat → Nat → Option Nat) (sg : Nat → Nat → Option Nat) (sL : List Nat) (sf : Nat → Nat → Int32)    (Q0 : Int32 → ((Nat → Int32) × (Nat → Int32) × (Nat) × (Nat → Nat → Int32)) → Prop) (hw : w_X10_look n k q ni bv bm ml cn bt f t a b sg sL sf   Q0) : Met l yX10_look wsX10_look rmX10_look (g_pre (czo adK adV) (dC, dI) vwCl [(cI, .int), (cB, .object RX0), (cS, .object RX7), (cY, .byte), (cO, .array .int)] ((W_NO adK adV cI cB cS cY np pg g q qb n k cO ni bv bm ml cn bt f t a b sg) ++ va_pl sL (sgF sf)) sz [.ref np]) (g_qi (dC, dI) vwCl [(cI, .int), (cB, .object RX0), (cS, .object RX7), (cY, .byte), (cO, .array .int)] (fun u : ((Nat → Int32) × (Nat → Int32) × (Nat) × (Nat → Nat → Int32)) => ((W_NO adK adV cI cB cS cY np pg g q qb n k cO (u.1) bv bm ml cn bt (u.2.1) (u.2.2.1) (u.2.2.2) b sg) ++ va_pl sL (sgF sf))) Q0 (va_A ((W_NO adK adV cI cB cS cY np pg g q qb n k cO ni bv bm ml cn bt f t a b sg) ++ va_pl sL (sgF sf)) sz)) 11 2450 (va_A ((W_NO adK adV cI cB cS cY np pg g q qb n k cO ni bv bm ml cn bt f t a b sg) ++ va_pl sL (sgF sf)) sz) := by
  refine g_starti (by decide) rfl (Nat.le_of_ble_eq_true rfl) ?_
  intro p e s m args below meth c A Q ls hx hb hml hown hts hin hK hP hD hA hS hZ hret hl
  obtain ⟨H, eH⟩ : ∃ H : Heap, H = s.heap := ⟨_, rfl⟩
  obtain ⟨locs, eL⟩ : ∃ L : List Loc, L = [] := ⟨_, rfl⟩
  have hS : va_S A s.heap H locs := by rw [eH, eL]; exact hS
  rw [← eH] at hP
  suffices hg : W p l e rmX10_look s m args below meth c H locs 0 0 Q (F0 m 0 ls []) by rw [eH, eL] at hg; exact hg
  clear eH eL
  replace hl : lv_has ls 1 [(0, .ref np)] := hl
  have hf175 := hts (.fieldLink RX10 175 "NumberPile" "looks" "I") (by decide +kernel)
  have hiX10 : ∀ w ∈ u_ws RX10 TX10 6, w ∈ wsX10_look := fun w h => List.mem_cons_of_mem _ (List.mem_append_left _ (List.mem_append_left _ (List.mem_append_left _ (List.mem_append_right _ h))))
  have hf40 := hts (.fieldLink RX10 40 "NumberPile" "current" "LNumberPile$Pile;") (by decide +kernel)
  unfold w_X10_look at hw
  refine lv_aload_n hx hb dX10_look_0 rfl (lv_at hl 0 rfl) ?_
  refine g_ci (g_J.poolP (W2 := fun u1 : Unit => (W_NO adK adV cI cB cS cY np pg g q qb n k cO ni bv bm ml cn bt f t a b sg)) (pl := va_pl sL (sgF sf)) (PL := fun u1 : Unit => va_pl sL (sgF sf)) (RX := fun u1 : Unit => (W_N adK adV cI cB cS cY np pg g q qb n k ni bv bm ml cn bt f t a b sg)) [] [0, 1, 2, 3, 4, 5, 6, 7, 8, 9, 10, 11, 12, 13, 14, 15, 16, 17, 18, 19, 20, 21, 22, 23, 24, 25, 26] [] [0, 1, 2, 3, 4, 5, 6, 7, 8, 9, 10, 11, 12, 13, 14, 15, 16, 17, 18, 19, 20, 21, 22, 23, 24, 25, 26] rfl (by decide) rfl (by decide) (by decide) (fun _ => rfl) (by decide)) [0, 1, 2, 3] hK hP hD hS hA rfl (fun hPc hDc hKc hFc => va_runV (As := []) (rest := []) ⟨hx, hb, hml, hown, hts⟩ (t_X10_hasPile l dC dI adK adV cI cB cS cY np pg g q qb n k H.size ni bv bm ml cn bt f t a b sg sL sf  _ hw) (cwV 0 hts gX10_look_X10_hasPile rfl rfl rfl (by decide +kernel) ⟨Nat.le_of_ble_eq_true rfl, Nat.le_of_ble_eq_true rfl⟩) (g_pV czb (q0 := 0) rfl rfl hPc hDc hKc (czc hZ.1 hS hFc)) rfl rfl hl.1 rfl (lv_room (Nat.le_of_ble_eq_true rfl)) dX10_look_1 ⟨Nat.le_of_ble_eq_true rfl, Nat.le_of_ble_eq_true rfl⟩) (fun r2 u1 H locs hw hP hD hS => ?_)
  replace hP : va_P (dC, dI) vwCl ((W_NO adK adV cI cB cS cY np pg g q qb n k cO ni bv bm ml cn bt f t a b sg) ++ va_pl sL (sgF sf)) H := hP
  replace hD : va_D A ((W_NO adK adV cI cB cS cY np pg g q qb n k cO ni bv bm ml cn bt f t a b sg) ++ va_pl sL (sgF sf)) := hD
  refine lv_if_eq (tgt := 16) hx hb dX10_look_4 (by decide) (fun hc3 => ?_) (fun hc3 => ?_)
  · replace hw := hw.1 hc3
    refine lv_bipush (v := -103) hx hb dX10_look_16 (by decide) ?_
    refine W.widen (k := 11) (n := 2450) (Nat.le_of_ble_eq_true rfl) (Nat.le_of_ble_eq_true rfl) ?_
    exact hret dX10_look_18 hK hP hD hS hw
  · replace hw := hw.2 hc3
    refine lv_aload_n hx hb dX10_look_7 rfl (lv_at hl 0 rfl) ?_
    refine va_get (D := (dC, dI)) (ci := 12) (v := .int (ni 2)) (C := RX10) (T := TX10) (N := 6) hx hb hts hiX10 hown hK hP 0 rfl rfl 5 (by decide) hf175 (fun _ h9 => h9) rfl dX10_look_8 ?_
    refine lv_bipush (v := 20) hx hb dX10_look_11 (by decide) ?_
    refine lv_icmp_lt (tgt := 19) hx hb dX10_look_13 (by decide) (fun hc4 => ?_) (fun hc4 => ?_)
    · replace hw := hw.1 hc4
      refine lv_aload_n hx hb dX10_look_19 rfl (lv_at hl 0 rfl) ?_
      refine lv_dup hx hb dX10_look_20 rfl ?_
      refine va_get (D := (dC, dI)) (ci := 12) (v := .int (ni 2)) (C := RX10) (T := TX10) (N := 6) hx hb hts hiX10 hown hK hP 0 rfl rfl 5 (by decide) hf175 (fun _ h9 => h9) rfl dX10_look_21 ?_
      refine lv_iconst (v := 1) hx hb dX10_look_24 (by decide) ?_
      refine lv_iadd hx hb dX10_look_25 ?_
      refine lv_topi (fun x5 ex5 => ?_)
      replace hw := hw x5 ex5
      refine va_put (D := (dC, dI)) (ci := 12) (v := .int x5) (ty := (.int)) (C := RX10) (T := TX10) (N := 6) hx hb hts hiX10 tyX10 tyX10_ok nmX10 hown hK hP hD hS 0 rfl rfl 5 (by decide) hf175 (fun _ h9 => h9) rfl (by decide +kernel) rfl rfl (Nat.le_of_ble_eq_true rfl) dX10_look_26 (fun H locs hP hD hS => ?_)
      replace hP : va_P (dC, dI) vwCl ((W_NO adK adV cI cB cS cY np pg g q qb n k cO (upd ni 2 x5) bv bm ml cn bt f t a b sg) ++ va_pl sL (sgF sf)) H := hP
      replace hD : va_D A ((W_NO adK adV cI cB cS cY np pg g q qb n k cO (upd ni 2 x5) bv bm ml cn bt f t a b sg) ++ va_pl sL (sgF sf)) := hD
      refine lv_aload_n hx hb dX10_look_29 rfl (lv_at hl 0 rfl) ?_
      refine va_get (D := (dC, dI)) (ci := 12) (v := .ref (q 0)) (C := RX10) (T := TX10) (N := 6) hx hb hts hiX10 hown hK hP 0 rfl rfl 2 (by decide) hf40 (fun _ h9 => h9) rfl dX10_look_30 ?_
      refine g_ci (g_J.poolP (W2 := fun u6 : ((Nat → Int32) × (Nat) × (Nat → Nat → Int32)) => (W_NO adK adV cI cB cS cY np pg g q qb n k cO (upd ni 2 x5) bv bm ml cn bt (u6.1) (u6.2.1) (u6.2.2) b sg)) (pl := va_pl sL (sgF sf)) (PL := fun u6 : ((Nat → Int32) × (Nat) × (Nat → Nat → Int32)) => va_pl sL (sgF sf)) (RX := fun u6 : ((Nat → Int32) × (Nat) × (Nat → Nat → Int32)) => (W_PO adK adV cI cB cS q qb n k cO (u6.1) (u6.2.1) (u6.2.2) b sg)) [(np, .inr (12, [.ref (q 1), .ref pg, .ref (q 0), .int (ni 0), .int (ni 1), .int x5])), (pg, .inr (6, [.ref g])), (g, .inr (1, [.ref bv, .int (0 : Int32), .int ml, .int cn])), (bv, .inl (cY, bm, .inl bt))] [4, 5, 6, 7, 8, 9, 10, 11, 12, 13, 14, 15, 16, 17, 18, 19, 20, 21, 22, 23, 24, 25, 26] [0, 1, 2, 3] [0, 1, 2, 3, 4, 5, 6, 7, 8, 9, 10, 11, 12, 13, 14, 15, 16, 17, 18, 19, 20, 21, 22, 23, 24, 25, 26] rfl (by decide) rfl (by decide) (by decide) (fun _ => rfl) (by decide)) [0, 1, 2, 4] hK hP hD hS hA rfl (fun hPc hDc hKc hFc => va_runV (As := []) (rest := []) ⟨hx, hb, hml, hown, hts⟩ (t_X5_nextLook l dC dI adK adV cI cB cS q qb n k cO H.size f t a b sg sL sf  _ hw) (cwV 0 hts gX10_look_X5_nextLook rfl rfl rfl (by decide +kernel) ⟨Nat.le_of_ble_eq_true rfl, Nat.le_of_ble_eq_true rfl⟩) (g_pV czob (q0 := 0) rfl rfl hPc hDc hKc (czoc hZ hS hFc)) rfl rfl hl.1 rfl (lv_room (Nat.le_of_ble_eq_true rfl)) dX10_look_33 ⟨Nat.le_of_ble_eq_true rfl, Nat.le_of_ble_eq_true rfl⟩) (fun r7 u6 H locs hw hP hD hS => ?_)
      refine W.widen (k := 11) (n := 2450) (Nat.le_of_ble_eq_true rfl) (Nat.le_of_ble_eq_true rfl) ?_
      replace hP : va_P (dC, dI) vwCl ((W_NO adK adV cI cB cS cY np pg g q qb n k cO (upd ni 2 x5) bv bm ml cn bt (u6.1) (u6.2.1) (u6.2.2) b sg) ++ va_pl sL (sgF sf)) H := hP
      replace hD : va_D A ((W_NO adK adV cI cB cS cY np pg g q qb n k cO (upd ni 2 x5) bv bm ml cn bt (u6.1) (u6.2.1) (u6.2.2) b sg) ++ va_pl sL (sgF sf)) := hD
      exact hret dX10_look_36 hK hP hD hS hw
    · replace hw := hw.2 hc4
      refine lv_bipush (v := -103) hx hb dX10_look_16 (by decide) ?_
      refine W.widen (k := 11) (n := 2450) (Nat.le_of_ble_eq_true rfl) (Nat.le_of_ble_eq_true rfl) ?_
      exact hret dX10_look_18 hK hP hD hS hw

def w_X10_see (n : Nat) (k : Nat) (q : Nat → Nat) (ni : Nat → Int32) (bv : Nat) (bm : Nat) (ml : Int32) (cn : Int32) (bt : Nat → Int32) (f : Nat → Int32) (t : Nat) (a : Nat → Nat → Int32) (b : Nat → Nat → Option Nat) (sg : Nat → Nat → Option Nat) (sL : List Nat) (sf : Nat → Nat → Int32)  (p0 : Int32) (p1 : Int32) (p2 : Int32) (p3 : Int32) (Q : Int32 → (List Nat × (Nat → Nat → Int32) × (Nat → Int32) × (Nat → Nat → Option Nat)) → Prop) : Prop := w_X10_isAbove n k q ni bv bm ml cn bt f t a b sg sL sf p0 (fun (r2 : Int32) (u1 : Unit) => (((¬ r2 = 0) → w_X10_isDigit p1 (fun (r4 : Int32) => (((r4 = 0) → Q (-102 : Int32) (sL, sf, f, sg)) ∧ (¬ (r4 = 0) → w_X10_isDigit p2 (fun (r6 : Int32) => (((r6 = 0) → Q (-102 : Int32) (sL, sf, f, sg)) ∧ (¬ (r6 = 0) → w_X10_isWithin p3 (0 : Int32) (30 : Int32) (fun (r8 : Int32) => (((¬ r8 = 0) → ((((f 3) < (6 : Int32)) → ∀ q11 : Nat, w_X7_init   p0 p1 p2 p3 (fun (u12 : Unit) => ∀ sL0 : List Nat, sL0 = sL → ∀ sf0 : Nat → Nat → Int32, sf0 = sf → (q11 ∉ sL0) → ∀ sL : List Nat, sL = sL0 ++ [q11] → ∀ sf : Nat → Nat → Int32, sf = va_up sf0 q11 (sgv p0 p1 p2 p3) → w_X8_addSight (sg 0) (f 3) sL sf q11  (fun (u13 : ((Nat → Option Nat) × (Int32))) => Q (u13.2) (sL, sf, (upd f 3 (u13.2)), (va_up sg 0 (u13.1)))))) ∧ (¬ ((f 3) < (6 : Int32)) → Q (-104 : Int32) (sL, sf, f, sg)))) ∧ (r8 = 0 → Q (-102 : Int32) (sL, sf, f, sg))))))))))) ∧ (r2 = 0 → Q (-101 : Int32) (sL, sf, f, sg))))
abbrev rmX10_see : Room := { frames := 2, cells := 1, slots := 4, locals := 43 }
set_option maxHeartbeats 4000000 in
set_option maxRecDepth 100000 in
theorem t_X10_see (l : Launch) (dC : Nat → ClassId) (dI : Nat → Nat → Nat) (adK : Nat → Nat) (adV : Nat → Nat) (cI : ClassId) (cB : ClassId) (cS : ClassId) (cY : ClassId) (np : Nat) (pg : Nat) (g : Nat) (q : Nat → Nat) (qb : Nat → Nat) (n : Nat) (k : Nat) (sz : Nat) (ni : Nat → Int32) (bv : Nat) (bm : Nat) (ml : Int32) (cn : Int32) (bt : Nat → Int32) (f : Nat → Int32) (t : Nat) (a : Nat → Nat → Int32) (b : Nat → Nat → Option Nat) (sg : Nat → Nat → Option Nat) (sL : List Nat) (sf : Nat → Nat → Int32)   (p0 : Int32) (p1 : Int32) (p2 : Int32) (p3 : Int32) (Q0 : Int32 → (List Nat × (Nat → Nat → Int32) × (Nat → Int32) × (Nat → Nat → Option Nat)) → Prop) (hw : w_X10_see n k q ni bv bm ml cn bt f t a b sg sL sf  p0 p1 p2 p3 Q0) : Met l yX10_see wsX10_see rmX10_see (g_pre (cz adK adV) (dC, dI) vwCl [(cI, .int), (cB, .object RX0), (cS, .object RX7), (cY, .byte)] ((W_N adK adV cI cB cS cY np pg g q qb n k ni bv bm ml cn bt f t a b sg) ++ va_pl sL (sgF sf)) sz [.ref np, .int p0, .int p1, .int p2, .int p3]) (g_qi (dC, dI) vwCl [(cI, .int), (cB, .object RX0), (cS, .object RX7), (cY, .byte)] (fun u : (List Nat × (Nat → Nat → Int32) × (Nat → Int32) × (Nat → Nat → Option Nat)) => W_N adK adV cI cB cS cY np pg g q qb n k ni bv bm ml cn bt u.2.2.1 t a b u.2.2.2 ++ va_pl u.1 (sgF u.2.1)) Q0 (va_A ((W_N adK adV cI cB cS cY np pg g q qb n k ni bv bm ml cn bt f t a b sg) ++ va_pl sL (sgF sf)) sz)) 1 4 (va_A ((W_N adK adV cI cB cS cY np pg g q qb n k ni bv bm ml cn bt f t a b sg) ++ va_pl sL (sgF sf)) sz) := by
  refine g_starti (by decide) rfl (Nat.le_of_ble_eq_true rfl) ?_
  intro p e s m args below meth c A Q ls hx hb hml hown hts hin hK hP hD hA hS hZ hret hl
  obtain ⟨H, eH⟩ : ∃ H : Heap, H = s.heap := ⟨_, rfl⟩
  obtain ⟨locs, eL⟩ : ∃ L : List Loc, L = [] := ⟨_, rfl⟩
  have hS : va_S A s.heap H locs := by rw [eH, eL]; exact hS
  rw [← eH] at hP
  suffices hg : W p l e rmX10_see s m args below meth c H locs 0 0 Q (F0 m 0 ls []) by rw [eH, eL] at hg; exact hg
  clear eH eL
  replace hl : lv_has ls 5 [(0, .ref np), (1, .int p0), (2, .int p1), (3, .int p2), (4, .int p3)] := hl
  have hf40 := hts (.fieldLink RX10 40 "NumberPile" "current" "LNumberPile$Pile;") (by decide +kernel)
  have hiX10 : ∀ w ∈ u_ws RX10 TX10 6, w ∈ wsX10_see := fun w h => List.mem_cons_of_mem _ (List.mem_append_left _ (List.mem_append_left _ (List.mem_append_left _ (List.mem_append_right _ h))))
  have nf105 := va_Nw.use (A := args) rfl (hZ.1 _ (List.mem_of_getElem? (i := 10) (rfl : cz_nest[10]? = some (.fieldLinkNest RX10 105 "NumberPile$Pile" "now" "LNumberPile$State;" "NumberPile"))))
  have hiX5 : ∀ w ∈ u_ws RX5 TX5 13, w ∈ wsX10_see := fun w h => List.mem_cons_of_mem _ (List.mem_append_left _ (List.mem_append_left _ (List.mem_append_right _ h)))
  have nf187 := va_Nw.use (A := args) rfl (hZ.1 _ (List.mem_of_getElem? (i := 14) (rfl : cz_nest[14]? = some (.fieldLinkNest RX10 187 "NumberPile$State" "sights" "I" "NumberPile"))))
  have hiX8 : ∀ w ∈ u_ws RX8 TX8 6, w ∈ wsX10_see := fun w h => List.mem_cons_of_mem _ (List.mem_append_left _ (List.mem_append_right _ h))
  have hiX7 : ∀ w ∈ u_ws RX7 TX7 4, w ∈ wsX10_see := fun w h => List.mem_cons_of_mem _ (List.mem_append_right _ h)
  have cl190 := hts (.classLink RX10 190 RX7) (by decide +kernel)
  have inX7 := hts (.instantiable RX7 4) (by decide +kernel)
  have iniRX7 := hts (.initialized RX7) (by decide +kernel)
  have mk192 := hts (.methodLink RX10 192 yX7_init) (by decide +kernel)
  have imX7_init := hts (.instanceMethod yX7_init) (by decide +kernel)
  unfold w_X10_see at hw
  refine lv_aload_n hx hb dX10_see_0 rfl (lv_at hl 0 rfl) ?_
  refine lv_iload_n hx hb dX10_see_1 rfl (lv_at hl 1 rfl) ?_
  refine g_ci (g_J.poolP (W2 := fun u1 : Unit => (W_N adK adV cI cB cS cY np pg g q qb n k ni bv bm ml cn bt f t a b sg)) (pl := va_pl sL (sgF sf)) (PL := fun u1 : Unit => va_pl sL (sgF sf)) (RX := fun u1 : Unit => (W_N adK adV cI cB cS cY np pg g q qb n k ni bv bm ml cn bt f t a b sg)) [] [0, 1, 2, 3, 4, 5, 6, 7, 8, 9, 10, 11, 12, 13, 14, 15, 16, 17, 18, 19, 20, 21, 22, 23, 24, 25, 26] [] [0, 1, 2, 3, 4, 5, 6, 7, 8, 9, 10, 11, 12, 13, 14, 15, 16, 17, 18, 19, 20, 21, 22, 23, 24, 25, 26] rfl (by decide) rfl (by decide) (by decide) (fun _ => rfl) (by decide)) [0, 1, 2, 3] hK hP hD hS hA rfl (fun hPc hDc hKc hFc => va_runV (As := [.int p0]) (rest := []) ⟨hx, hb, hml, hown, hts⟩ (t_X10_isAbove l dC dI adK adV cI cB cS cY np pg g q qb n k H.size ni bv bm ml cn bt f t a b sg sL sf p0 _ hw) (cwV 1 hts gX10_see_X10_isAbove rfl rfl rfl (by decide +kernel) ⟨Nat.le_of_ble_eq_true rfl, Nat.le_of_ble_eq_true rfl⟩) (g_pV czb (q0 := 0) rfl rfl hPc hDc hKc (czc hZ hS hFc)) rfl rfl hl.1 rfl (lv_room (Nat.le_of_ble_eq_true rfl)) dX10_see_2 ⟨Nat.le_of_ble_eq_true rfl, Nat.le_of_ble_eq_true rfl⟩) (fun r2 u1 H locs hw hP hD hS => ?_)
  replace hP : va_P (dC, dI) vwCl ((W_N adK adV cI cB cS cY np pg g q qb n k ni bv bm ml cn bt f t a b sg) ++ va_pl sL (sgF sf)) H := hP
  replace hD : va_D A ((W_N adK adV cI cB cS cY np pg g q qb n k ni bv bm ml cn bt f t a b sg) ++ va_pl sL (sgF sf)) := hD
  refine lv_if_ne (tgt := 11) hx hb dX10_see_5 (by decide) (fun hc3 => ?_) (fun hc3 => ?_)
  · replace hw := hw.1 hc3
    refine lv_iload_n hx hb dX10_see_11 rfl (lv_at hl 2 rfl) ?_
    refine g_c0 (rest := []) (va_runS (As := [.int p1]) (rest := []) ⟨hx, hb, hml, hown, hts⟩ (t_X10_isDigit l  p1 _ hw) (va_cwS 1 hts gX10_see_X10_isDigit rfl rfl rfl (by decide +kernel) ⟨Nat.le_of_ble_eq_true rfl, Nat.le_of_ble_eq_true rfl⟩) g_p0S rfl rfl hl.1 rfl (lv_room (Nat.le_of_ble_eq_true rfl)) dX10_see_12 ⟨Nat.le_of_ble_eq_true rfl, Nat.le_of_ble_eq_true rfl⟩) (fun r4 hw => ?_)
    refine lv_if_eq (tgt := 36) hx hb dX10_see_15 (by decide) (fun hc5 => ?_) (fun hc5 => ?_)
    · replace hw := hw.1 hc5
      refine lv_bipush (v := -102) hx hb dX10_see_36 (by decide) ?_
      refine W.widen (k := 1) (n := 4) (Nat.le_of_ble_eq_true rfl) (Nat.le_of_ble_eq_true rfl) ?_
      exact hret dX10_see_38 hK hP hD hS hw
    · replace hw := hw.2 hc5
      refine lv_iload_n hx hb dX10_see_18 rfl (lv_at hl 3 rfl) ?_
      refine g_c0 (rest := []) (va_runS (As := [.int p2]) (rest := []) ⟨hx, hb, hml, hown, hts⟩ (t_X10_isDigit l  p2 _ hw) (va_cwS 1 hts gX10_see_X10_isDigit rfl rfl rfl (by decide +kernel) ⟨Nat.le_of_ble_eq_true rfl, Nat.le_of_ble_eq_true rfl⟩) g_p0S rfl rfl hl.1 rfl (lv_room (Nat.le_of_ble_eq_true rfl)) dX10_see_19 ⟨Nat.le_of_ble_eq_true rfl, Nat.le_of_ble_eq_true rfl⟩) (fun r6 hw => ?_)
      refine lv_if_eq (tgt := 36) hx hb dX10_see_22 (by decide) (fun hc7 => ?_) (fun hc7 => ?_)
      · replace hw := hw.1 hc7
        refine lv_bipush (v := -102) hx hb dX10_see_36 (by decide) ?_
        refine W.widen (k := 1) (n := 4) (Nat.le_of_ble_eq_true rfl) (Nat.le_of_ble_eq_true rfl) ?_
        exact hret dX10_see_38 hK hP hD hS hw
      · replace hw := hw.2 hc7
        refine lv_iload hx hb dX10_see_25 (lv_at hl 4 rfl) ?_
        refine lv_iconst (v := 0) hx hb dX10_see_27 (by decide) ?_
        refine lv_bipush (v := 30) hx hb dX10_see_28 (by decide) ?_
        refine g_c0 (rest := []) (va_runS (As := [.int p3, .int (0 : Int32), .int (30 : Int32)]) (rest := []) ⟨hx, hb, hml, hown, hts⟩ (t_X10_isWithin l  p3 (0 : Int32) (30 : Int32) _ hw) (va_cwS 3 hts gX10_see_X10_isWithin rfl rfl rfl (by decide +kernel) ⟨Nat.le_of_ble_eq_true rfl, Nat.le_of_ble_eq_true rfl⟩) g_p0S rfl rfl hl.1 rfl (lv_room (Nat.le_of_ble_eq_true rfl)) dX10_see_30 ⟨Nat.le_of_ble_eq_true rfl, Nat.le_of_ble_eq_true rfl⟩) (fun r8 hw => ?_)
        refine lv_if_ne (tgt := 39) hx hb dX10_see_33 (by decide) (fun hc9 => ?_) (fun hc9 => ?_)
        · replace hw := hw.1 hc9
          refine lv_aload_n hx hb dX10_see_39 rfl (lv_at hl 0 rfl) ?_
          refine va_get (D := (dC, dI)) (ci := 12) (v := .ref (q 0)) (C := RX10) (T := TX10) (N := 6) hx hb hts hiX10 hown hK hP 0 rfl rfl 2 (by decide) hf40 (fun _ h9 => h9) rfl dX10_see_40 ?_
          refine va_getN (D := (dC, dI)) (ci := 7) (v := .ref (q 3)) (C := RX5) (T := TX5) (N := 13) hx hb hts hiX5 hown hK hP 4 rfl rfl 4 (by decide) nf105 (fun _ h9 => h9) rfl dX10_see_43 ?_
          refine va_getN (D := (dC, dI)) (ci := 10) (v := .int (f 3)) (C := RX8) (T := TX8) (N := 6) hx hb hts hiX8 hown hK hP 7 rfl rfl 4 (by decide) nf187 (fun _ h9 => h9) rfl dX10_see_46 ?_
          refine lv_bipush (v := 6) hx hb dX10_see_49 (by decide) ?_
          refine lv_icmp_lt (tgt := 57) hx hb dX10_see_51 (by decide) (fun hc10 => ?_) (fun hc10 => ?_)
          · replace hw := hw.1 hc10
            refine lv_aload_n hx hb dX10_see_57 rfl (lv_at hl 0 rfl) ?_
            refine va_get (D := (dC, dI)) (ci := 12) (v := .ref (q 0)) (C := RX10) (T := TX10) (N := 6) hx hb hts hiX10 hown hK hP 0 rfl rfl 2 (by decide) hf40 (fun _ h9 => h9) rfl dX10_see_58 ?_
            refine va_getN (D := (dC, dI)) (ci := 7) (v := .ref (q 3)) (C := RX5) (T := TX5) (N := 13) hx hb hts hiX5 hown hK hP 4 rfl rfl 4 (by decide) nf105 (fun _ h9 => h9) rfl dX10_see_61 ?_
            refine va_new (ci := 9) (fs := [.int 0, .int 0, .int 0, .int 0]) (C := RX7) (T := TX7) (N := 4) hx hb hts hiX7 tyX7 tyX7_ok hown cl190 inX7 iniRX7 hK hP hD hS hA rfl (fun j hj => by rcases (show j = 0 ∨ j = 1 ∨ j = 2 ∨ j = 3 by omega) with rfl | rfl | rfl | rfl <;> rfl) (Nat.le_of_ble_eq_true rfl) (Nat.le_of_ble_eq_true rfl) dX10_see_64 (fun q11 H hP hD hS => ?_)
            replace hw := hw q11
            refine W.widen (k := 1) (n := 4) (Nat.le_of_ble_eq_true rfl) (Nat.le_of_ble_eq_true rfl) ?_
            replace hP := hP.swap
            replace hD := hD.swap
            replace hP : va_P (dC, dI) vwCl (((W_N adK adV cI cB cS cY np pg g q qb n k ni bv bm ml cn bt f t a b sg) ++ [(q11, .inr (9, [.int 0, .int 0, .int 0, .int 0]))]) ++ va_pl sL (sgF sf)) H := hP
            replace hD : va_D A (((W_N adK adV cI cB cS cY np pg g q qb n k ni bv bm ml cn bt f t a b sg) ++ [(q11, .inr (9, [.int 0, .int 0, .int 0, .int 0]))]) ++ va_pl sL (sgF sf)) := hD
            refine lv_dup hx hb dX10_see_67 rfl ?_
            refine lv_iload_n hx hb dX10_see_68 rfl (lv_at hl 1 rfl) ?_
            refine lv_iload_n hx hb dX10_see_69 rfl (lv_at hl 2 rfl) ?_
            refine lv_iload_n hx hb dX10_see_70 rfl (lv_at hl 3 rfl) ?_
            refine lv_iload hx hb dX10_see_71 (lv_at hl 4 rfl) ?_
            refine g_cv (g_J.poolQ (W2 := fun u12 : Unit => ((W_N adK adV cI cB cS cY np pg g q qb n k ni bv bm ml cn bt f t a b sg) ++ [(q11, .inr (9, [.int p0, .int p1, .int p2, .int p3]))])) (pl := va_pl sL (sgF sf)) [(np, .inr (12, [.ref (q 1), .ref pg, .ref (q 0), .int (ni 0), .int (ni 1), .int (ni 2)])), (pg, .inr (6, [.ref g])), (g, .inr (1, [.ref bv, .int (0 : Int32), .int ml, .int cn])), (bv, .inl (cY, bm, .inl bt)), ((q 0), .inr (7, [.int (nI n), .int (nI k), .ref (q 1), .ref (q 2), .ref (q 3), .ref (q 8), .int (f 0), .ref (q 13), .ref (q 14), .ref (q 15), .int (f 1), .ref (q 17), .int (f 2)])), ((q 1), .inl (cB, (5), .inr (.inr (.inr (.inr (fun i => (kAll i).map qb)))))), ((q 2), .inl (cI, k, .inl (a 0))), ((q 3), .inr (10, [.ref (q 4), .ref (q 5), .ref (q 6), .ref (q 7), .int (f 3), .int (f 4)])), ((q 4), .inl (cB, (k - n), .inr (.inr (.inr (.inr (fun i => ((b 0) i).map qb)))))), ((q 5), .inl (cI, n, .inl (a 1))), ((q 6), .inl (cI, k, .inl (a 2))), ((q 7), .inl (cS, (6), .inr (.inr (.inr (.inr (sg 0)))))), ((q 8), .inr (10, [.ref (q 9), .ref (q 10), .ref (q 11), .ref (q 12), .int (f 5), .int (f 6)])), ((q 9), .inl (cB, (k - n), .inr (.inr (.inr (.inr (fun i => ((b 1) i).map qb)))))), ((q 10), .inl (cI, n, .inl (a 3))), ((q 11), .inl (cI, k, .inl (a 4))), ((q 12), .inl (cS, (6), .inr (.inr (.inr (.inr (sg 1)))))), ((q 13), .inl (cI, k, .inl (a 5))), ((q 14), .inl (cI, k, .inl (a 6))), ((q 15), .inr (8, [.int (nI n), .ref (q 4), .ref (q 16), .ref t, .int (f 7)])), ((q 16), .inl (cI, k, .inl (a 8))), ((q 17), .inl (cI, (10 * n), .inl (a 7))), ((qb 0), .inr (2, [])), ((qb 1), .inr (3, [])), ((qb 2), .inr (5, [])), ((qb 3), .inr (11, [])), ((qb 4), .inr (4, []))] [27] [0, 1, 2, 3, 4, 5, 6, 7, 8, 9, 10, 11, 12, 13, 14, 15, 16, 17, 18, 19, 20, 21, 22, 23, 24, 25, 26] [0, 1, 2, 3, 4, 5, 6, 7, 8, 9, 10, 11, 12, 13, 14, 15, 16, 17, 18, 19, 20, 21, 22, 23, 24, 25, 26, 27] rfl (by decide) rfl (by decide) (by decide) (fun _ => rfl) (by decide)) [] hK hP hD hS hA rfl (fun hPc hDc hKc hFc => va_runI (As := [.int p0, .int p1, .int p2, .int p3]) (rest := [.ref q11, .ref (q 3)]) ⟨hx, hb, hml, hown, hts⟩ (t_X7_init l dC dI adK adV q11 H.size   p0 p1 p2 p3 _ hw) (cwI 4 hts gX10_see_X7_init rfl rfl rfl iniRX7 mk192 imX7_init rfl (by decide +kernel) ⟨Nat.le_of_ble_eq_true rfl, Nat.le_of_ble_eq_true rfl⟩) (g_pS czb (As := .ref q11 :: [.int p0, .int p1, .int p2, .int p3]) hPc hDc hKc (czc hZ hS hFc)) rfl rfl hl.1 rfl (lv_room (Nat.le_of_ble_eq_true rfl)) dX10_see_73 ⟨Nat.le_of_ble_eq_true rfl, Nat.le_of_ble_eq_true rfl⟩) (fun u12 H locs hw hP hD hS => ?_)
            replace hP : va_P (dC, dI) vwCl (((W_N adK adV cI cB cS cY np pg g q qb n k ni bv bm ml cn bt f t a b sg) ++ [(q11, .inr (9, [.int p0, .int p1, .int p2, .int p3]))]) ++ va_pl sL (sgF sf)) H := hP
            replace hD : va_D A (((W_N adK adV cI cB cS cY np pg g q qb n k ni bv bm ml cn bt f t a b sg) ++ [(q11, .inr (9, [.int p0, .int p1, .int p2, .int p3]))]) ++ va_pl sL (sgF sf)) := hD
            have hy9 := sg_fresh hD
            replace hP := sg_pushP hy9 hP
            replace hD := sg_pushD hy9 hD
            obtain ⟨sL, e91⟩ : ∃ x : List Nat, x = sL ++ [q11] := ⟨_, rfl⟩
            obtain ⟨sf, e92⟩ : ∃ x : Nat → Nat → Int32, x = va_up sf q11 (sgv p0 p1 p2 p3) := ⟨_, rfl⟩
            rw [← e91, ← e92] at hP hD
            have hyL : q11 ∈ sL := by rw [e91]; simp
            replace hw := hw _ rfl _ rfl hy9 sL e91 sf e92
            replace hP : va_P (dC, dI) vwCl ((W_N adK adV cI cB cS cY np pg g q qb n k ni bv bm ml cn bt f t a b sg) ++ va_pl sL (sgF sf)) H := hP
            replace hD : va_D A ((W_N adK adV cI cB cS cY np pg g q qb n k ni bv bm ml cn bt f t a b sg) ++ va_pl sL (sgF sf)) := hD
            refine g_cv (g_J.poolP (W2 := fun u13 : ((Nat → Option Nat) × (Int32)) => (W_N adK adV cI cB cS cY np pg g q qb n k ni bv bm ml cn bt (upd f 3 (u13.2)) t a b (va_up sg 0 (u13.1)))) (pl := va_pl sL (sgF sf)) (PL := fun u13 : ((Nat → Option Nat) × (Int32)) => va_pl sL (sgF sf)) (RX := fun u13 : ((Nat → Option Nat) × (Int32)) => (W_AS cS (q 3) (q 4) (q 5) (q 6) (q 7) (f 4) (u13.1) (u13.2))) [(np, .inr (12, [.ref (q 1), .ref pg, .ref (q 0), .int (ni 0), .int (ni 1), .int (ni 2)])), (pg, .inr (6, [.ref g])), (g, .inr (1, [.ref bv, .int (0 : Int32), .int ml, .int cn])), (bv, .inl (cY, bm, .inl bt)), ((q 0), .inr (7, [.int (nI n), .int (nI k), .ref (q 1), .ref (q 2), .ref (q 3), .ref (q 8), .int (f 0), .ref (q 13), .ref (q 14), .ref (q 15), .int (f 1), .ref (q 17), .int (f 2)])), ((q 1), .inl (cB, (5), .inr (.inr (.inr (.inr (fun i => (kAll i).map qb)))))), ((q 2), .inl (cI, k, .inl (a 0))), ((q 4), .inl (cB, (k - n), .inr (.inr (.inr (.inr (fun i => ((b 0) i).map qb)))))), ((q 5), .inl (cI, n, .inl (a 1))), ((q 6), .inl (cI, k, .inl (a 2))), ((q 8), .inr (10, [.ref (q 9), .ref (q 10), .ref (q 11), .ref (q 12), .int (f 5), .int (f 6)])), ((q 9), .inl (cB, (k - n), .inr (.inr (.inr (.inr (fun i => ((b 1) i).map qb)))))), ((q 10), .inl (cI, n, .inl (a 3))), ((q 11), .inl (cI, k, .inl (a 4))), ((q 12), .inl (cS, (6), .inr (.inr (.inr (.inr (sg 1)))))), ((q 13), .inl (cI, k, .inl (a 5))), ((q 14), .inl (cI, k, .inl (a 6))), ((q 15), .inr (8, [.int (nI n), .ref (q 4), .ref (q 16), .ref t, .int (f 7)])), ((q 16), .inl (cI, k, .inl (a 8))), ((q 17), .inl (cI, (10 * n), .inl (a 7))), ((qb 0), .inr (2, [])), ((qb 1), .inr (3, [])), ((qb 2), .inr (5, [])), ((qb 3), .inr (11, [])), ((qb 4), .inr (4, []))] [7, 11] [0, 1, 2, 3, 4, 5, 6, 8, 9, 10, 12, 13, 14, 15, 16, 17, 18, 19, 20, 21, 22, 23, 24, 25, 26] [0, 1, 2, 3, 4, 5, 6, 25, 7, 8, 9, 26, 10, 11, 12, 13, 14, 15, 16, 17, 18, 19, 20, 21, 22, 23, 24] rfl (by decide) rfl (by decide) (by decide) (fun _ => rfl) (by decide)) [2] hK hP hD hS hA rfl (fun hPc hDc hKc hFc => va_runV (As := [.ref q11]) (rest := []) ⟨hx, hb, hml, hown, hts⟩ (t_X8_addSight l dC dI cS (q 3) (q 4) (q 5) (q 6) (q 7) (f 4) H.size (sg 0) (f 3) sL sf q11 hyL  _ hw) (cwV 1 hts gX10_see_X8_addSight rfl rfl rfl (by decide +kernel) ⟨Nat.le_of_ble_eq_true rfl, Nat.le_of_ble_eq_true rfl⟩) (g_pV g_Tb (q0 := 0) rfl rfl hPc hDc hKc (fun _ _ _ => trivial)) rfl rfl hl.1 rfl (lv_room (Nat.le_of_ble_eq_true rfl)) dX10_see_76 ⟨Nat.le_of_ble_eq_true rfl, Nat.le_of_ble_eq_true rfl⟩) (fun u13 H locs hw hP hD hS => ?_)
            replace hP : va_P (dC, dI) vwCl ((W_N adK adV cI cB cS cY np pg g q qb n k ni bv bm ml cn bt (upd f 3 (u13.2)) t a b (va_up sg 0 (u13.1))) ++ va_pl sL (sgF sf)) H := hP
            replace hD : va_D A ((W_N adK adV cI cB cS cY np pg g q qb n k ni bv bm ml cn bt (upd f 3 (u13.2)) t a b (va_up sg 0 (u13.1))) ++ va_pl sL (sgF sf)) := hD
            refine lv_aload_n hx hb dX10_see_79 rfl (lv_at hl 0 rfl) ?_
            refine va_get (D := (dC, dI)) (ci := 12) (v := .ref (q 0)) (C := RX10) (T := TX10) (N := 6) hx hb hts hiX10 hown hK hP 0 rfl rfl 2 (by decide) hf40 (fun _ h9 => h9) rfl dX10_see_80 ?_
            refine va_getN (D := (dC, dI)) (ci := 7) (v := .ref (q 3)) (C := RX5) (T := TX5) (N := 13) hx hb hts hiX5 hown hK hP 4 rfl rfl 4 (by decide) nf105 (fun _ h9 => h9) rfl dX10_see_83 ?_
            refine va_getN (D := (dC, dI)) (ci := 10) (v := .int (u13.2)) (C := RX8) (T := TX8) (N := 6) hx hb hts hiX8 hown hK hP 7 rfl rfl 4 (by decide) nf187 (fun _ h9 => h9) rfl dX10_see_86 ?_
            exact hret dX10_see_89 hK hP hD hS hw
          · replace hw := hw.2 hc10
            refine lv_bipush (v := -104) hx hb dX10_see_54 (by decide) ?_
            refine W.widen (k := 1) (n := 4) (Nat.le_of_ble_eq_true rfl) (Nat.le_of_ble_eq_true rfl) ?_
            exact hret dX10_see_56 hK hP hD hS hw
        · replace hw := hw.2 hc9
          refine lv_bipush (v := -102) hx hb dX10_see_36 (by decide) ?_
          refine W.widen (k := 1) (n := 4) (Nat.le_of_ble_eq_true rfl) (Nat.le_of_ble_eq_true rfl) ?_
          exact hret dX10_see_38 hK hP hD hS hw
  · replace hw := hw.2 hc3
    refine lv_bipush (v := -101) hx hb dX10_see_8 (by decide) ?_
    refine W.widen (k := 1) (n := 4) (Nat.le_of_ble_eq_true rfl) (Nat.le_of_ble_eq_true rfl) ?_
    exact hret dX10_see_10 hK hP hD hS hw
