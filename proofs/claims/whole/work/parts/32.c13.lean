def w_X10_put (n : Nat) (k : Nat) (q : Nat → Nat) (ni : Nat → Int32) (bv : Nat) (bm : Nat) (ml : Int32) (cn : Int32) (bt : Nat → Int32) (f : Nat → Int32) (t : Nat) (a : Nat → Nat → Int32) (b : Nat → Nat → Int32) (sg : Nat → Nat → Option Nat) (sL : List Nat) (sf : Nat → Nat → Int32)  (p0 : Int32) (p1 : Int32) (Q : Int32 → ((Nat → Int32) × (Nat → Int32) × (Nat → Nat → Int32)) → Prop) : Prop := w_X10_isFigure n k q ni bv bm ml cn bt f t a b sg sL sf p0 (fun (r2 : Int32) (u1 : Unit) => (((¬ r2 = 0) → w_X10_isDigit p1 (fun (r4 : Int32) => (((¬ r4 = 0) → ((((f 4) < (9999 : Int32)) → (vp_in p0 n) ∧ w_X5_figuresChanged n k q f t (va_up a 1 (upd (a 1) p0.toNatClampNeg p1)) b sg sL sf  (fun (r9 : Int32) (u8 : ((Nat → Int32) × (Nat → Nat → Int32))) => Q r9 (bt, u8.1, u8.2))) ∧ (¬ ((f 4) < (9999 : Int32)) → Q (-104 : Int32) (bt, f, a)))) ∧ (r4 = 0 → Q (-102 : Int32) (bt, f, a))))) ∧ (r2 = 0 → Q (-101 : Int32) (bt, f, a))))
abbrev rmX10_put : Room := { frames := 5, cells := 0, slots := 0, locals := 125 }
set_option maxHeartbeats 4000000 in
set_option maxRecDepth 100000 in
theorem t_X10_put (l : Launch) (dC : Nat → ClassId) (dI : Nat → Nat → Nat) (adK : Nat → Nat) (adV : Nat → Nat) (cI : ClassId) (cB : ClassId) (cS : ClassId) (cY : ClassId) (np : Nat) (pg : Nat) (g : Nat) (q : Nat → Nat) (qb : Nat → Nat) (n : Nat) (k : Nat) (sz : Nat) (ni : Nat → Int32) (bv : Nat) (bm : Nat) (ml : Int32) (cn : Int32) (bt : Nat → Int32) (f : Nat → Int32) (t : Nat) (a : Nat → Nat → Int32) (b : Nat → Nat → Int32) (sg : Nat → Nat → Option Nat) (sL : List Nat) (sf : Nat → Nat → Int32)   (p0 : Int32) (p1 : Int32) (Q0 : Int32 → ((Nat → Int32) × (Nat → Int32) × (Nat → Nat → Int32)) → Prop) (hw : w_X10_put n k q ni bv bm ml cn bt f t a b sg sL sf  p0 p1 Q0) : Met l yX10_put wsX10_put rmX10_put (g_pre (cz adK adV) (dC, dI) vwCl [(cI, .int), (cB, .object RX0), (cS, .object RX7), (cY, .byte)] ((W_N adK adV cI cB cS cY np pg g q qb n k ni bv bm ml cn bt f t a b sg) ++ va_pl sL (sgF sf)) sz [.ref np, .int p0, .int p1]) (g_qi (dC, dI) vwCl [(cI, .int), (cB, .object RX0), (cS, .object RX7), (cY, .byte)] (fun u : ((Nat → Int32) × (Nat → Int32) × (Nat → Nat → Int32)) => ((W_N adK adV cI cB cS cY np pg g q qb n k ni bv bm ml cn (u.1) (u.2.1) t (u.2.2) b sg) ++ va_pl sL (sgF sf))) Q0 (va_A ((W_N adK adV cI cB cS cY np pg g q qb n k ni bv bm ml cn bt f t a b sg) ++ va_pl sL (sgF sf)) sz)) 0 0 (va_A ((W_N adK adV cI cB cS cY np pg g q qb n k ni bv bm ml cn bt f t a b sg) ++ va_pl sL (sgF sf)) sz) := by
  refine g_starti (by decide) rfl (Nat.le_of_ble_eq_true rfl) ?_
  intro p e s m args below meth c A Q ls hx hb hml hown hts hin hK hP hD hA hS hZ hret hl
  obtain ⟨H, eH⟩ : ∃ H : Heap, H = s.heap := ⟨_, rfl⟩
  obtain ⟨locs, eL⟩ : ∃ L : List Loc, L = [] := ⟨_, rfl⟩
  have hS : va_S A s.heap H locs := by rw [eH, eL]; exact hS
  rw [← eH] at hP
  suffices hg : W p l e rmX10_put s m args below meth c H locs 0 0 Q (F0 m 0 ls []) by rw [eH, eL] at hg; exact hg
  clear eH eL
  replace hl : lv_has ls 3 [(0, .ref np), (1, .int p0), (2, .int p1)] := hl
  have hf40 := hts (.fieldLink RX10 40 "NumberPile" "current" "LNumberPile$Pile;") (by decide +kernel)
  have hiX10 : ∀ w ∈ u_ws RX10 TX10 6, w ∈ wsX10_put := fun w h => List.mem_cons_of_mem _ (List.mem_append_left _ (List.mem_append_left _ (List.mem_append_right _ h)))
  have nf102 := va_Nw.use (A := args) rfl (hZ.1 _ (List.mem_of_getElem? (i := 10) (rfl : cz_nest[10]? = some (.fieldLinkNest RX10 102 "NumberPile$Pile" "now" "LNumberPile$State;" "NumberPile"))))
  have hiX5 : ∀ w ∈ u_ws RX5 TX5 15, w ∈ wsX10_put := fun w h => List.mem_cons_of_mem _ (List.mem_append_left _ (List.mem_append_right _ h))
  have nf131 := va_Nw.use (A := args) rfl (hZ.1 _ (List.mem_of_getElem? (i := 12) (rfl : cz_nest[12]? = some (.fieldLinkNest RX10 131 "NumberPile$State" "changes" "I" "NumberPile"))))
  have hiX8 : ∀ w ∈ u_ws RX8 TX8 6, w ∈ wsX10_put := fun w h => List.mem_cons_of_mem _ (List.mem_append_right _ h)
  have nf134 := va_Nw.use (A := args) rfl (hZ.1 _ (List.mem_of_getElem? (i := 13) (rfl : cz_nest[13]? = some (.fieldLinkNest RX10 134 "NumberPile$State" "figures" "[I" "NumberPile"))))
  unfold w_X10_put at hw
  refine lv_aload_n hx hb dX10_put_0 rfl (lv_at hl 0 rfl) ?_
  refine lv_iload_n hx hb dX10_put_1 rfl (lv_at hl 1 rfl) ?_
  refine g_ci (g_J.poolP (W2 := fun u1 : Unit => (W_N adK adV cI cB cS cY np pg g q qb n k ni bv bm ml cn bt f t a b sg)) (pl := va_pl sL (sgF sf)) (PL := fun u1 : Unit => va_pl sL (sgF sf)) (RX := fun u1 : Unit => (W_N adK adV cI cB cS cY np pg g q qb n k ni bv bm ml cn bt f t a b sg)) [] [0, 1, 2, 3, 4, 5, 6, 7, 8, 9, 10, 11, 12, 13, 14, 15, 16, 17, 18, 19, 20, 21, 22, 23, 24, 25, 26, 27, 28, 29, 30] [] [0, 1, 2, 3, 4, 5, 6, 7, 8, 9, 10, 11, 12, 13, 14, 15, 16, 17, 18, 19, 20, 21, 22, 23, 24, 25, 26, 27, 28, 29, 30] rfl (by decide) rfl (by decide) (by decide) (fun _ => rfl) (by decide)) [0, 1, 2, 3] hK hP hD hS hA rfl (fun hPc hDc hKc hFc => va_runV (As := [.int p0]) (rest := []) ⟨hx, hb, hml, hown, hts⟩ (t_X10_isFigure l dC dI adK adV cI cB cS cY np pg g q qb n k H.size ni bv bm ml cn bt f t a b sg sL sf p0 _ hw) (cwV 1 hts gX10_put_X10_isFigure rfl rfl rfl (by decide +kernel) ⟨Nat.le_of_ble_eq_true rfl, Nat.le_of_ble_eq_true rfl⟩) (g_pV czb (q0 := 0) rfl rfl hPc hDc hKc (czc hZ hS hFc)) rfl rfl hl.1 rfl (lv_room (Nat.le_of_ble_eq_true rfl)) dX10_put_2 ⟨Nat.le_of_ble_eq_true rfl, Nat.le_of_ble_eq_true rfl⟩) (fun r2 u1 H locs hw hP hD hS => ?_)
  replace hP : va_P (dC, dI) vwCl ((W_N adK adV cI cB cS cY np pg g q qb n k ni bv bm ml cn bt f t a b sg) ++ va_pl sL (sgF sf)) H := hP
  replace hD : va_D A ((W_N adK adV cI cB cS cY np pg g q qb n k ni bv bm ml cn bt f t a b sg) ++ va_pl sL (sgF sf)) := hD
  refine lv_if_ne (tgt := 11) hx hb dX10_put_5 (by decide) (fun hc3 => ?_) (fun hc3 => ?_)
  · replace hw := hw.1 hc3
    refine lv_iload_n hx hb dX10_put_11 rfl (lv_at hl 2 rfl) ?_
    refine g_c0 (rest := []) (va_runS (As := [.int p1]) (rest := []) ⟨hx, hb, hml, hown, hts⟩ (t_X10_isDigit l  p1 _ hw) (va_cwS 1 hts gX10_put_X10_isDigit rfl rfl rfl (by decide +kernel) ⟨Nat.le_of_ble_eq_true rfl, Nat.le_of_ble_eq_true rfl⟩) g_p0S rfl rfl hl.1 rfl (lv_room (Nat.le_of_ble_eq_true rfl)) dX10_put_12 ⟨Nat.le_of_ble_eq_true rfl, Nat.le_of_ble_eq_true rfl⟩) (fun r4 hw => ?_)
    refine lv_if_ne (tgt := 21) hx hb dX10_put_15 (by decide) (fun hc5 => ?_) (fun hc5 => ?_)
    · replace hw := hw.1 hc5
      refine lv_aload_n hx hb dX10_put_21 rfl (lv_at hl 0 rfl) ?_
      refine va_get (D := (dC, dI)) (ci := 12) (v := .ref (q 0)) (C := RX10) (T := TX10) (N := 6) hx hb hts hiX10 hown hK hP 0 rfl rfl 2 (by decide) hf40 (fun _ h9 => h9) rfl dX10_put_22 ?_
      refine va_getN (D := (dC, dI)) (ci := 7) (v := .ref (q 3)) (C := RX5) (T := TX5) (N := 15) hx hb hts hiX5 hown hK hP 4 rfl rfl 4 (by decide) nf102 (fun _ h9 => h9) rfl dX10_put_25 ?_
      refine va_getN (D := (dC, dI)) (ci := 10) (v := .int (f 4)) (C := RX8) (T := TX8) (N := 6) hx hb hts hiX8 hown hK hP 7 rfl rfl 5 (by decide) nf131 (fun _ h9 => h9) rfl dX10_put_28 ?_
      refine lv_sipush (v := 9999) hx hb dX10_put_31 (by decide) ?_
      refine lv_icmp_lt (tgt := 40) hx hb dX10_put_34 (by decide) (fun hc6 => ?_) (fun hc6 => ?_)
      · replace hw := hw.1 hc6
        refine lv_aload_n hx hb dX10_put_40 rfl (lv_at hl 0 rfl) ?_
        refine va_get (D := (dC, dI)) (ci := 12) (v := .ref (q 0)) (C := RX10) (T := TX10) (N := 6) hx hb hts hiX10 hown hK hP 0 rfl rfl 2 (by decide) hf40 (fun _ h9 => h9) rfl dX10_put_41 ?_
        refine va_getN (D := (dC, dI)) (ci := 7) (v := .ref (q 3)) (C := RX5) (T := TX5) (N := 15) hx hb hts hiX5 hown hK hP 4 rfl rfl 4 (by decide) nf102 (fun _ h9 => h9) rfl dX10_put_44 ?_
        refine va_getN (D := (dC, dI)) (ci := 10) (v := .ref (q 5)) (C := RX8) (T := TX8) (N := 6) hx hb hts hiX8 hown hK hP 7 rfl rfl 1 (by decide) nf134 (fun _ h9 => h9) rfl dX10_put_47 ?_
        refine lv_iload_n hx hb dX10_put_50 rfl (lv_at hl 1 rfl) ?_
        refine lv_iload_n hx hb dX10_put_51 rfl (lv_at hl 2 rfl) ?_
        obtain ⟨hb7, hw⟩ := hw
        refine va_iast hx hb hK hP hD hS 9 0 rfl rfl hb7 dX10_put_52 (fun H locs hP hD hS => ?_)
        replace hP : va_P (dC, dI) vwCl ((W_N adK adV cI cB cS cY np pg g q qb n k ni bv bm ml cn bt f t (va_up a 1 (upd (a 1) p0.toNatClampNeg p1)) b sg) ++ va_pl sL (sgF sf)) H := hP
        replace hD : va_D A ((W_N adK adV cI cB cS cY np pg g q qb n k ni bv bm ml cn bt f t (va_up a 1 (upd (a 1) p0.toNatClampNeg p1)) b sg) ++ va_pl sL (sgF sf)) := hD
        refine lv_aload_n hx hb dX10_put_53 rfl (lv_at hl 0 rfl) ?_
        refine va_get (D := (dC, dI)) (ci := 12) (v := .ref (q 0)) (C := RX10) (T := TX10) (N := 6) hx hb hts hiX10 hown hK hP 0 rfl rfl 2 (by decide) hf40 (fun _ h9 => h9) rfl dX10_put_54 ?_
        refine g_ci (g_J.poolP (W2 := fun u8 : ((Nat → Int32) × (Nat → Nat → Int32)) => (W_N adK adV cI cB cS cY np pg g q qb n k ni bv bm ml cn bt (u8.1) t (u8.2) b sg)) (pl := va_pl sL (sgF sf)) (PL := fun u8 : ((Nat → Int32) × (Nat → Nat → Int32)) => va_pl sL (sgF sf)) (RX := fun u8 : ((Nat → Int32) × (Nat → Nat → Int32)) => (W_P adK adV cI cB cS q qb n k (u8.1) t (u8.2) b sg)) [(np, .inr (12, [.ref (q 1), .ref pg, .ref (q 0), .int (ni 0), .int (ni 1), .int (ni 2)])), (pg, .inr (6, [.ref g])), (g, .inr (1, [.ref bv, .int (0 : Int32), .int ml, .int cn])), (bv, .inl (cY, bm, .inl bt))] [4, 5, 6, 7, 8, 9, 10, 11, 12, 13, 14, 15, 16, 17, 18, 19, 20, 21, 22, 23, 24, 25, 26, 27, 28, 29, 30] [0, 1, 2, 3] [0, 1, 2, 3, 4, 5, 6, 7, 8, 9, 10, 11, 12, 13, 14, 15, 16, 17, 18, 19, 20, 21, 22, 23, 24, 25, 26, 27, 28, 29, 30] rfl (by decide) rfl (by decide) (by decide) (fun _ => rfl) (by decide)) [0, 1, 2] hK hP hD hS hA rfl (fun hPc hDc hKc hFc => va_runV (As := []) (rest := []) ⟨hx, hb, hml, hown, hts⟩ (t_X5_figuresChanged l dC dI adK adV cI cB cS q qb n k H.size f t (va_up a 1 (upd (a 1) p0.toNatClampNeg p1)) b sg sL sf  _ hw) (cwV 0 hts gX10_put_X5_figuresChanged rfl rfl rfl (by decide +kernel) ⟨Nat.le_of_ble_eq_true rfl, Nat.le_of_ble_eq_true rfl⟩) (g_pV czb (q0 := 0) rfl rfl hPc hDc hKc (czc hZ hS hFc)) rfl rfl hl.1 rfl (lv_room (Nat.le_of_ble_eq_true rfl)) dX10_put_57 ⟨Nat.le_of_ble_eq_true rfl, Nat.le_of_ble_eq_true rfl⟩) (fun r9 u8 H locs hw hP hD hS => ?_)
        replace hP : va_P (dC, dI) vwCl ((W_N adK adV cI cB cS cY np pg g q qb n k ni bv bm ml cn bt (u8.1) t (u8.2) b sg) ++ va_pl sL (sgF sf)) H := hP
        replace hD : va_D A ((W_N adK adV cI cB cS cY np pg g q qb n k ni bv bm ml cn bt (u8.1) t (u8.2) b sg) ++ va_pl sL (sgF sf)) := hD
        exact hret dX10_put_60 hK hP hD hS hw
      · replace hw := hw.2 hc6
        refine lv_bipush (v := -104) hx hb dX10_put_37 (by decide) ?_
        exact hret dX10_put_39 hK hP hD hS hw
    · replace hw := hw.2 hc5
      refine lv_bipush (v := -102) hx hb dX10_put_18 (by decide) ?_
      exact hret dX10_put_20 hK hP hD hS hw
  · replace hw := hw.2 hc3
    refine lv_bipush (v := -101) hx hb dX10_put_8 (by decide) ?_
    exact hret dX10_put_10 hK hP hD hS hw

def w_X10_exchange (n : Nat) (k : Nat) (q : Nat → Nat) (ni : Nat → Int32) (bv : Nat) (bm : Nat) (ml : Int32) (cn : Int32) (bt : Nat → Int32) (f : Nat → Int32) (t : Nat) (a : Nat → Nat → Int32) (b : Nat → Nat → Int32) (sg : Nat → Nat → Option Nat) (sL : List Nat) (sf : Nat → Nat → Int32)  (p0 : Int32) (p1 : Int32) (Q : Int32 → ((Nat → Int32) × (Nat → Int32) × (Nat → Nat → Int32)) → Prop) : Prop := w_X10_isFigure n k q ni bv bm ml cn bt f t a b sg sL sf p0 (fun (r2 : Int32) (u1 : Unit) => (((r2 = 0) → Q (-101 : Int32) (bt, f, a)) ∧ (¬ (r2 = 0) → w_X10_isFigure n k q ni bv bm ml cn bt f t a b sg sL sf p1 (fun (r5 : Int32) (u4 : Unit) => (((r5 = 0) → Q (-101 : Int32) (bt, f, a)) ∧ (¬ (r5 = 0) → (((¬ p0 = p1) → ((((f 4) < (9999 : Int32)) → (vp_in p0 n) ∧ ∀ x10 : Int32, x10 = ((a 1) p0.toNatClampNeg) → (vp_in p1 n) ∧ ∀ x13 : Int32, x13 = ((a 1) p1.toNatClampNeg) → (vp_in p0 n) ∧ ∀ z15 : Nat → Int32, z15 = (upd (a 1) p0.toNatClampNeg x13) → (vp_in p1 n) ∧ w_X5_figuresChanged n k q f t (va_up a 1 (upd z15 p1.toNatClampNeg x10)) b sg sL sf  (fun (r17 : Int32) (u16 : ((Nat → Int32) × (Nat → Nat → Int32))) => Q r17 (bt, u16.1, u16.2))) ∧ (¬ ((f 4) < (9999 : Int32)) → Q (-104 : Int32) (bt, f, a)))) ∧ (p0 = p1 → Q (-101 : Int32) (bt, f, a)))))))))
abbrev rmX10_exchange : Room := { frames := 5, cells := 0, slots := 0, locals := 125 }
set_option maxHeartbeats 4000000 in
set_option maxRecDepth 100000 in
theorem t_X10_exchange (l : Launch) (dC : Nat → ClassId) (dI : Nat → Nat → Nat) (adK : Nat → Nat) (adV : Nat → Nat) (cI : ClassId) (cB : ClassId) (cS : ClassId) (cY : ClassId) (np : Nat) (pg : Nat) (g : Nat) (q : Nat → Nat) (qb : Nat → Nat) (n : Nat) (k : Nat) (sz : Nat) (ni : Nat → Int32) (bv : Nat) (bm : Nat) (ml : Int32) (cn : Int32) (bt : Nat → Int32) (f : Nat → Int32) (t : Nat) (a : Nat → Nat → Int32) (b : Nat → Nat → Int32) (sg : Nat → Nat → Option Nat) (sL : List Nat) (sf : Nat → Nat → Int32)   (p0 : Int32) (p1 : Int32) (Q0 : Int32 → ((Nat → Int32) × (Nat → Int32) × (Nat → Nat → Int32)) → Prop) (hw : w_X10_exchange n k q ni bv bm ml cn bt f t a b sg sL sf  p0 p1 Q0) : Met l yX10_exchange wsX10_exchange rmX10_exchange (g_pre (cz adK adV) (dC, dI) vwCl [(cI, .int), (cB, .object RX0), (cS, .object RX7), (cY, .byte)] ((W_N adK adV cI cB cS cY np pg g q qb n k ni bv bm ml cn bt f t a b sg) ++ va_pl sL (sgF sf)) sz [.ref np, .int p0, .int p1]) (g_qi (dC, dI) vwCl [(cI, .int), (cB, .object RX0), (cS, .object RX7), (cY, .byte)] (fun u : ((Nat → Int32) × (Nat → Int32) × (Nat → Nat → Int32)) => ((W_N adK adV cI cB cS cY np pg g q qb n k ni bv bm ml cn (u.1) (u.2.1) t (u.2.2) b sg) ++ va_pl sL (sgF sf))) Q0 (va_A ((W_N adK adV cI cB cS cY np pg g q qb n k ni bv bm ml cn bt f t a b sg) ++ va_pl sL (sgF sf)) sz)) 0 0 (va_A ((W_N adK adV cI cB cS cY np pg g q qb n k ni bv bm ml cn bt f t a b sg) ++ va_pl sL (sgF sf)) sz) := by
  refine g_starti (by decide) rfl (Nat.le_of_ble_eq_true rfl) ?_
  intro p e s m args below meth c A Q ls hx hb hml hown hts hin hK hP hD hA hS hZ hret hl
  obtain ⟨H, eH⟩ : ∃ H : Heap, H = s.heap := ⟨_, rfl⟩
  obtain ⟨locs, eL⟩ : ∃ L : List Loc, L = [] := ⟨_, rfl⟩
  have hS : va_S A s.heap H locs := by rw [eH, eL]; exact hS
  rw [← eH] at hP
  suffices hg : W p l e rmX10_exchange s m args below meth c H locs 0 0 Q (F0 m 0 ls []) by rw [eH, eL] at hg; exact hg
  clear eH eL
  replace hl : lv_has ls 5 [(0, .ref np), (1, .int p0), (2, .int p1)] := hl
  have hf40 := hts (.fieldLink RX10 40 "NumberPile" "current" "LNumberPile$Pile;") (by decide +kernel)
  have hiX10 : ∀ w ∈ u_ws RX10 TX10 6, w ∈ wsX10_exchange := fun w h => List.mem_cons_of_mem _ (List.mem_append_left _ (List.mem_append_left _ (List.mem_append_right _ h)))
  have nf102 := va_Nw.use (A := args) rfl (hZ.1 _ (List.mem_of_getElem? (i := 10) (rfl : cz_nest[10]? = some (.fieldLinkNest RX10 102 "NumberPile$Pile" "now" "LNumberPile$State;" "NumberPile"))))
  have hiX5 : ∀ w ∈ u_ws RX5 TX5 15, w ∈ wsX10_exchange := fun w h => List.mem_cons_of_mem _ (List.mem_append_left _ (List.mem_append_right _ h))
  have nf131 := va_Nw.use (A := args) rfl (hZ.1 _ (List.mem_of_getElem? (i := 12) (rfl : cz_nest[12]? = some (.fieldLinkNest RX10 131 "NumberPile$State" "changes" "I" "NumberPile"))))
  have hiX8 : ∀ w ∈ u_ws RX8 TX8 6, w ∈ wsX10_exchange := fun w h => List.mem_cons_of_mem _ (List.mem_append_right _ h)
  have nf134 := va_Nw.use (A := args) rfl (hZ.1 _ (List.mem_of_getElem? (i := 13) (rfl : cz_nest[13]? = some (.fieldLinkNest RX10 134 "NumberPile$State" "figures" "[I" "NumberPile"))))
  unfold w_X10_exchange at hw
  refine lv_aload_n hx hb dX10_exchange_0 rfl (lv_at hl 0 rfl) ?_
  refine lv_iload_n hx hb dX10_exchange_1 rfl (lv_at hl 1 rfl) ?_
  refine g_ci (g_J.poolP (W2 := fun u1 : Unit => (W_N adK adV cI cB cS cY np pg g q qb n k ni bv bm ml cn bt f t a b sg)) (pl := va_pl sL (sgF sf)) (PL := fun u1 : Unit => va_pl sL (sgF sf)) (RX := fun u1 : Unit => (W_N adK adV cI cB cS cY np pg g q qb n k ni bv bm ml cn bt f t a b sg)) [] [0, 1, 2, 3, 4, 5, 6, 7, 8, 9, 10, 11, 12, 13, 14, 15, 16, 17, 18, 19, 20, 21, 22, 23, 24, 25, 26, 27, 28, 29, 30] [] [0, 1, 2, 3, 4, 5, 6, 7, 8, 9, 10, 11, 12, 13, 14, 15, 16, 17, 18, 19, 20, 21, 22, 23, 24, 25, 26, 27, 28, 29, 30] rfl (by decide) rfl (by decide) (by decide) (fun _ => rfl) (by decide)) [0, 1, 2, 3] hK hP hD hS hA rfl (fun hPc hDc hKc hFc => va_runV (As := [.int p0]) (rest := []) ⟨hx, hb, hml, hown, hts⟩ (t_X10_isFigure l dC dI adK adV cI cB cS cY np pg g q qb n k H.size ni bv bm ml cn bt f t a b sg sL sf p0 _ hw) (cwV 1 hts gX10_exchange_X10_isFigure rfl rfl rfl (by decide +kernel) ⟨Nat.le_of_ble_eq_true rfl, Nat.le_of_ble_eq_true rfl⟩) (g_pV czb (q0 := 0) rfl rfl hPc hDc hKc (czc hZ hS hFc)) rfl rfl hl.1 rfl (lv_room (Nat.le_of_ble_eq_true rfl)) dX10_exchange_2 ⟨Nat.le_of_ble_eq_true rfl, Nat.le_of_ble_eq_true rfl⟩) (fun r2 u1 H locs hw hP hD hS => ?_)
  replace hP : va_P (dC, dI) vwCl ((W_N adK adV cI cB cS cY np pg g q qb n k ni bv bm ml cn bt f t a b sg) ++ va_pl sL (sgF sf)) H := hP
  replace hD : va_D A ((W_N adK adV cI cB cS cY np pg g q qb n k ni bv bm ml cn bt f t a b sg) ++ va_pl sL (sgF sf)) := hD
  refine lv_if_eq (tgt := 21) hx hb dX10_exchange_5 (by decide) (fun hc3 => ?_) (fun hc3 => ?_)
  · replace hw := hw.1 hc3
    refine lv_bipush (v := -101) hx hb dX10_exchange_21 (by decide) ?_
    exact hret dX10_exchange_23 hK hP hD hS hw
  · replace hw := hw.2 hc3
    refine lv_aload_n hx hb dX10_exchange_8 rfl (lv_at hl 0 rfl) ?_
    refine lv_iload_n hx hb dX10_exchange_9 rfl (lv_at hl 2 rfl) ?_
    refine g_ci (g_J.poolP (W2 := fun u4 : Unit => (W_N adK adV cI cB cS cY np pg g q qb n k ni bv bm ml cn bt f t a b sg)) (pl := va_pl sL (sgF sf)) (PL := fun u4 : Unit => va_pl sL (sgF sf)) (RX := fun u4 : Unit => (W_N adK adV cI cB cS cY np pg g q qb n k ni bv bm ml cn bt f t a b sg)) [] [0, 1, 2, 3, 4, 5, 6, 7, 8, 9, 10, 11, 12, 13, 14, 15, 16, 17, 18, 19, 20, 21, 22, 23, 24, 25, 26, 27, 28, 29, 30] [] [0, 1, 2, 3, 4, 5, 6, 7, 8, 9, 10, 11, 12, 13, 14, 15, 16, 17, 18, 19, 20, 21, 22, 23, 24, 25, 26, 27, 28, 29, 30] rfl (by decide) rfl (by decide) (by decide) (fun _ => rfl) (by decide)) [0, 1, 2, 3] hK hP hD hS hA rfl (fun hPc hDc hKc hFc => va_runV (As := [.int p1]) (rest := []) ⟨hx, hb, hml, hown, hts⟩ (t_X10_isFigure l dC dI adK adV cI cB cS cY np pg g q qb n k H.size ni bv bm ml cn bt f t a b sg sL sf p1 _ hw) (cwV 1 hts gX10_exchange_X10_isFigure rfl rfl rfl (by decide +kernel) ⟨Nat.le_of_ble_eq_true rfl, Nat.le_of_ble_eq_true rfl⟩) (g_pV czb (q0 := 0) rfl rfl hPc hDc hKc (czc hZ hS hFc)) rfl rfl hl.1 rfl (lv_room (Nat.le_of_ble_eq_true rfl)) dX10_exchange_10 ⟨Nat.le_of_ble_eq_true rfl, Nat.le_of_ble_eq_true rfl⟩) (fun r5 u4 H locs hw hP hD hS => ?_)
    replace hP : va_P (dC, dI) vwCl ((W_N adK adV cI cB cS cY np pg g q qb n k ni bv bm ml cn bt f t a b sg) ++ va_pl sL (sgF sf)) H := hP
    replace hD : va_D A ((W_N adK adV cI cB cS cY np pg g q qb n k ni bv bm ml cn bt f t a b sg) ++ va_pl sL (sgF sf)) := hD
    refine lv_if_eq (tgt := 21) hx hb dX10_exchange_13 (by decide) (fun hc6 => ?_) (fun hc6 => ?_)
    · replace hw := hw.1 hc6
      refine lv_bipush (v := -101) hx hb dX10_exchange_21 (by decide) ?_
      exact hret dX10_exchange_23 hK hP hD hS hw
    · replace hw := hw.2 hc6
      refine lv_iload_n hx hb dX10_exchange_16 rfl (lv_at hl 1 rfl) ?_
      refine lv_iload_n hx hb dX10_exchange_17 rfl (lv_at hl 2 rfl) ?_
      refine lv_icmp_ne (tgt := 24) hx hb dX10_exchange_18 (by decide) (fun hc7 => ?_) (fun hc7 => ?_)
      · replace hw := hw.1 hc7
        refine lv_aload_n hx hb dX10_exchange_24 rfl (lv_at hl 0 rfl) ?_
        refine va_get (D := (dC, dI)) (ci := 12) (v := .ref (q 0)) (C := RX10) (T := TX10) (N := 6) hx hb hts hiX10 hown hK hP 0 rfl rfl 2 (by decide) hf40 (fun _ h9 => h9) rfl dX10_exchange_25 ?_
        refine va_getN (D := (dC, dI)) (ci := 7) (v := .ref (q 3)) (C := RX5) (T := TX5) (N := 15) hx hb hts hiX5 hown hK hP 4 rfl rfl 4 (by decide) nf102 (fun _ h9 => h9) rfl dX10_exchange_28 ?_
        refine va_getN (D := (dC, dI)) (ci := 10) (v := .int (f 4)) (C := RX8) (T := TX8) (N := 6) hx hb hts hiX8 hown hK hP 7 rfl rfl 5 (by decide) nf131 (fun _ h9 => h9) rfl dX10_exchange_31 ?_
        refine lv_sipush (v := 9999) hx hb dX10_exchange_34 (by decide) ?_
        refine lv_icmp_lt (tgt := 43) hx hb dX10_exchange_37 (by decide) (fun hc8 => ?_) (fun hc8 => ?_)
        · replace hw := hw.1 hc8
          refine lv_aload_n hx hb dX10_exchange_43 rfl (lv_at hl 0 rfl) ?_
          refine va_get (D := (dC, dI)) (ci := 12) (v := .ref (q 0)) (C := RX10) (T := TX10) (N := 6) hx hb hts hiX10 hown hK hP 0 rfl rfl 2 (by decide) hf40 (fun _ h9 => h9) rfl dX10_exchange_44 ?_
          refine va_getN (D := (dC, dI)) (ci := 7) (v := .ref (q 3)) (C := RX5) (T := TX5) (N := 15) hx hb hts hiX5 hown hK hP 4 rfl rfl 4 (by decide) nf102 (fun _ h9 => h9) rfl dX10_exchange_47 ?_
          refine va_getN (D := (dC, dI)) (ci := 10) (v := .ref (q 5)) (C := RX8) (T := TX8) (N := 6) hx hb hts hiX8 hown hK hP 7 rfl rfl 1 (by decide) nf134 (fun _ h9 => h9) rfl dX10_exchange_50 ?_
          refine lv_astore_n (lv' := [(3, .ref (q 5)), (0, .ref np), (1, .int p0), (2, .int p1)]) hx hb dX10_exchange_53 rfl hl (by decide) rfl (fun ls hl => ?_)
          refine lv_aload_n hx hb dX10_exchange_54 rfl (lv_at hl 0 rfl) ?_
          refine lv_iload_n hx hb dX10_exchange_55 rfl (lv_at hl 2 rfl) ?_
          obtain ⟨hb9, hw⟩ := hw
          refine va_iald hx hb hK hP 9 0 rfl rfl hb9 dX10_exchange_56 ?_
          refine lv_topi (fun x10 ex10 => ?_)
          replace hw := hw x10 ex10
          refine lv_istore (lv' := [(4, .int x10), (3, .ref (q 5)), (0, .ref np), (1, .int p0), (2, .int p1)]) hx hb dX10_exchange_57 hl (by decide) rfl (fun ls hl => ?_)
          refine lv_aload_n hx hb dX10_exchange_59 rfl (lv_at hl 1 rfl) ?_
          refine lv_iload_n hx hb dX10_exchange_60 rfl (lv_at hl 3 rfl) ?_
          refine lv_aload_n hx hb dX10_exchange_61 rfl (lv_at hl 1 rfl) ?_
          refine lv_iload_n hx hb dX10_exchange_62 rfl (lv_at hl 4 rfl) ?_
          obtain ⟨hb11, hw⟩ := hw
          refine va_iald hx hb hK hP 9 0 rfl rfl hb11 dX10_exchange_63 ?_
          refine lv_topi (fun x13 ex13 => ?_)
          replace hw := hw x13 ex13
          obtain ⟨hb12, hw⟩ := hw
          refine va_iast hx hb hK hP hD hS 9 0 rfl rfl hb12 dX10_exchange_64 (fun H locs hP hD hS => ?_)
          replace hP : va_P (dC, dI) vwCl ((W_N adK adV cI cB cS cY np pg g q qb n k ni bv bm ml cn bt f t (va_up a 1 (upd (a 1) p0.toNatClampNeg x13)) b sg) ++ va_pl sL (sgF sf)) H := hP
          replace hD : va_D A ((W_N adK adV cI cB cS cY np pg g q qb n k ni bv bm ml cn bt f t (va_up a 1 (upd (a 1) p0.toNatClampNeg x13)) b sg) ++ va_pl sL (sgF sf)) := hD
          refine lv_aload_n hx hb dX10_exchange_65 rfl (lv_at hl 1 rfl) ?_
          refine lv_iload_n hx hb dX10_exchange_66 rfl (lv_at hl 4 rfl) ?_
          refine lv_iload hx hb dX10_exchange_67 (lv_at hl 0 rfl) ?_
          obtain ⟨z15, ez15⟩ : ∃ y : Nat → Int32, y = (upd (a 1) p0.toNatClampNeg x13) := ⟨_, rfl⟩
          replace hw := hw z15 ez15
          rw [← ez15] at hP hD
          obtain ⟨hb14, hw⟩ := hw
          refine va_iast hx hb hK hP hD hS 9 0 rfl rfl hb14 dX10_exchange_69 (fun H locs hP hD hS => ?_)
          replace hP : va_P (dC, dI) vwCl ((W_N adK adV cI cB cS cY np pg g q qb n k ni bv bm ml cn bt f t (va_up a 1 (upd z15 p1.toNatClampNeg x10)) b sg) ++ va_pl sL (sgF sf)) H := hP
          replace hD : va_D A ((W_N adK adV cI cB cS cY np pg g q qb n k ni bv bm ml cn bt f t (va_up a 1 (upd z15 p1.toNatClampNeg x10)) b sg) ++ va_pl sL (sgF sf)) := hD
          refine lv_aload_n hx hb dX10_exchange_70 rfl (lv_at hl 2 rfl) ?_
          refine va_get (D := (dC, dI)) (ci := 12) (v := .ref (q 0)) (C := RX10) (T := TX10) (N := 6) hx hb hts hiX10 hown hK hP 0 rfl rfl 2 (by decide) hf40 (fun _ h9 => h9) rfl dX10_exchange_71 ?_
          refine g_ci (g_J.poolP (W2 := fun u16 : ((Nat → Int32) × (Nat → Nat → Int32)) => (W_N adK adV cI cB cS cY np pg g q qb n k ni bv bm ml cn bt (u16.1) t (u16.2) b sg)) (pl := va_pl sL (sgF sf)) (PL := fun u16 : ((Nat → Int32) × (Nat → Nat → Int32)) => va_pl sL (sgF sf)) (RX := fun u16 : ((Nat → Int32) × (Nat → Nat → Int32)) => (W_P adK adV cI cB cS q qb n k (u16.1) t (u16.2) b sg)) [(np, .inr (12, [.ref (q 1), .ref pg, .ref (q 0), .int (ni 0), .int (ni 1), .int (ni 2)])), (pg, .inr (6, [.ref g])), (g, .inr (1, [.ref bv, .int (0 : Int32), .int ml, .int cn])), (bv, .inl (cY, bm, .inl bt))] [4, 5, 6, 7, 8, 9, 10, 11, 12, 13, 14, 15, 16, 17, 18, 19, 20, 21, 22, 23, 24, 25, 26, 27, 28, 29, 30] [0, 1, 2, 3] [0, 1, 2, 3, 4, 5, 6, 7, 8, 9, 10, 11, 12, 13, 14, 15, 16, 17, 18, 19, 20, 21, 22, 23, 24, 25, 26, 27, 28, 29, 30] rfl (by decide) rfl (by decide) (by decide) (fun _ => rfl) (by decide)) [0, 1, 2] hK hP hD hS hA rfl (fun hPc hDc hKc hFc => va_runV (As := []) (rest := []) ⟨hx, hb, hml, hown, hts⟩ (t_X5_figuresChanged l dC dI adK adV cI cB cS q qb n k H.size f t (va_up a 1 (upd z15 p1.toNatClampNeg x10)) b sg sL sf  _ hw) (cwV 0 hts gX10_exchange_X5_figuresChanged rfl rfl rfl (by decide +kernel) ⟨Nat.le_of_ble_eq_true rfl, Nat.le_of_ble_eq_true rfl⟩) (g_pV czb (q0 := 0) rfl rfl hPc hDc hKc (czc hZ hS hFc)) rfl rfl hl.1 rfl (lv_room (Nat.le_of_ble_eq_true rfl)) dX10_exchange_74 ⟨Nat.le_of_ble_eq_true rfl, Nat.le_of_ble_eq_true rfl⟩) (fun r17 u16 H locs hw hP hD hS => ?_)
          replace hP : va_P (dC, dI) vwCl ((W_N adK adV cI cB cS cY np pg g q qb n k ni bv bm ml cn bt (u16.1) t (u16.2) b sg) ++ va_pl sL (sgF sf)) H := hP
          replace hD : va_D A ((W_N adK adV cI cB cS cY np pg g q qb n k ni bv bm ml cn bt (u16.1) t (u16.2) b sg) ++ va_pl sL (sgF sf)) := hD
          exact hret dX10_exchange_77 hK hP hD hS hw
        · replace hw := hw.2 hc8
          refine lv_bipush (v := -104) hx hb dX10_exchange_40 (by decide) ?_
          exact hret dX10_exchange_42 hK hP hD hS hw
      · replace hw := hw.2 hc7
        refine lv_bipush (v := -101) hx hb dX10_exchange_21 (by decide) ?_
        exact hret dX10_exchange_23 hK hP hD hS hw

def w_X10_change (n : Nat) (k : Nat) (q : Nat → Nat) (ni : Nat → Int32) (bv : Nat) (bm : Nat) (ml : Int32) (cn : Int32) (bt : Nat → Int32) (f : Nat → Int32) (t : Nat) (a : Nat → Nat → Int32) (b : Nat → Nat → Int32) (sg : Nat → Nat → Option Nat) (sL : List Nat) (sf : Nat → Nat → Int32)  (p0 : Int32) (p1 : Int32) (Q : Int32 → ((Nat → Int32) × (Nat → Nat → Int32) × (Nat → Nat → Int32)) → Prop) : Prop := w_X10_isAbove n k q ni bv bm ml cn bt f t a b sg sL sf p0 (fun (r2 : Int32) (u1 : Unit) => (((¬ r2 = 0) → w_X10_isWithin p1 (0 : Int32) (4 : Int32) (fun (r4 : Int32) => (((¬ r4 = 0) → w_X5_kindOf n k q f t a b sg sL sf p0 (fun (r7 : Int32) (u6 : Unit) => w_X5_setKind n k q f t a b sg sL sf p0 p1 (fun (u8 : ((Nat → Int32) × (Nat → Nat → Int32) × (Nat → Nat → Int32))) => Q r7 (u8.1, u8.2.1, u8.2.2)))) ∧ (r4 = 0 → Q (-102 : Int32) (f, a, b))))) ∧ (r2 = 0 → Q (-101 : Int32) (f, a, b))))
abbrev rmX10_change : Room := { frames := 5, cells := 0, slots := 0, locals := 127 }
set_option maxHeartbeats 4000000 in
set_option maxRecDepth 100000 in
theorem t_X10_change (l : Launch) (dC : Nat → ClassId) (dI : Nat → Nat → Nat) (adK : Nat → Nat) (adV : Nat → Nat) (cI : ClassId) (cB : ClassId) (cS : ClassId) (cY : ClassId) (np : Nat) (pg : Nat) (g : Nat) (q : Nat → Nat) (qb : Nat → Nat) (n : Nat) (k : Nat) (sz : Nat) (ni : Nat → Int32) (bv : Nat) (bm : Nat) (ml : Int32) (cn : Int32) (bt : Nat → Int32) (f : Nat → Int32) (t : Nat) (a : Nat → Nat → Int32) (b : Nat → Nat → Int32) (sg : Nat → Nat → Option Nat) (sL : List Nat) (sf : Nat → Nat → Int32)   (p0 : Int32) (p1 : Int32) (Q0 : Int32 → ((Nat → Int32) × (Nat → Nat → Int32) × (Nat → Nat → Int32)) → Prop) (hw : w_X10_change n k q ni bv bm ml cn bt f t a b sg sL sf  p0 p1 Q0) : Met l yX10_change wsX10_change rmX10_change (g_pre (cz adK adV) (dC, dI) vwCl [(cI, .int), (cB, .object RX0), (cS, .object RX7), (cY, .byte)] ((W_N adK adV cI cB cS cY np pg g q qb n k ni bv bm ml cn bt f t a b sg) ++ va_pl sL (sgF sf)) sz [.ref np, .int p0, .int p1]) (g_qi (dC, dI) vwCl [(cI, .int), (cB, .object RX0), (cS, .object RX7), (cY, .byte)] (fun u : ((Nat → Int32) × (Nat → Nat → Int32) × (Nat → Nat → Int32)) => ((W_N adK adV cI cB cS cY np pg g q qb n k ni bv bm ml cn bt (u.1) t (u.2.1) (u.2.2) sg) ++ va_pl sL (sgF sf))) Q0 (va_A ((W_N adK adV cI cB cS cY np pg g q qb n k ni bv bm ml cn bt f t a b sg) ++ va_pl sL (sgF sf)) sz)) 0 0 (va_A ((W_N adK adV cI cB cS cY np pg g q qb n k ni bv bm ml cn bt f t a b sg) ++ va_pl sL (sgF sf)) sz) := by
  refine g_starti (by decide) rfl (Nat.le_of_ble_eq_true rfl) ?_
  intro p e s m args below meth c A Q ls hx hb hml hown hts hin hK hP hD hA hS hZ hret hl
  obtain ⟨H, eH⟩ : ∃ H : Heap, H = s.heap := ⟨_, rfl⟩
  obtain ⟨locs, eL⟩ : ∃ L : List Loc, L = [] := ⟨_, rfl⟩
  have hS : va_S A s.heap H locs := by rw [eH, eL]; exact hS
  rw [← eH] at hP
  suffices hg : W p l e rmX10_change s m args below meth c H locs 0 0 Q (F0 m 0 ls []) by rw [eH, eL] at hg; exact hg
  clear eH eL
  replace hl : lv_has ls 4 [(0, .ref np), (1, .int p0), (2, .int p1)] := hl
  have hf40 := hts (.fieldLink RX10 40 "NumberPile" "current" "LNumberPile$Pile;") (by decide +kernel)
  have hiX10 : ∀ w ∈ u_ws RX10 TX10 6, w ∈ wsX10_change := fun w h => List.mem_cons_of_mem _ (List.mem_append_left _ (List.mem_append_left _ (List.mem_append_right _ h)))
  unfold w_X10_change at hw
  refine lv_aload_n hx hb dX10_change_0 rfl (lv_at hl 0 rfl) ?_
  refine lv_iload_n hx hb dX10_change_1 rfl (lv_at hl 1 rfl) ?_
  refine g_ci (g_J.poolP (W2 := fun u1 : Unit => (W_N adK adV cI cB cS cY np pg g q qb n k ni bv bm ml cn bt f t a b sg)) (pl := va_pl sL (sgF sf)) (PL := fun u1 : Unit => va_pl sL (sgF sf)) (RX := fun u1 : Unit => (W_N adK adV cI cB cS cY np pg g q qb n k ni bv bm ml cn bt f t a b sg)) [] [0, 1, 2, 3, 4, 5, 6, 7, 8, 9, 10, 11, 12, 13, 14, 15, 16, 17, 18, 19, 20, 21, 22, 23, 24, 25, 26, 27, 28, 29, 30] [] [0, 1, 2, 3, 4, 5, 6, 7, 8, 9, 10, 11, 12, 13, 14, 15, 16, 17, 18, 19, 20, 21, 22, 23, 24, 25, 26, 27, 28, 29, 30] rfl (by decide) rfl (by decide) (by decide) (fun _ => rfl) (by decide)) [0, 1, 2, 3] hK hP hD hS hA rfl (fun hPc hDc hKc hFc => va_runV (As := [.int p0]) (rest := []) ⟨hx, hb, hml, hown, hts⟩ (t_X10_isAbove l dC dI adK adV cI cB cS cY np pg g q qb n k H.size ni bv bm ml cn bt f t a b sg sL sf p0 _ hw) (cwV 1 hts gX10_change_X10_isAbove rfl rfl rfl (by decide +kernel) ⟨Nat.le_of_ble_eq_true rfl, Nat.le_of_ble_eq_true rfl⟩) (g_pV czb (q0 := 0) rfl rfl hPc hDc hKc (czc hZ hS hFc)) rfl rfl hl.1 rfl (lv_room (Nat.le_of_ble_eq_true rfl)) dX10_change_2 ⟨Nat.le_of_ble_eq_true rfl, Nat.le_of_ble_eq_true rfl⟩) (fun r2 u1 H locs hw hP hD hS => ?_)
  replace hP : va_P (dC, dI) vwCl ((W_N adK adV cI cB cS cY np pg g q qb n k ni bv bm ml cn bt f t a b sg) ++ va_pl sL (sgF sf)) H := hP
  replace hD : va_D A ((W_N adK adV cI cB cS cY np pg g q qb n k ni bv bm ml cn bt f t a b sg) ++ va_pl sL (sgF sf)) := hD
  refine lv_if_ne (tgt := 11) hx hb dX10_change_5 (by decide) (fun hc3 => ?_) (fun hc3 => ?_)
  · replace hw := hw.1 hc3
    refine lv_iload_n hx hb dX10_change_11 rfl (lv_at hl 2 rfl) ?_
    refine lv_iconst (v := 0) hx hb dX10_change_12 (by decide) ?_
    refine lv_iconst (v := 4) hx hb dX10_change_13 (by decide) ?_
    refine g_c0 (rest := []) (va_runS (As := [.int p1, .int (0 : Int32), .int (4 : Int32)]) (rest := []) ⟨hx, hb, hml, hown, hts⟩ (t_X10_isWithin l  p1 (0 : Int32) (4 : Int32) _ hw) (va_cwS 3 hts gX10_change_X10_isWithin rfl rfl rfl (by decide +kernel) ⟨Nat.le_of_ble_eq_true rfl, Nat.le_of_ble_eq_true rfl⟩) g_p0S rfl rfl hl.1 rfl (lv_room (Nat.le_of_ble_eq_true rfl)) dX10_change_14 ⟨Nat.le_of_ble_eq_true rfl, Nat.le_of_ble_eq_true rfl⟩) (fun r4 hw => ?_)
    refine lv_if_ne (tgt := 23) hx hb dX10_change_17 (by decide) (fun hc5 => ?_) (fun hc5 => ?_)
    · replace hw := hw.1 hc5
      refine lv_aload_n hx hb dX10_change_23 rfl (lv_at hl 0 rfl) ?_
      refine va_get (D := (dC, dI)) (ci := 12) (v := .ref (q 0)) (C := RX10) (T := TX10) (N := 6) hx hb hts hiX10 hown hK hP 0 rfl rfl 2 (by decide) hf40 (fun _ h9 => h9) rfl dX10_change_24 ?_
      refine lv_iload_n hx hb dX10_change_27 rfl (lv_at hl 1 rfl) ?_
      refine g_ci (g_J.poolP (W2 := fun u6 : Unit => (W_N adK adV cI cB cS cY np pg g q qb n k ni bv bm ml cn bt f t a b sg)) (pl := va_pl sL (sgF sf)) (PL := fun u6 : Unit => va_pl sL (sgF sf)) (RX := fun u6 : Unit => (W_P adK adV cI cB cS q qb n k f t a b sg)) [(np, .inr (12, [.ref (q 1), .ref pg, .ref (q 0), .int (ni 0), .int (ni 1), .int (ni 2)])), (pg, .inr (6, [.ref g])), (g, .inr (1, [.ref bv, .int (0 : Int32), .int ml, .int cn])), (bv, .inl (cY, bm, .inl bt))] [4, 5, 6, 7, 8, 9, 10, 11, 12, 13, 14, 15, 16, 17, 18, 19, 20, 21, 22, 23, 24, 25, 26, 27, 28, 29, 30] [0, 1, 2, 3] [0, 1, 2, 3, 4, 5, 6, 7, 8, 9, 10, 11, 12, 13, 14, 15, 16, 17, 18, 19, 20, 21, 22, 23, 24, 25, 26, 27, 28, 29, 30] rfl (by decide) rfl (by decide) (by decide) (fun _ => rfl) (by decide)) [0, 1, 2] hK hP hD hS hA rfl (fun hPc hDc hKc hFc => va_runV (As := [.int p0]) (rest := []) ⟨hx, hb, hml, hown, hts⟩ (t_X5_kindOf l dC dI adK adV cI cB cS q qb n k H.size f t a b sg sL sf p0 _ hw) (cwV 1 hts gX10_change_X5_kindOf rfl rfl rfl (by decide +kernel) ⟨Nat.le_of_ble_eq_true rfl, Nat.le_of_ble_eq_true rfl⟩) (g_pV czb (q0 := 0) rfl rfl hPc hDc hKc (czc hZ hS hFc)) rfl rfl hl.1 rfl (lv_room (Nat.le_of_ble_eq_true rfl)) dX10_change_28 ⟨Nat.le_of_ble_eq_true rfl, Nat.le_of_ble_eq_true rfl⟩) (fun r7 u6 H locs hw hP hD hS => ?_)
      replace hP : va_P (dC, dI) vwCl ((W_N adK adV cI cB cS cY np pg g q qb n k ni bv bm ml cn bt f t a b sg) ++ va_pl sL (sgF sf)) H := hP
      replace hD : va_D A ((W_N adK adV cI cB cS cY np pg g q qb n k ni bv bm ml cn bt f t a b sg) ++ va_pl sL (sgF sf)) := hD
      refine lv_istore_n (lv' := [(3, .int r7), (0, .ref np), (1, .int p0), (2, .int p1)]) hx hb dX10_change_31 rfl hl (by decide) rfl (fun ls hl => ?_)
      refine lv_aload_n hx hb dX10_change_32 rfl (lv_at hl 1 rfl) ?_
      refine va_get (D := (dC, dI)) (ci := 12) (v := .ref (q 0)) (C := RX10) (T := TX10) (N := 6) hx hb hts hiX10 hown hK hP 0 rfl rfl 2 (by decide) hf40 (fun _ h9 => h9) rfl dX10_change_33 ?_
      refine lv_iload_n hx hb dX10_change_36 rfl (lv_at hl 2 rfl) ?_
      refine lv_iload_n hx hb dX10_change_37 rfl (lv_at hl 3 rfl) ?_
      refine g_cv (g_J.poolP (W2 := fun u8 : ((Nat → Int32) × (Nat → Nat → Int32) × (Nat → Nat → Int32)) => (W_N adK adV cI cB cS cY np pg g q qb n k ni bv bm ml cn bt (u8.1) t (u8.2.1) (u8.2.2) sg)) (pl := va_pl sL (sgF sf)) (PL := fun u8 : ((Nat → Int32) × (Nat → Nat → Int32) × (Nat → Nat → Int32)) => va_pl sL (sgF sf)) (RX := fun u8 : ((Nat → Int32) × (Nat → Nat → Int32) × (Nat → Nat → Int32)) => (W_P adK adV cI cB cS q qb n k (u8.1) t (u8.2.1) (u8.2.2) sg)) [(np, .inr (12, [.ref (q 1), .ref pg, .ref (q 0), .int (ni 0), .int (ni 1), .int (ni 2)])), (pg, .inr (6, [.ref g])), (g, .inr (1, [.ref bv, .int (0 : Int32), .int ml, .int cn])), (bv, .inl (cY, bm, .inl bt))] [4, 5, 6, 7, 8, 9, 10, 11, 12, 13, 14, 15, 16, 17, 18, 19, 20, 21, 22, 23, 24, 25, 26, 27, 28, 29, 30] [0, 1, 2, 3] [0, 1, 2, 3, 4, 5, 6, 7, 8, 9, 10, 11, 12, 13, 14, 15, 16, 17, 18, 19, 20, 21, 22, 23, 24, 25, 26, 27, 28, 29, 30] rfl (by decide) rfl (by decide) (by decide) (fun _ => rfl) (by decide)) [0, 1, 2] hK hP hD hS hA rfl (fun hPc hDc hKc hFc => va_runV (As := [.int p0, .int p1]) (rest := []) ⟨hx, hb, hml, hown, hts⟩ (t_X5_setKind l dC dI adK adV cI cB cS q qb n k H.size f t a b sg sL sf p0 p1 _ hw) (cwV 2 hts gX10_change_X5_setKind rfl rfl rfl (by decide +kernel) ⟨Nat.le_of_ble_eq_true rfl, Nat.le_of_ble_eq_true rfl⟩) (g_pV czb (q0 := 0) rfl rfl hPc hDc hKc (czc hZ hS hFc)) rfl rfl hl.1 rfl (lv_room (Nat.le_of_ble_eq_true rfl)) dX10_change_38 ⟨Nat.le_of_ble_eq_true rfl, Nat.le_of_ble_eq_true rfl⟩) (fun u8 H locs hw hP hD hS => ?_)
      replace hP : va_P (dC, dI) vwCl ((W_N adK adV cI cB cS cY np pg g q qb n k ni bv bm ml cn bt (u8.1) t (u8.2.1) (u8.2.2) sg) ++ va_pl sL (sgF sf)) H := hP
      replace hD : va_D A ((W_N adK adV cI cB cS cY np pg g q qb n k ni bv bm ml cn bt (u8.1) t (u8.2.1) (u8.2.2) sg) ++ va_pl sL (sgF sf)) := hD
      refine lv_iload_n hx hb dX10_change_41 rfl (lv_at hl 0 rfl) ?_
      exact hret dX10_change_42 hK hP hD hS hw
    · replace hw := hw.2 hc5
      refine lv_bipush (v := -102) hx hb dX10_change_20 (by decide) ?_
      exact hret dX10_change_22 hK hP hD hS hw
  · replace hw := hw.2 hc3
    refine lv_bipush (v := -101) hx hb dX10_change_8 (by decide) ?_
    exact hret dX10_change_10 hK hP hD hS hw

def w_X10_tell (n : Nat) (k : Nat) (q : Nat → Nat) (ni : Nat → Int32) (bv : Nat) (bm : Nat) (ml : Int32) (cn : Int32) (bt : Nat → Int32) (f : Nat → Int32) (t : Nat) (a : Nat → Nat → Int32) (b : Nat → Nat → Int32) (sg : Nat → Nat → Option Nat) (sL : List Nat) (sf : Nat → Nat → Int32)  (p0 : Int32) (p1 : Int32) (Q : Int32 → ((Nat → Int32) × (Nat) × (Nat → Nat → Int32)) → Prop) : Prop := w_X10_isBrick n k q ni bv bm ml cn bt f t a b sg sL sf p0 (fun (r2 : Int32) (u1 : Unit) => (((¬ r2 = 0) → w_X10_isWithin p1 (0 : Int32) (999 : Int32) (fun (r4 : Int32) => (((¬ r4 = 0) → w_X5_setTold n k q f t a b sg sL sf p0 p1 (fun (u6 : ((Nat → Int32) × (Nat → Nat → Int32))) => w_X5_fitting n k q (u6.1) t (u6.2) b sg sL sf  (fun (r8 : Int32) (u7 : ((Nat → Int32) × (Nat) × (Nat → Nat → Int32))) => Q r8 (u7.1, u7.2.1, u7.2.2)))) ∧ (r4 = 0 → Q (-102 : Int32) (f, t, a))))) ∧ (r2 = 0 → Q (-101 : Int32) (f, t, a))))
abbrev rmX10_tell : Room := { frames := 5, cells := 0, slots := 0, locals := 128 }
set_option maxHeartbeats 4000000 in
set_option maxRecDepth 100000 in
theorem t_X10_tell (l : Launch) (dC : Nat → ClassId) (dI : Nat → Nat → Nat) (adK : Nat → Nat) (adV : Nat → Nat) (cI : ClassId) (cB : ClassId) (cS : ClassId) (cY : ClassId) (np : Nat) (pg : Nat) (g : Nat) (q : Nat → Nat) (qb : Nat → Nat) (n : Nat) (k : Nat) (sz : Nat) (ni : Nat → Int32) (bv : Nat) (bm : Nat) (ml : Int32) (cn : Int32) (bt : Nat → Int32) (f : Nat → Int32) (t : Nat) (a : Nat → Nat → Int32) (b : Nat → Nat → Int32) (sg : Nat → Nat → Option Nat) (sL : List Nat) (sf : Nat → Nat → Int32)   (p0 : Int32) (p1 : Int32) (Q0 : Int32 → ((Nat → Int32) × (Nat) × (Nat → Nat → Int32)) → Prop) (hw : w_X10_tell n k q ni bv bm ml cn bt f t a b sg sL sf  p0 p1 Q0) : Met l yX10_tell wsX10_tell rmX10_tell (g_pre (cz adK adV) (dC, dI) vwCl [(cI, .int), (cB, .object RX0), (cS, .object RX7), (cY, .byte)] ((W_N adK adV cI cB cS cY np pg g q qb n k ni bv bm ml cn bt f t a b sg) ++ va_pl sL (sgF sf)) sz [.ref np, .int p0, .int p1]) (g_qi (dC, dI) vwCl [(cI, .int), (cB, .object RX0), (cS, .object RX7), (cY, .byte)] (fun u : ((Nat → Int32) × (Nat) × (Nat → Nat → Int32)) => ((W_N adK adV cI cB cS cY np pg g q qb n k ni bv bm ml cn bt (u.1) (u.2.1) (u.2.2) b sg) ++ va_pl sL (sgF sf))) Q0 (va_A ((W_N adK adV cI cB cS cY np pg g q qb n k ni bv bm ml cn bt f t a b sg) ++ va_pl sL (sgF sf)) sz)) 0 0 (va_A ((W_N adK adV cI cB cS cY np pg g q qb n k ni bv bm ml cn bt f t a b sg) ++ va_pl sL (sgF sf)) sz) := by
  refine g_starti (by decide) rfl (Nat.le_of_ble_eq_true rfl) ?_
  intro p e s m args below meth c A Q ls hx hb hml hown hts hin hK hP hD hA hS hZ hret hl
  obtain ⟨H, eH⟩ : ∃ H : Heap, H = s.heap := ⟨_, rfl⟩
  obtain ⟨locs, eL⟩ : ∃ L : List Loc, L = [] := ⟨_, rfl⟩
  have hS : va_S A s.heap H locs := by rw [eH, eL]; exact hS
  rw [← eH] at hP
  suffices hg : W p l e rmX10_tell s m args below meth c H locs 0 0 Q (F0 m 0 ls []) by rw [eH, eL] at hg; exact hg
  clear eH eL
  replace hl : lv_has ls 3 [(0, .ref np), (1, .int p0), (2, .int p1)] := hl
  have hf40 := hts (.fieldLink RX10 40 "NumberPile" "current" "LNumberPile$Pile;") (by decide +kernel)
  have hiX10 : ∀ w ∈ u_ws RX10 TX10 6, w ∈ wsX10_tell := fun w h => List.mem_cons_of_mem _ (List.mem_append_left _ (List.mem_append_left _ (List.mem_append_left _ (List.mem_append_right _ h))))
  unfold w_X10_tell at hw
  refine lv_aload_n hx hb dX10_tell_0 rfl (lv_at hl 0 rfl) ?_
  refine lv_iload_n hx hb dX10_tell_1 rfl (lv_at hl 1 rfl) ?_
  refine g_ci (g_J.poolP (W2 := fun u1 : Unit => (W_N adK adV cI cB cS cY np pg g q qb n k ni bv bm ml cn bt f t a b sg)) (pl := va_pl sL (sgF sf)) (PL := fun u1 : Unit => va_pl sL (sgF sf)) (RX := fun u1 : Unit => (W_N adK adV cI cB cS cY np pg g q qb n k ni bv bm ml cn bt f t a b sg)) [] [0, 1, 2, 3, 4, 5, 6, 7, 8, 9, 10, 11, 12, 13, 14, 15, 16, 17, 18, 19, 20, 21, 22, 23, 24, 25, 26, 27, 28, 29, 30] [] [0, 1, 2, 3, 4, 5, 6, 7, 8, 9, 10, 11, 12, 13, 14, 15, 16, 17, 18, 19, 20, 21, 22, 23, 24, 25, 26, 27, 28, 29, 30] rfl (by decide) rfl (by decide) (by decide) (fun _ => rfl) (by decide)) [0, 1, 2, 3] hK hP hD hS hA rfl (fun hPc hDc hKc hFc => va_runV (As := [.int p0]) (rest := []) ⟨hx, hb, hml, hown, hts⟩ (t_X10_isBrick l dC dI adK adV cI cB cS cY np pg g q qb n k H.size ni bv bm ml cn bt f t a b sg sL sf p0 _ hw) (cwV 1 hts gX10_tell_X10_isBrick rfl rfl rfl (by decide +kernel) ⟨Nat.le_of_ble_eq_true rfl, Nat.le_of_ble_eq_true rfl⟩) (g_pV czb (q0 := 0) rfl rfl hPc hDc hKc (czc hZ hS hFc)) rfl rfl hl.1 rfl (lv_room (Nat.le_of_ble_eq_true rfl)) dX10_tell_2 ⟨Nat.le_of_ble_eq_true rfl, Nat.le_of_ble_eq_true rfl⟩) (fun r2 u1 H locs hw hP hD hS => ?_)
  replace hP : va_P (dC, dI) vwCl ((W_N adK adV cI cB cS cY np pg g q qb n k ni bv bm ml cn bt f t a b sg) ++ va_pl sL (sgF sf)) H := hP
  replace hD : va_D A ((W_N adK adV cI cB cS cY np pg g q qb n k ni bv bm ml cn bt f t a b sg) ++ va_pl sL (sgF sf)) := hD
  refine lv_if_ne (tgt := 11) hx hb dX10_tell_5 (by decide) (fun hc3 => ?_) (fun hc3 => ?_)
  · replace hw := hw.1 hc3
    refine lv_iload_n hx hb dX10_tell_11 rfl (lv_at hl 2 rfl) ?_
    refine lv_iconst (v := 0) hx hb dX10_tell_12 (by decide) ?_
    refine lv_sipush (v := 999) hx hb dX10_tell_13 (by decide) ?_
    refine g_c0 (rest := []) (va_runS (As := [.int p1, .int (0 : Int32), .int (999 : Int32)]) (rest := []) ⟨hx, hb, hml, hown, hts⟩ (t_X10_isWithin l  p1 (0 : Int32) (999 : Int32) _ hw) (va_cwS 3 hts gX10_tell_X10_isWithin rfl rfl rfl (by decide +kernel) ⟨Nat.le_of_ble_eq_true rfl, Nat.le_of_ble_eq_true rfl⟩) g_p0S rfl rfl hl.1 rfl (lv_room (Nat.le_of_ble_eq_true rfl)) dX10_tell_16 ⟨Nat.le_of_ble_eq_true rfl, Nat.le_of_ble_eq_true rfl⟩) (fun r4 hw => ?_)
    refine lv_if_ne (tgt := 25) hx hb dX10_tell_19 (by decide) (fun hc5 => ?_) (fun hc5 => ?_)
    · replace hw := hw.1 hc5
      refine lv_aload_n hx hb dX10_tell_25 rfl (lv_at hl 0 rfl) ?_
      refine va_get (D := (dC, dI)) (ci := 12) (v := .ref (q 0)) (C := RX10) (T := TX10) (N := 6) hx hb hts hiX10 hown hK hP 0 rfl rfl 2 (by decide) hf40 (fun _ h9 => h9) rfl dX10_tell_26 ?_
      refine lv_iload_n hx hb dX10_tell_29 rfl (lv_at hl 1 rfl) ?_
      refine lv_iload_n hx hb dX10_tell_30 rfl (lv_at hl 2 rfl) ?_
      refine g_cv (g_J.poolP (W2 := fun u6 : ((Nat → Int32) × (Nat → Nat → Int32)) => (W_N adK adV cI cB cS cY np pg g q qb n k ni bv bm ml cn bt (u6.1) t (u6.2) b sg)) (pl := va_pl sL (sgF sf)) (PL := fun u6 : ((Nat → Int32) × (Nat → Nat → Int32)) => va_pl sL (sgF sf)) (RX := fun u6 : ((Nat → Int32) × (Nat → Nat → Int32)) => (W_P adK adV cI cB cS q qb n k (u6.1) t (u6.2) b sg)) [(np, .inr (12, [.ref (q 1), .ref pg, .ref (q 0), .int (ni 0), .int (ni 1), .int (ni 2)])), (pg, .inr (6, [.ref g])), (g, .inr (1, [.ref bv, .int (0 : Int32), .int ml, .int cn])), (bv, .inl (cY, bm, .inl bt))] [4, 5, 6, 7, 8, 9, 10, 11, 12, 13, 14, 15, 16, 17, 18, 19, 20, 21, 22, 23, 24, 25, 26, 27, 28, 29, 30] [0, 1, 2, 3] [0, 1, 2, 3, 4, 5, 6, 7, 8, 9, 10, 11, 12, 13, 14, 15, 16, 17, 18, 19, 20, 21, 22, 23, 24, 25, 26, 27, 28, 29, 30] rfl (by decide) rfl (by decide) (by decide) (fun _ => rfl) (by decide)) [0, 1, 2] hK hP hD hS hA rfl (fun hPc hDc hKc hFc => va_runV (As := [.int p0, .int p1]) (rest := []) ⟨hx, hb, hml, hown, hts⟩ (t_X5_setTold l dC dI adK adV cI cB cS q qb n k H.size f t a b sg sL sf p0 p1 _ hw) (cwV 2 hts gX10_tell_X5_setTold rfl rfl rfl (by decide +kernel) ⟨Nat.le_of_ble_eq_true rfl, Nat.le_of_ble_eq_true rfl⟩) (g_pV czb (q0 := 0) rfl rfl hPc hDc hKc (czc hZ hS hFc)) rfl rfl hl.1 rfl (lv_room (Nat.le_of_ble_eq_true rfl)) dX10_tell_31 ⟨Nat.le_of_ble_eq_true rfl, Nat.le_of_ble_eq_true rfl⟩) (fun u6 H locs hw hP hD hS => ?_)
      replace hP : va_P (dC, dI) vwCl ((W_N adK adV cI cB cS cY np pg g q qb n k ni bv bm ml cn bt (u6.1) t (u6.2) b sg) ++ va_pl sL (sgF sf)) H := hP
      replace hD : va_D A ((W_N adK adV cI cB cS cY np pg g q qb n k ni bv bm ml cn bt (u6.1) t (u6.2) b sg) ++ va_pl sL (sgF sf)) := hD
      refine lv_aload_n hx hb dX10_tell_34 rfl (lv_at hl 0 rfl) ?_
      refine va_get (D := (dC, dI)) (ci := 12) (v := .ref (q 0)) (C := RX10) (T := TX10) (N := 6) hx hb hts hiX10 hown hK hP 0 rfl rfl 2 (by decide) hf40 (fun _ h9 => h9) rfl dX10_tell_35 ?_
      refine g_ci (g_J.poolP (W2 := fun u7 : ((Nat → Int32) × (Nat) × (Nat → Nat → Int32)) => (W_N adK adV cI cB cS cY np pg g q qb n k ni bv bm ml cn bt (u7.1) (u7.2.1) (u7.2.2) b sg)) (pl := va_pl sL (sgF sf)) (PL := fun u7 : ((Nat → Int32) × (Nat) × (Nat → Nat → Int32)) => va_pl sL (sgF sf)) (RX := fun u7 : ((Nat → Int32) × (Nat) × (Nat → Nat → Int32)) => (W_P adK adV cI cB cS q qb n k (u7.1) (u7.2.1) (u7.2.2) b sg)) [(np, .inr (12, [.ref (q 1), .ref pg, .ref (q 0), .int (ni 0), .int (ni 1), .int (ni 2)])), (pg, .inr (6, [.ref g])), (g, .inr (1, [.ref bv, .int (0 : Int32), .int ml, .int cn])), (bv, .inl (cY, bm, .inl bt))] [4, 5, 6, 7, 8, 9, 10, 11, 12, 13, 14, 15, 16, 17, 18, 19, 20, 21, 22, 23, 24, 25, 26, 27, 28, 29, 30] [0, 1, 2, 3] [0, 1, 2, 3, 4, 5, 6, 7, 8, 9, 10, 11, 12, 13, 14, 15, 16, 17, 18, 19, 20, 21, 22, 23, 24, 25, 26, 27, 28, 29, 30] rfl (by decide) rfl (by decide) (by decide) (fun _ => rfl) (by decide)) [0, 1, 2] hK hP hD hS hA rfl (fun hPc hDc hKc hFc => va_runV (As := []) (rest := []) ⟨hx, hb, hml, hown, hts⟩ (t_X5_fitting l dC dI adK adV cI cB cS q qb n k H.size (u6.1) t (u6.2) b sg sL sf  _ hw) (cwV 0 hts gX10_tell_X5_fitting rfl rfl rfl (by decide +kernel) ⟨Nat.le_of_ble_eq_true rfl, Nat.le_of_ble_eq_true rfl⟩) (g_pV czb (q0 := 0) rfl rfl hPc hDc hKc (czc hZ hS hFc)) rfl rfl hl.1 rfl (lv_room (Nat.le_of_ble_eq_true rfl)) dX10_tell_38 ⟨Nat.le_of_ble_eq_true rfl, Nat.le_of_ble_eq_true rfl⟩) (fun r8 u7 H locs hw hP hD hS => ?_)
      replace hP : va_P (dC, dI) vwCl ((W_N adK adV cI cB cS cY np pg g q qb n k ni bv bm ml cn bt (u7.1) (u7.2.1) (u7.2.2) b sg) ++ va_pl sL (sgF sf)) H := hP
      replace hD : va_D A ((W_N adK adV cI cB cS cY np pg g q qb n k ni bv bm ml cn bt (u7.1) (u7.2.1) (u7.2.2) b sg) ++ va_pl sL (sgF sf)) := hD
      exact hret dX10_tell_41 hK hP hD hS hw
    · replace hw := hw.2 hc5
      refine lv_bipush (v := -102) hx hb dX10_tell_22 (by decide) ?_
      exact hret dX10_tell_24 hK hP hD hS hw
  · replace hw := hw.2 hc3
    refine lv_bipush (v := -101) hx hb dX10_tell_8 (by decide) ?_
    exact hret dX10_tell_10 hK hP hD hS hw

def w_X10_hush (n : Nat) (k : Nat) (q : Nat → Nat) (ni : Nat → Int32) (bv : Nat) (bm : Nat) (ml : Int32) (cn : Int32) (bt : Nat → Int32) (f : Nat → Int32) (t : Nat) (a : Nat → Nat → Int32) (b : Nat → Nat → Int32) (sg : Nat → Nat → Option Nat) (sL : List Nat) (sf : Nat → Nat → Int32)  (p0 : Int32) (Q : Int32 → ((Nat → Int32) × (Nat) × (Nat → Nat → Int32)) → Prop) : Prop := w_X10_isBrick n k q ni bv bm ml cn bt f t a b sg sL sf p0 (fun (r2 : Int32) (u1 : Unit) => (((¬ r2 = 0) → (vp_in p0 k) ∧ (((¬ ((a 2) p0.toNatClampNeg) = (-1 : Int32)) → w_X5_setTold n k q f t a b sg sL sf p0 (-1 : Int32) (fun (u6 : ((Nat → Int32) × (Nat → Nat → Int32))) => w_X5_fitting n k q (u6.1) t (u6.2) b sg sL sf  (fun (r8 : Int32) (u7 : ((Nat → Int32) × (Nat) × (Nat → Nat → Int32))) => Q r8 (u7.1, u7.2.1, u7.2.2)))) ∧ (((a 2) p0.toNatClampNeg) = (-1 : Int32) → Q (-103 : Int32) (f, t, a)))) ∧ (r2 = 0 → Q (-101 : Int32) (f, t, a))))
abbrev rmX10_hush : Room := { frames := 5, cells := 0, slots := 0, locals := 128 }
set_option maxHeartbeats 4000000 in
set_option maxRecDepth 100000 in
theorem t_X10_hush (l : Launch) (dC : Nat → ClassId) (dI : Nat → Nat → Nat) (adK : Nat → Nat) (adV : Nat → Nat) (cI : ClassId) (cB : ClassId) (cS : ClassId) (cY : ClassId) (np : Nat) (pg : Nat) (g : Nat) (q : Nat → Nat) (qb : Nat → Nat) (n : Nat) (k : Nat) (sz : Nat) (ni : Nat → Int32) (bv : Nat) (bm : Nat) (ml : Int32) (cn : Int32) (bt : Nat → Int32) (f : Nat → Int32) (t : Nat) (a : Nat → Nat → Int32) (b : Nat → Nat → Int32) (sg : Nat → Nat → Option Nat) (sL : List Nat) (sf : Nat → Nat → Int32)   (p0 : Int32) (Q0 : Int32 → ((Nat → Int32) × (Nat) × (Nat → Nat → Int32)) → Prop) (hw : w_X10_hush n k q ni bv bm ml cn bt f t a b sg sL sf  p0 Q0) : Met l yX10_hush wsX10_hush rmX10_hush (g_pre (cz adK adV) (dC, dI) vwCl [(cI, .int), (cB, .object RX0), (cS, .object RX7), (cY, .byte)] ((W_N adK adV cI cB cS cY np pg g q qb n k ni bv bm ml cn bt f t a b sg) ++ va_pl sL (sgF sf)) sz [.ref np, .int p0]) (g_qi (dC, dI) vwCl [(cI, .int), (cB, .object RX0), (cS, .object RX7), (cY, .byte)] (fun u : ((Nat → Int32) × (Nat) × (Nat → Nat → Int32)) => ((W_N adK adV cI cB cS cY np pg g q qb n k ni bv bm ml cn bt (u.1) (u.2.1) (u.2.2) b sg) ++ va_pl sL (sgF sf))) Q0 (va_A ((W_N adK adV cI cB cS cY np pg g q qb n k ni bv bm ml cn bt f t a b sg) ++ va_pl sL (sgF sf)) sz)) 0 0 (va_A ((W_N adK adV cI cB cS cY np pg g q qb n k ni bv bm ml cn bt f t a b sg) ++ va_pl sL (sgF sf)) sz) := by
  refine g_starti (by decide) rfl (Nat.le_of_ble_eq_true rfl) ?_
  intro p e s m args below meth c A Q ls hx hb hml hown hts hin hK hP hD hA hS hZ hret hl
  obtain ⟨H, eH⟩ : ∃ H : Heap, H = s.heap := ⟨_, rfl⟩
  obtain ⟨locs, eL⟩ : ∃ L : List Loc, L = [] := ⟨_, rfl⟩
  have hS : va_S A s.heap H locs := by rw [eH, eL]; exact hS
  rw [← eH] at hP
  suffices hg : W p l e rmX10_hush s m args below meth c H locs 0 0 Q (F0 m 0 ls []) by rw [eH, eL] at hg; exact hg
  clear eH eL
  replace hl : lv_has ls 2 [(0, .ref np), (1, .int p0)] := hl
  have hf40 := hts (.fieldLink RX10 40 "NumberPile" "current" "LNumberPile$Pile;") (by decide +kernel)
  have hiX10 : ∀ w ∈ u_ws RX10 TX10 6, w ∈ wsX10_hush := fun w h => List.mem_cons_of_mem _ (List.mem_append_left _ (List.mem_append_left _ (List.mem_append_left _ (List.mem_append_right _ h))))
  have nf102 := va_Nw.use (A := args) rfl (hZ.1 _ (List.mem_of_getElem? (i := 10) (rfl : cz_nest[10]? = some (.fieldLinkNest RX10 102 "NumberPile$Pile" "now" "LNumberPile$State;" "NumberPile"))))
  have hiX5 : ∀ w ∈ u_ws RX5 TX5 15, w ∈ wsX10_hush := fun w h => List.mem_cons_of_mem _ (List.mem_append_left _ (List.mem_append_left _ (List.mem_append_right _ h)))
  have nf106 := va_Nw.use (A := args) rfl (hZ.1 _ (List.mem_of_getElem? (i := 11) (rfl : cz_nest[11]? = some (.fieldLinkNest RX10 106 "NumberPile$State" "told" "[I" "NumberPile"))))
  have hiX8 : ∀ w ∈ u_ws RX8 TX8 6, w ∈ wsX10_hush := fun w h => List.mem_cons_of_mem _ (List.mem_append_left _ (List.mem_append_right _ h))
  unfold w_X10_hush at hw
  refine lv_aload_n hx hb dX10_hush_0 rfl (lv_at hl 0 rfl) ?_
  refine lv_iload_n hx hb dX10_hush_1 rfl (lv_at hl 1 rfl) ?_
  refine g_ci (g_J.poolP (W2 := fun u1 : Unit => (W_N adK adV cI cB cS cY np pg g q qb n k ni bv bm ml cn bt f t a b sg)) (pl := va_pl sL (sgF sf)) (PL := fun u1 : Unit => va_pl sL (sgF sf)) (RX := fun u1 : Unit => (W_N adK adV cI cB cS cY np pg g q qb n k ni bv bm ml cn bt f t a b sg)) [] [0, 1, 2, 3, 4, 5, 6, 7, 8, 9, 10, 11, 12, 13, 14, 15, 16, 17, 18, 19, 20, 21, 22, 23, 24, 25, 26, 27, 28, 29, 30] [] [0, 1, 2, 3, 4, 5, 6, 7, 8, 9, 10, 11, 12, 13, 14, 15, 16, 17, 18, 19, 20, 21, 22, 23, 24, 25, 26, 27, 28, 29, 30] rfl (by decide) rfl (by decide) (by decide) (fun _ => rfl) (by decide)) [0, 1, 2, 3] hK hP hD hS hA rfl (fun hPc hDc hKc hFc => va_runV (As := [.int p0]) (rest := []) ⟨hx, hb, hml, hown, hts⟩ (t_X10_isBrick l dC dI adK adV cI cB cS cY np pg g q qb n k H.size ni bv bm ml cn bt f t a b sg sL sf p0 _ hw) (cwV 1 hts gX10_hush_X10_isBrick rfl rfl rfl (by decide +kernel) ⟨Nat.le_of_ble_eq_true rfl, Nat.le_of_ble_eq_true rfl⟩) (g_pV czb (q0 := 0) rfl rfl hPc hDc hKc (czc hZ hS hFc)) rfl rfl hl.1 rfl (lv_room (Nat.le_of_ble_eq_true rfl)) dX10_hush_2 ⟨Nat.le_of_ble_eq_true rfl, Nat.le_of_ble_eq_true rfl⟩) (fun r2 u1 H locs hw hP hD hS => ?_)
  replace hP : va_P (dC, dI) vwCl ((W_N adK adV cI cB cS cY np pg g q qb n k ni bv bm ml cn bt f t a b sg) ++ va_pl sL (sgF sf)) H := hP
  replace hD : va_D A ((W_N adK adV cI cB cS cY np pg g q qb n k ni bv bm ml cn bt f t a b sg) ++ va_pl sL (sgF sf)) := hD
  refine lv_if_ne (tgt := 11) hx hb dX10_hush_5 (by decide) (fun hc3 => ?_) (fun hc3 => ?_)
  · replace hw := hw.1 hc3
    refine lv_aload_n hx hb dX10_hush_11 rfl (lv_at hl 0 rfl) ?_
    refine va_get (D := (dC, dI)) (ci := 12) (v := .ref (q 0)) (C := RX10) (T := TX10) (N := 6) hx hb hts hiX10 hown hK hP 0 rfl rfl 2 (by decide) hf40 (fun _ h9 => h9) rfl dX10_hush_12 ?_
    refine va_getN (D := (dC, dI)) (ci := 7) (v := .ref (q 3)) (C := RX5) (T := TX5) (N := 15) hx hb hts hiX5 hown hK hP 4 rfl rfl 4 (by decide) nf102 (fun _ h9 => h9) rfl dX10_hush_15 ?_
    refine va_getN (D := (dC, dI)) (ci := 10) (v := .ref (q 6)) (C := RX8) (T := TX8) (N := 6) hx hb hts hiX8 hown hK hP 7 rfl rfl 2 (by decide) nf106 (fun _ h9 => h9) rfl dX10_hush_18 ?_
    refine lv_iload_n hx hb dX10_hush_21 rfl (lv_at hl 1 rfl) ?_
    obtain ⟨hb4, hw⟩ := hw
    refine va_iald hx hb hK hP 10 0 rfl rfl hb4 dX10_hush_22 ?_
    refine lv_iconst (v := -1) hx hb dX10_hush_23 (by decide) ?_
    refine lv_icmp_ne (tgt := 30) hx hb dX10_hush_24 (by decide) (fun hc5 => ?_) (fun hc5 => ?_)
    · replace hw := hw.1 hc5
      refine lv_aload_n hx hb dX10_hush_30 rfl (lv_at hl 0 rfl) ?_
      refine va_get (D := (dC, dI)) (ci := 12) (v := .ref (q 0)) (C := RX10) (T := TX10) (N := 6) hx hb hts hiX10 hown hK hP 0 rfl rfl 2 (by decide) hf40 (fun _ h9 => h9) rfl dX10_hush_31 ?_
      refine lv_iload_n hx hb dX10_hush_34 rfl (lv_at hl 1 rfl) ?_
      refine lv_iconst (v := -1) hx hb dX10_hush_35 (by decide) ?_
      refine g_cv (g_J.poolP (W2 := fun u6 : ((Nat → Int32) × (Nat → Nat → Int32)) => (W_N adK adV cI cB cS cY np pg g q qb n k ni bv bm ml cn bt (u6.1) t (u6.2) b sg)) (pl := va_pl sL (sgF sf)) (PL := fun u6 : ((Nat → Int32) × (Nat → Nat → Int32)) => va_pl sL (sgF sf)) (RX := fun u6 : ((Nat → Int32) × (Nat → Nat → Int32)) => (W_P adK adV cI cB cS q qb n k (u6.1) t (u6.2) b sg)) [(np, .inr (12, [.ref (q 1), .ref pg, .ref (q 0), .int (ni 0), .int (ni 1), .int (ni 2)])), (pg, .inr (6, [.ref g])), (g, .inr (1, [.ref bv, .int (0 : Int32), .int ml, .int cn])), (bv, .inl (cY, bm, .inl bt))] [4, 5, 6, 7, 8, 9, 10, 11, 12, 13, 14, 15, 16, 17, 18, 19, 20, 21, 22, 23, 24, 25, 26, 27, 28, 29, 30] [0, 1, 2, 3] [0, 1, 2, 3, 4, 5, 6, 7, 8, 9, 10, 11, 12, 13, 14, 15, 16, 17, 18, 19, 20, 21, 22, 23, 24, 25, 26, 27, 28, 29, 30] rfl (by decide) rfl (by decide) (by decide) (fun _ => rfl) (by decide)) [0, 1, 2] hK hP hD hS hA rfl (fun hPc hDc hKc hFc => va_runV (As := [.int p0, .int (-1 : Int32)]) (rest := []) ⟨hx, hb, hml, hown, hts⟩ (t_X5_setTold l dC dI adK adV cI cB cS q qb n k H.size f t a b sg sL sf p0 (-1 : Int32) _ hw) (cwV 2 hts gX10_hush_X5_setTold rfl rfl rfl (by decide +kernel) ⟨Nat.le_of_ble_eq_true rfl, Nat.le_of_ble_eq_true rfl⟩) (g_pV czb (q0 := 0) rfl rfl hPc hDc hKc (czc hZ hS hFc)) rfl rfl hl.1 rfl (lv_room (Nat.le_of_ble_eq_true rfl)) dX10_hush_36 ⟨Nat.le_of_ble_eq_true rfl, Nat.le_of_ble_eq_true rfl⟩) (fun u6 H locs hw hP hD hS => ?_)
      replace hP : va_P (dC, dI) vwCl ((W_N adK adV cI cB cS cY np pg g q qb n k ni bv bm ml cn bt (u6.1) t (u6.2) b sg) ++ va_pl sL (sgF sf)) H := hP
      replace hD : va_D A ((W_N adK adV cI cB cS cY np pg g q qb n k ni bv bm ml cn bt (u6.1) t (u6.2) b sg) ++ va_pl sL (sgF sf)) := hD
      refine lv_aload_n hx hb dX10_hush_39 rfl (lv_at hl 0 rfl) ?_
      refine va_get (D := (dC, dI)) (ci := 12) (v := .ref (q 0)) (C := RX10) (T := TX10) (N := 6) hx hb hts hiX10 hown hK hP 0 rfl rfl 2 (by decide) hf40 (fun _ h9 => h9) rfl dX10_hush_40 ?_
      refine g_ci (g_J.poolP (W2 := fun u7 : ((Nat → Int32) × (Nat) × (Nat → Nat → Int32)) => (W_N adK adV cI cB cS cY np pg g q qb n k ni bv bm ml cn bt (u7.1) (u7.2.1) (u7.2.2) b sg)) (pl := va_pl sL (sgF sf)) (PL := fun u7 : ((Nat → Int32) × (Nat) × (Nat → Nat → Int32)) => va_pl sL (sgF sf)) (RX := fun u7 : ((Nat → Int32) × (Nat) × (Nat → Nat → Int32)) => (W_P adK adV cI cB cS q qb n k (u7.1) (u7.2.1) (u7.2.2) b sg)) [(np, .inr (12, [.ref (q 1), .ref pg, .ref (q 0), .int (ni 0), .int (ni 1), .int (ni 2)])), (pg, .inr (6, [.ref g])), (g, .inr (1, [.ref bv, .int (0 : Int32), .int ml, .int cn])), (bv, .inl (cY, bm, .inl bt))] [4, 5, 6, 7, 8, 9, 10, 11, 12, 13, 14, 15, 16, 17, 18, 19, 20, 21, 22, 23, 24, 25, 26, 27, 28, 29, 30] [0, 1, 2, 3] [0, 1, 2, 3, 4, 5, 6, 7, 8, 9, 10, 11, 12, 13, 14, 15, 16, 17, 18, 19, 20, 21, 22, 23, 24, 25, 26, 27, 28, 29, 30] rfl (by decide) rfl (by decide) (by decide) (fun _ => rfl) (by decide)) [0, 1, 2] hK hP hD hS hA rfl (fun hPc hDc hKc hFc => va_runV (As := []) (rest := []) ⟨hx, hb, hml, hown, hts⟩ (t_X5_fitting l dC dI adK adV cI cB cS q qb n k H.size (u6.1) t (u6.2) b sg sL sf  _ hw) (cwV 0 hts gX10_hush_X5_fitting rfl rfl rfl (by decide +kernel) ⟨Nat.le_of_ble_eq_true rfl, Nat.le_of_ble_eq_true rfl⟩) (g_pV czb (q0 := 0) rfl rfl hPc hDc hKc (czc hZ hS hFc)) rfl rfl hl.1 rfl (lv_room (Nat.le_of_ble_eq_true rfl)) dX10_hush_43 ⟨Nat.le_of_ble_eq_true rfl, Nat.le_of_ble_eq_true rfl⟩) (fun r8 u7 H locs hw hP hD hS => ?_)
      replace hP : va_P (dC, dI) vwCl ((W_N adK adV cI cB cS cY np pg g q qb n k ni bv bm ml cn bt (u7.1) (u7.2.1) (u7.2.2) b sg) ++ va_pl sL (sgF sf)) H := hP
      replace hD : va_D A ((W_N adK adV cI cB cS cY np pg g q qb n k ni bv bm ml cn bt (u7.1) (u7.2.1) (u7.2.2) b sg) ++ va_pl sL (sgF sf)) := hD
      exact hret dX10_hush_46 hK hP hD hS hw
    · replace hw := hw.2 hc5
      refine lv_bipush (v := -103) hx hb dX10_hush_27 (by decide) ?_
      exact hret dX10_hush_29 hK hP hD hS hw
  · replace hw := hw.2 hc3
    refine lv_bipush (v := -101) hx hb dX10_hush_8 (by decide) ?_
    exact hret dX10_hush_10 hK hP hD hS hw

def w_X10_swing (n : Nat) (k : Nat) (q : Nat → Nat) (ni : Nat → Int32) (bv : Nat) (bm : Nat) (ml : Int32) (cn : Int32) (bt : Nat → Int32) (f : Nat → Int32) (t : Nat) (a : Nat → Nat → Int32) (b : Nat → Nat → Int32) (sg : Nat → Nat → Option Nat) (sL : List Nat) (sf : Nat → Nat → Int32)  (p0 : Int32) (Q : Int32 → ((Nat → Nat → Int32)) → Prop) : Prop := w_X10_isFigure n k q ni bv bm ml cn bt f t a b sg sL sf p0 (fun (r2 : Int32) (u1 : Unit) => (((r2 = 0) → Q (-101 : Int32) a) ∧ (¬ (r2 = 0) → w_X5_swingOf n k q f t a b sg sL sf p0 (fun (r5 : Int32) (u4 : ((Nat → Nat → Int32))) => Q r5 u4))))
abbrev rmX10_swing : Room := { frames := 4, cells := 0, slots := 0, locals := 106 }
set_option maxHeartbeats 4000000 in
set_option maxRecDepth 100000 in
theorem t_X10_swing (l : Launch) (dC : Nat → ClassId) (dI : Nat → Nat → Nat) (adK : Nat → Nat) (adV : Nat → Nat) (cI : ClassId) (cB : ClassId) (cS : ClassId) (cY : ClassId) (np : Nat) (pg : Nat) (g : Nat) (q : Nat → Nat) (qb : Nat → Nat) (n : Nat) (k : Nat) (sz : Nat) (ni : Nat → Int32) (bv : Nat) (bm : Nat) (ml : Int32) (cn : Int32) (bt : Nat → Int32) (f : Nat → Int32) (t : Nat) (a : Nat → Nat → Int32) (b : Nat → Nat → Int32) (sg : Nat → Nat → Option Nat) (sL : List Nat) (sf : Nat → Nat → Int32)   (p0 : Int32) (Q0 : Int32 → ((Nat → Nat → Int32)) → Prop) (hw : w_X10_swing n k q ni bv bm ml cn bt f t a b sg sL sf  p0 Q0) : Met l yX10_swing wsX10_swing rmX10_swing (g_pre (cz adK adV) (dC, dI) vwCl [(cI, .int), (cB, .object RX0), (cS, .object RX7), (cY, .byte)] ((W_N adK adV cI cB cS cY np pg g q qb n k ni bv bm ml cn bt f t a b sg) ++ va_pl sL (sgF sf)) sz [.ref np, .int p0]) (g_qi (dC, dI) vwCl [(cI, .int), (cB, .object RX0), (cS, .object RX7), (cY, .byte)] (fun u : ((Nat → Nat → Int32)) => ((W_N adK adV cI cB cS cY np pg g q qb n k ni bv bm ml cn bt f t u b sg) ++ va_pl sL (sgF sf))) Q0 (va_A ((W_N adK adV cI cB cS cY np pg g q qb n k ni bv bm ml cn bt f t a b sg) ++ va_pl sL (sgF sf)) sz)) 0 0 (va_A ((W_N adK adV cI cB cS cY np pg g q qb n k ni bv bm ml cn bt f t a b sg) ++ va_pl sL (sgF sf)) sz) := by
  refine g_starti (by decide) rfl (Nat.le_of_ble_eq_true rfl) ?_
  intro p e s m args below meth c A Q ls hx hb hml hown hts hin hK hP hD hA hS hZ hret hl
  obtain ⟨H, eH⟩ : ∃ H : Heap, H = s.heap := ⟨_, rfl⟩
  obtain ⟨locs, eL⟩ : ∃ L : List Loc, L = [] := ⟨_, rfl⟩
  have hS : va_S A s.heap H locs := by rw [eH, eL]; exact hS
  rw [← eH] at hP
  suffices hg : W p l e rmX10_swing s m args below meth c H locs 0 0 Q (F0 m 0 ls []) by rw [eH, eL] at hg; exact hg
  clear eH eL
  replace hl : lv_has ls 2 [(0, .ref np), (1, .int p0)] := hl
  have hf40 := hts (.fieldLink RX10 40 "NumberPile" "current" "LNumberPile$Pile;") (by decide +kernel)
  have hiX10 : ∀ w ∈ u_ws RX10 TX10 6, w ∈ wsX10_swing := fun w h => List.mem_cons_of_mem _ (List.mem_append_left _ (List.mem_append_left _ (List.mem_append_right _ h)))
  unfold w_X10_swing at hw
  refine lv_aload_n hx hb dX10_swing_0 rfl (lv_at hl 0 rfl) ?_
  refine lv_iload_n hx hb dX10_swing_1 rfl (lv_at hl 1 rfl) ?_
  refine g_ci (g_J.poolP (W2 := fun u1 : Unit => (W_N adK adV cI cB cS cY np pg g q qb n k ni bv bm ml cn bt f t a b sg)) (pl := va_pl sL (sgF sf)) (PL := fun u1 : Unit => va_pl sL (sgF sf)) (RX := fun u1 : Unit => (W_N adK adV cI cB cS cY np pg g q qb n k ni bv bm ml cn bt f t a b sg)) [] [0, 1, 2, 3, 4, 5, 6, 7, 8, 9, 10, 11, 12, 13, 14, 15, 16, 17, 18, 19, 20, 21, 22, 23, 24, 25, 26, 27, 28, 29, 30] [] [0, 1, 2, 3, 4, 5, 6, 7, 8, 9, 10, 11, 12, 13, 14, 15, 16, 17, 18, 19, 20, 21, 22, 23, 24, 25, 26, 27, 28, 29, 30] rfl (by decide) rfl (by decide) (by decide) (fun _ => rfl) (by decide)) [0, 1, 2, 3] hK hP hD hS hA rfl (fun hPc hDc hKc hFc => va_runV (As := [.int p0]) (rest := []) ⟨hx, hb, hml, hown, hts⟩ (t_X10_isFigure l dC dI adK adV cI cB cS cY np pg g q qb n k H.size ni bv bm ml cn bt f t a b sg sL sf p0 _ hw) (cwV 1 hts gX10_swing_X10_isFigure rfl rfl rfl (by decide +kernel) ⟨Nat.le_of_ble_eq_true rfl, Nat.le_of_ble_eq_true rfl⟩) (g_pV czb (q0 := 0) rfl rfl hPc hDc hKc (czc hZ hS hFc)) rfl rfl hl.1 rfl (lv_room (Nat.le_of_ble_eq_true rfl)) dX10_swing_2 ⟨Nat.le_of_ble_eq_true rfl, Nat.le_of_ble_eq_true rfl⟩) (fun r2 u1 H locs hw hP hD hS => ?_)
  replace hP : va_P (dC, dI) vwCl ((W_N adK adV cI cB cS cY np pg g q qb n k ni bv bm ml cn bt f t a b sg) ++ va_pl sL (sgF sf)) H := hP
  replace hD : va_D A ((W_N adK adV cI cB cS cY np pg g q qb n k ni bv bm ml cn bt f t a b sg) ++ va_pl sL (sgF sf)) := hD
  refine lv_if_eq (tgt := 19) hx hb dX10_swing_5 (by decide) (fun hc3 => ?_) (fun hc3 => ?_)
  · replace hw := hw.1 hc3
    refine lv_bipush (v := -101) hx hb dX10_swing_19 (by decide) ?_
    exact hret dX10_swing_21 hK hP hD hS hw
  · replace hw := hw.2 hc3
    refine lv_aload_n hx hb dX10_swing_8 rfl (lv_at hl 0 rfl) ?_
    refine va_get (D := (dC, dI)) (ci := 12) (v := .ref (q 0)) (C := RX10) (T := TX10) (N := 6) hx hb hts hiX10 hown hK hP 0 rfl rfl 2 (by decide) hf40 (fun _ h9 => h9) rfl dX10_swing_9 ?_
    refine lv_iload_n hx hb dX10_swing_12 rfl (lv_at hl 1 rfl) ?_
    refine g_ci (g_J.poolP (W2 := fun u4 : ((Nat → Nat → Int32)) => (W_N adK adV cI cB cS cY np pg g q qb n k ni bv bm ml cn bt f t u4 b sg)) (pl := va_pl sL (sgF sf)) (PL := fun u4 : ((Nat → Nat → Int32)) => va_pl sL (sgF sf)) (RX := fun u4 : ((Nat → Nat → Int32)) => (W_P adK adV cI cB cS q qb n k f t u4 b sg)) [(np, .inr (12, [.ref (q 1), .ref pg, .ref (q 0), .int (ni 0), .int (ni 1), .int (ni 2)])), (pg, .inr (6, [.ref g])), (g, .inr (1, [.ref bv, .int (0 : Int32), .int ml, .int cn])), (bv, .inl (cY, bm, .inl bt))] [4, 5, 6, 7, 8, 9, 10, 11, 12, 13, 14, 15, 16, 17, 18, 19, 20, 21, 22, 23, 24, 25, 26, 27, 28, 29, 30] [0, 1, 2, 3] [0, 1, 2, 3, 4, 5, 6, 7, 8, 9, 10, 11, 12, 13, 14, 15, 16, 17, 18, 19, 20, 21, 22, 23, 24, 25, 26, 27, 28, 29, 30] rfl (by decide) rfl (by decide) (by decide) (fun _ => rfl) (by decide)) [0, 1, 2] hK hP hD hS hA rfl (fun hPc hDc hKc hFc => va_runV (As := [.int p0]) (rest := []) ⟨hx, hb, hml, hown, hts⟩ (t_X5_swingOf l dC dI adK adV cI cB cS q qb n k H.size f t a b sg sL sf p0 _ hw) (cwV 1 hts gX10_swing_X5_swingOf rfl rfl rfl (by decide +kernel) ⟨Nat.le_of_ble_eq_true rfl, Nat.le_of_ble_eq_true rfl⟩) (g_pV czb (q0 := 0) rfl rfl hPc hDc hKc (czc hZ hS hFc)) rfl rfl hl.1 rfl (lv_room (Nat.le_of_ble_eq_true rfl)) dX10_swing_13 ⟨Nat.le_of_ble_eq_true rfl, Nat.le_of_ble_eq_true rfl⟩) (fun r5 u4 H locs hw hP hD hS => ?_)
    replace hP : va_P (dC, dI) vwCl ((W_N adK adV cI cB cS cY np pg g q qb n k ni bv bm ml cn bt f t u4 b sg) ++ va_pl sL (sgF sf)) H := hP
    replace hD : va_D A ((W_N adK adV cI cB cS cY np pg g q qb n k ni bv bm ml cn bt f t u4 b sg) ++ va_pl sL (sgF sf)) := hD
    refine lv_goto (tgt := 21) hx hb dX10_swing_16 (by decide) ?_
    exact hret dX10_swing_21 hK hP hD hS hw

def w_X10_order (n : Nat) (k : Nat) (q : Nat → Nat) (ni : Nat → Int32) (bv : Nat) (bm : Nat) (ml : Int32) (cn : Int32) (bt : Nat → Int32) (f : Nat → Int32) (t : Nat) (a : Nat → Nat → Int32) (b : Nat → Nat → Int32) (sg : Nat → Nat → Option Nat) (sL : List Nat) (sf : Nat → Nat → Int32)  (p0 : Int32) (Q : Int32 → ((Nat → Nat → Int32)) → Prop) : Prop := w_X10_isWithin p0 (0 : Int32) (1 : Int32) (fun (r1 : Int32) => (((¬ r1 = 0) → w_X10_hasPile n k q ni bv bm ml cn bt f t a b sg sL sf  (fun (r4 : Int32) (u3 : Unit) => (((¬ r4 = 0) → (((¬ p0 = 0) → w_X5_bestOrder n k q f t a b sg sL sf  (fun (r8 : Int32) (u7 : ((Nat → Nat → Int32))) => Q r8 u7)) ∧ (p0 = 0 → w_X5_bestTop n k q f t a b sg sL sf  (fun (r10 : Int32) (u9 : ((Nat → Nat → Int32))) => Q r10 u9)))) ∧ (r4 = 0 → Q (-103 : Int32) a)))) ∧ (r1 = 0 → Q (-102 : Int32) a)))
abbrev rmX10_order : Room := { frames := 10, cells := 0, slots := 0, locals := 249 }
set_option maxHeartbeats 4000000 in
set_option maxRecDepth 100000 in
theorem t_X10_order (l : Launch) (dC : Nat → ClassId) (dI : Nat → Nat → Nat) (adK : Nat → Nat) (adV : Nat → Nat) (cI : ClassId) (cB : ClassId) (cS : ClassId) (cY : ClassId) (np : Nat) (pg : Nat) (g : Nat) (q : Nat → Nat) (qb : Nat → Nat) (n : Nat) (k : Nat) (sz : Nat) (ni : Nat → Int32) (bv : Nat) (bm : Nat) (ml : Int32) (cn : Int32) (bt : Nat → Int32) (f : Nat → Int32) (t : Nat) (a : Nat → Nat → Int32) (b : Nat → Nat → Int32) (sg : Nat → Nat → Option Nat) (sL : List Nat) (sf : Nat → Nat → Int32)   (p0 : Int32) (Q0 : Int32 → ((Nat → Nat → Int32)) → Prop) (hw : w_X10_order n k q ni bv bm ml cn bt f t a b sg sL sf  p0 Q0) : Met l yX10_order wsX10_order rmX10_order (g_pre (cz adK adV) (dC, dI) vwCl [(cI, .int), (cB, .object RX0), (cS, .object RX7), (cY, .byte)] ((W_N adK adV cI cB cS cY np pg g q qb n k ni bv bm ml cn bt f t a b sg) ++ va_pl sL (sgF sf)) sz [.ref np, .int p0]) (g_qi (dC, dI) vwCl [(cI, .int), (cB, .object RX0), (cS, .object RX7), (cY, .byte)] (fun u : ((Nat → Nat → Int32)) => ((W_N adK adV cI cB cS cY np pg g q qb n k ni bv bm ml cn bt f t u b sg) ++ va_pl sL (sgF sf))) Q0 (va_A ((W_N adK adV cI cB cS cY np pg g q qb n k ni bv bm ml cn bt f t a b sg) ++ va_pl sL (sgF sf)) sz)) 0 0 (va_A ((W_N adK adV cI cB cS cY np pg g q qb n k ni bv bm ml cn bt f t a b sg) ++ va_pl sL (sgF sf)) sz) := by
  refine g_starti (by decide) rfl (Nat.le_of_ble_eq_true rfl) ?_
  intro p e s m args below meth c A Q ls hx hb hml hown hts hin hK hP hD hA hS hZ hret hl
  obtain ⟨H, eH⟩ : ∃ H : Heap, H = s.heap := ⟨_, rfl⟩
  obtain ⟨locs, eL⟩ : ∃ L : List Loc, L = [] := ⟨_, rfl⟩
  have hS : va_S A s.heap H locs := by rw [eH, eL]; exact hS
  rw [← eH] at hP
  suffices hg : W p l e rmX10_order s m args below meth c H locs 0 0 Q (F0 m 0 ls []) by rw [eH, eL] at hg; exact hg
  clear eH eL
  replace hl : lv_has ls 2 [(0, .ref np), (1, .int p0)] := hl
  have hf40 := hts (.fieldLink RX10 40 "NumberPile" "current" "LNumberPile$Pile;") (by decide +kernel)
  have hiX10 : ∀ w ∈ u_ws RX10 TX10 6, w ∈ wsX10_order := fun w h => List.mem_cons_of_mem _ (List.mem_append_left _ (List.mem_append_left _ (List.mem_append_right _ h)))
  unfold w_X10_order at hw
  refine lv_iload_n hx hb dX10_order_0 rfl (lv_at hl 1 rfl) ?_
  refine lv_iconst (v := 0) hx hb dX10_order_1 (by decide) ?_
  refine lv_iconst (v := 1) hx hb dX10_order_2 (by decide) ?_
  refine g_c0 (rest := []) (va_runS (As := [.int p0, .int (0 : Int32), .int (1 : Int32)]) (rest := []) ⟨hx, hb, hml, hown, hts⟩ (t_X10_isWithin l  p0 (0 : Int32) (1 : Int32) _ hw) (va_cwS 3 hts gX10_order_X10_isWithin rfl rfl rfl (by decide +kernel) ⟨Nat.le_of_ble_eq_true rfl, Nat.le_of_ble_eq_true rfl⟩) g_p0S rfl rfl hl.1 rfl (lv_room (Nat.le_of_ble_eq_true rfl)) dX10_order_3 ⟨Nat.le_of_ble_eq_true rfl, Nat.le_of_ble_eq_true rfl⟩) (fun r1 hw => ?_)
  refine lv_if_ne (tgt := 12) hx hb dX10_order_6 (by decide) (fun hc2 => ?_) (fun hc2 => ?_)
  · replace hw := hw.1 hc2
    refine lv_aload_n hx hb dX10_order_12 rfl (lv_at hl 0 rfl) ?_
    refine g_ci (g_J.poolP (W2 := fun u3 : Unit => (W_N adK adV cI cB cS cY np pg g q qb n k ni bv bm ml cn bt f t a b sg)) (pl := va_pl sL (sgF sf)) (PL := fun u3 : Unit => va_pl sL (sgF sf)) (RX := fun u3 : Unit => (W_N adK adV cI cB cS cY np pg g q qb n k ni bv bm ml cn bt f t a b sg)) [] [0, 1, 2, 3, 4, 5, 6, 7, 8, 9, 10, 11, 12, 13, 14, 15, 16, 17, 18, 19, 20, 21, 22, 23, 24, 25, 26, 27, 28, 29, 30] [] [0, 1, 2, 3, 4, 5, 6, 7, 8, 9, 10, 11, 12, 13, 14, 15, 16, 17, 18, 19, 20, 21, 22, 23, 24, 25, 26, 27, 28, 29, 30] rfl (by decide) rfl (by decide) (by decide) (fun _ => rfl) (by decide)) [0, 1, 2, 3] hK hP hD hS hA rfl (fun hPc hDc hKc hFc => va_runV (As := []) (rest := []) ⟨hx, hb, hml, hown, hts⟩ (t_X10_hasPile l dC dI adK adV cI cB cS cY np pg g q qb n k H.size ni bv bm ml cn bt f t a b sg sL sf  _ hw) (cwV 0 hts gX10_order_X10_hasPile rfl rfl rfl (by decide +kernel) ⟨Nat.le_of_ble_eq_true rfl, Nat.le_of_ble_eq_true rfl⟩) (g_pV czb (q0 := 0) rfl rfl hPc hDc hKc (czc hZ hS hFc)) rfl rfl hl.1 rfl (lv_room (Nat.le_of_ble_eq_true rfl)) dX10_order_13 ⟨Nat.le_of_ble_eq_true rfl, Nat.le_of_ble_eq_true rfl⟩) (fun r4 u3 H locs hw hP hD hS => ?_)
    replace hP : va_P (dC, dI) vwCl ((W_N adK adV cI cB cS cY np pg g q qb n k ni bv bm ml cn bt f t a b sg) ++ va_pl sL (sgF sf)) H := hP
    replace hD : va_D A ((W_N adK adV cI cB cS cY np pg g q qb n k ni bv bm ml cn bt f t a b sg) ++ va_pl sL (sgF sf)) := hD
    refine lv_if_ne (tgt := 22) hx hb dX10_order_16 (by decide) (fun hc5 => ?_) (fun hc5 => ?_)
    · replace hw := hw.1 hc5
      refine lv_iload_n hx hb dX10_order_22 rfl (lv_at hl 1 rfl) ?_
      refine lv_if_ne (tgt := 36) hx hb dX10_order_23 (by decide) (fun hc6 => ?_) (fun hc6 => ?_)
      · replace hw := hw.1 hc6
        refine lv_aload_n hx hb dX10_order_36 rfl (lv_at hl 0 rfl) ?_
        refine va_get (D := (dC, dI)) (ci := 12) (v := .ref (q 0)) (C := RX10) (T := TX10) (N := 6) hx hb hts hiX10 hown hK hP 0 rfl rfl 2 (by decide) hf40 (fun _ h9 => h9) rfl dX10_order_37 ?_
        refine g_ci (g_J.poolP (W2 := fun u7 : ((Nat → Nat → Int32)) => (W_N adK adV cI cB cS cY np pg g q qb n k ni bv bm ml cn bt f t u7 b sg)) (pl := va_pl sL (sgF sf)) (PL := fun u7 : ((Nat → Nat → Int32)) => va_pl sL (sgF sf)) (RX := fun u7 : ((Nat → Nat → Int32)) => (W_P adK adV cI cB cS q qb n k f t u7 b sg)) [(np, .inr (12, [.ref (q 1), .ref pg, .ref (q 0), .int (ni 0), .int (ni 1), .int (ni 2)])), (pg, .inr (6, [.ref g])), (g, .inr (1, [.ref bv, .int (0 : Int32), .int ml, .int cn])), (bv, .inl (cY, bm, .inl bt))] [4, 5, 6, 7, 8, 9, 10, 11, 12, 13, 14, 15, 16, 17, 18, 19, 20, 21, 22, 23, 24, 25, 26, 27, 28, 29, 30] [0, 1, 2, 3] [0, 1, 2, 3, 4, 5, 6, 7, 8, 9, 10, 11, 12, 13, 14, 15, 16, 17, 18, 19, 20, 21, 22, 23, 24, 25, 26, 27, 28, 29, 30] rfl (by decide) rfl (by decide) (by decide) (fun _ => rfl) (by decide)) [0, 1, 2] hK hP hD hS hA rfl (fun hPc hDc hKc hFc => va_runV (As := []) (rest := []) ⟨hx, hb, hml, hown, hts⟩ (t_X5_bestOrder l dC dI adK adV cI cB cS q qb n k H.size f t a b sg sL sf  _ hw) (cwV 0 hts gX10_order_X5_bestOrder rfl rfl rfl (by decide +kernel) ⟨Nat.le_of_ble_eq_true rfl, Nat.le_of_ble_eq_true rfl⟩) (g_pV czb (q0 := 0) rfl rfl hPc hDc hKc (czc hZ hS hFc)) rfl rfl hl.1 rfl (lv_room (Nat.le_of_ble_eq_true rfl)) dX10_order_40 ⟨Nat.le_of_ble_eq_true rfl, Nat.le_of_ble_eq_true rfl⟩) (fun r8 u7 H locs hw hP hD hS => ?_)
        replace hP : va_P (dC, dI) vwCl ((W_N adK adV cI cB cS cY np pg g q qb n k ni bv bm ml cn bt f t u7 b sg) ++ va_pl sL (sgF sf)) H := hP
        replace hD : va_D A ((W_N adK adV cI cB cS cY np pg g q qb n k ni bv bm ml cn bt f t u7 b sg) ++ va_pl sL (sgF sf)) := hD
        exact hret dX10_order_43 hK hP hD hS hw
      · replace hw := hw.2 hc6
        refine lv_aload_n hx hb dX10_order_26 rfl (lv_at hl 0 rfl) ?_
        refine va_get (D := (dC, dI)) (ci := 12) (v := .ref (q 0)) (C := RX10) (T := TX10) (N := 6) hx hb hts hiX10 hown hK hP 0 rfl rfl 2 (by decide) hf40 (fun _ h9 => h9) rfl dX10_order_27 ?_
        refine g_ci (g_J.poolP (W2 := fun u9 : ((Nat → Nat → Int32)) => (W_N adK adV cI cB cS cY np pg g q qb n k ni bv bm ml cn bt f t u9 b sg)) (pl := va_pl sL (sgF sf)) (PL := fun u9 : ((Nat → Nat → Int32)) => va_pl sL (sgF sf)) (RX := fun u9 : ((Nat → Nat → Int32)) => (W_P adK adV cI cB cS q qb n k f t u9 b sg)) [(np, .inr (12, [.ref (q 1), .ref pg, .ref (q 0), .int (ni 0), .int (ni 1), .int (ni 2)])), (pg, .inr (6, [.ref g])), (g, .inr (1, [.ref bv, .int (0 : Int32), .int ml, .int cn])), (bv, .inl (cY, bm, .inl bt))] [4, 5, 6, 7, 8, 9, 10, 11, 12, 13, 14, 15, 16, 17, 18, 19, 20, 21, 22, 23, 24, 25, 26, 27, 28, 29, 30] [0, 1, 2, 3] [0, 1, 2, 3, 4, 5, 6, 7, 8, 9, 10, 11, 12, 13, 14, 15, 16, 17, 18, 19, 20, 21, 22, 23, 24, 25, 26, 27, 28, 29, 30] rfl (by decide) rfl (by decide) (by decide) (fun _ => rfl) (by decide)) [0, 1, 2] hK hP hD hS hA rfl (fun hPc hDc hKc hFc => va_runV (As := []) (rest := []) ⟨hx, hb, hml, hown, hts⟩ (t_X5_bestTop l dC dI adK adV cI cB cS q qb n k H.size f t a b sg sL sf  _ hw) (cwV 0 hts gX10_order_X5_bestTop rfl rfl rfl (by decide +kernel) ⟨Nat.le_of_ble_eq_true rfl, Nat.le_of_ble_eq_true rfl⟩) (g_pV czb (q0 := 0) rfl rfl hPc hDc hKc (czc hZ hS hFc)) rfl rfl hl.1 rfl (lv_room (Nat.le_of_ble_eq_true rfl)) dX10_order_30 ⟨Nat.le_of_ble_eq_true rfl, Nat.le_of_ble_eq_true rfl⟩) (fun r10 u9 H locs hw hP hD hS => ?_)
        replace hP : va_P (dC, dI) vwCl ((W_N adK adV cI cB cS cY np pg g q qb n k ni bv bm ml cn bt f t u9 b sg) ++ va_pl sL (sgF sf)) H := hP
        replace hD : va_D A ((W_N adK adV cI cB cS cY np pg g q qb n k ni bv bm ml cn bt f t u9 b sg) ++ va_pl sL (sgF sf)) := hD
        refine lv_goto (tgt := 43) hx hb dX10_order_33 (by decide) ?_
        exact hret dX10_order_43 hK hP hD hS hw
    · replace hw := hw.2 hc5
      refine lv_bipush (v := -103) hx hb dX10_order_19 (by decide) ?_
      exact hret dX10_order_21 hK hP hD hS hw
  · replace hw := hw.2 hc2
    refine lv_bipush (v := -102) hx hb dX10_order_9 (by decide) ?_
    exact hret dX10_order_11 hK hP hD hS hw
