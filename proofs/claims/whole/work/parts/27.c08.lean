def w_X5_manyMaking (n : Nat) (k : Nat) (q : Nat → Nat) (f : Nat → Int32) (t : Nat) (a : Nat → Nat → Int32) (b : Nat → Nat → Int32) (sg : Nat → Nat → Option Nat) (sL : List Nat) (sf : Nat → Nat → Int32)  (p0 : Int32) (p1 : Int32) (p2 : Int32) (p3 : Int32) (Q : Int32 → Unit → Prop) : Prop := (∀ X3 : Int32 → Int32 → Prop, (∀ (x1 : Int32) (x2 : Int32), (((((5 : Int32) ≤ x2) → Q x1 ()) ∧ (¬ ((5 : Int32) ≤ x2) → ∀ J6 : Int32 → Prop, (∀ (x5 : Int32), (∀ x7 : Int32, x7 = x2 + (1 : Int32) → X3 x5 x7) → J6 x5) → (((((p0 >>> (x2 &&& 31)) &&& (1 : Int32)) = 0) → J6 x1) ∧ (¬ (((p0 >>> (x2 &&& 31)) &&& (1 : Int32)) = 0) → (vp_in x2 (5)) ∧ ∃ kd10 : Nat, (kAll x2.toNatClampNeg = some kd10) ∧ (kd10 < 5) ∧ wk_made kd10 p1 p2 (fun (r11 : Int32) => (((¬ r11 = p3) → J6 x1) ∧ (r11 = p3 → ∀ x13 : Int32, x13 = x1 + (1 : Int32) → J6 x13)))))))) → X3 x1 x2) → X3 (0 : Int32) (0 : Int32))
abbrev rmX5_manyMaking : Room := { frames := 2, cells := 0, slots := 0, locals := 62 }
set_option maxHeartbeats 4000000 in
set_option maxRecDepth 100000 in
theorem t_X5_manyMaking (l : Launch) (dC : Nat → ClassId) (dI : Nat → Nat → Nat) (adK : Nat → Nat) (adV : Nat → Nat) (cI : ClassId) (cB : ClassId) (cS : ClassId) (q : Nat → Nat) (qb : Nat → Nat) (n : Nat) (k : Nat) (sz : Nat) (f : Nat → Int32) (t : Nat) (a : Nat → Nat → Int32) (b : Nat → Nat → Int32) (sg : Nat → Nat → Option Nat) (sL : List Nat) (sf : Nat → Nat → Int32)   (p0 : Int32) (p1 : Int32) (p2 : Int32) (p3 : Int32) (Q0 : Int32 → Unit → Prop) (hw : w_X5_manyMaking n k q f t a b sg sL sf  p0 p1 p2 p3 Q0) : Met l yX5_manyMaking wsX5_manyMaking rmX5_manyMaking (g_pre (cz adK adV) (dC, dI) vwCl [(cI, .int), (cB, .object RX0), (cS, .object RX7)] ((W_P adK adV cI cB cS q qb n k f t a b sg) ++ va_pl sL (sgF sf)) sz [.ref (q 0), .int p0, .int p1, .int p2, .int p3]) (g_qi (dC, dI) vwCl [(cI, .int), (cB, .object RX0), (cS, .object RX7)] (fun u : Unit => ((W_P adK adV cI cB cS q qb n k f t a b sg) ++ va_pl sL (sgF sf))) Q0 (va_A ((W_P adK adV cI cB cS q qb n k f t a b sg) ++ va_pl sL (sgF sf)) sz)) 0 0 (va_A ((W_P adK adV cI cB cS q qb n k f t a b sg) ++ va_pl sL (sgF sf)) sz) := by
  refine g_starti (by decide) rfl (Nat.le_of_ble_eq_true rfl) ?_
  intro p e s m args below meth c A Q ls hx hb hml hown hts hin hK hP hD hA hS hZ hret hl
  obtain ⟨H, eH⟩ : ∃ H : Heap, H = s.heap := ⟨_, rfl⟩
  obtain ⟨locs, eL⟩ : ∃ L : List Loc, L = [] := ⟨_, rfl⟩
  have hS : va_S A s.heap H locs := by rw [eH, eL]; exact hS
  rw [← eH] at hP
  suffices hg : W p l e rmX5_manyMaking s m args below meth c H locs 0 0 Q (F0 m 0 ls []) by rw [eH, eL] at hg; exact hg
  clear eH eL
  replace hl : lv_has ls 7 [(0, .ref (q 0)), (1, .int p0), (2, .int p1), (3, .int p2), (4, .int p3)] := hl
  have hf9 := hts (.fieldLink RX5 9 "NumberPile$Pile" "kinds" "[LNumberPile$Brick;") (by decide +kernel)
  have hiX5 : ∀ w ∈ u_ws RX5 TX5 15, w ∈ wsX5_manyMaking := fun w h => List.mem_cons_of_mem _ (List.mem_append_right _ h)
  have bcmade := (show Cond.code yX0_made cX0_made 3 (some .int) ∈ wsX5_manyMaking by decide +kernel)
  unfold w_X5_manyMaking at hw
  refine lv_iconst (v := 0) hx hb dX5_manyMaking_0 (by decide) ?_
  refine lv_istore (lv' := [(5, .int (0 : Int32)), (0, .ref (q 0)), (1, .int p0), (2, .int p1), (3, .int p2), (4, .int p3)]) hx hb dX5_manyMaking_1 hl (by decide) rfl (fun ls hl => ?_)
  refine lv_iconst (v := 0) hx hb dX5_manyMaking_3 (by decide) ?_
  refine lv_istore (lv' := [(6, .int (0 : Int32)), (5, .int (0 : Int32)), (0, .ref (q 0)), (1, .int p0), (2, .int p1), (3, .int p2), (4, .int p3)]) hx hb dX5_manyMaking_4 hl (by decide) rfl (fun ls hl => ?_)
  refine hw (fun (x1 : Int32) (x2 : Int32) => ∀ (H : Heap) (locs : List Loc) (ls : Array Slot), va_P (dC, dI) vwCl ((W_P adK adV cI cB cS q qb n k f t a b sg) ++ va_pl sL (sgF sf)) H → va_D A ((W_P adK adV cI cB cS q qb n k f t a b sg) ++ va_pl sL (sgF sf)) → va_S A s.heap H locs → lv_has ls 7 [(0, .ref (q 0)), (1, .int p0), (2, .int p1), (3, .int p2), (4, .int p3), (5, .int x1), (6, .int x2)] → W p l e rmX5_manyMaking s m args below meth c H locs 0 0 Q (F0 m 6 ls [])) ?_ H locs ls hP hD hS (lv_sub hl [2, 3, 4, 5, 6, 1, 0] rfl)
  · intro x1 x2 hw H locs ls hP hD hS hl
    refine lv_iload hx hb dX5_manyMaking_6 (lv_at hl 6 rfl) ?_
    refine lv_aload_n hx hb dX5_manyMaking_8 rfl (lv_at hl 0 rfl) ?_
    refine va_get (D := (dC, dI)) (ci := 7) (v := .ref (q 1)) (C := RX5) (T := TX5) (N := 15) hx hb hts hiX5 hown hK hP 0 rfl rfl 2 (by decide) hf9 (fun _ h9 => h9) rfl dX5_manyMaking_9 ?_
    refine va_alen hx hb hK hP 1 1 rfl rfl (v := (5 : Int32)) rfl dX5_manyMaking_12 ?_
    refine lv_icmp_ge (tgt := 51) hx hb dX5_manyMaking_13 (by decide) (fun hc4 => ?_) (fun hc4 => ?_)
    · replace hw := hw.1 hc4
      refine lv_iload hx hb dX5_manyMaking_51 (lv_at hl 5 rfl) ?_
      exact hret dX5_manyMaking_53 hK hP hD hS hw
    · replace hw := hw.2 hc4
      refine lv_iload_n hx hb dX5_manyMaking_16 rfl (lv_at hl 1 rfl) ?_
      refine lv_iload hx hb dX5_manyMaking_17 (lv_at hl 6 rfl) ?_
      refine lv_ishr hx hb dX5_manyMaking_19 ?_
      refine lv_iconst (v := 1) hx hb dX5_manyMaking_20 (by decide) ?_
      refine lv_iand hx hb dX5_manyMaking_21 ?_
      replace hw := hw (fun (x5 : Int32) => ∀ (H : Heap) (locs : List Loc) (ls : Array Slot), va_P (dC, dI) vwCl ((W_P adK adV cI cB cS q qb n k f t a b sg) ++ va_pl sL (sgF sf)) H → va_D A ((W_P adK adV cI cB cS q qb n k f t a b sg) ++ va_pl sL (sgF sf)) → va_S A s.heap H locs → lv_has ls 7 [(0, .ref (q 0)), (1, .int p0), (2, .int p1), (3, .int p2), (4, .int p3), (5, .int x5), (6, .int x2)] → W p l e rmX5_manyMaking s m args below meth c H locs 0 0 Q (F0 m 45 ls [])) (by
        intro x5 hw H locs ls hP hD hS hl
        obtain ⟨x7, ex7⟩ : ∃ y : Int32, y = x2 + (1 : Int32) := ⟨_, rfl⟩
        replace hw := hw x7 ex7
        refine lv_iinc (v := x7) (lv' := [(6, .int x7), (0, .ref (q 0)), (1, .int p0), (2, .int p1), (3, .int p2), (4, .int p3), (5, .int x5)]) hx hb dX5_manyMaking_45 hl (k := 6) rfl (by rw [ex7]; rfl) (by decide) rfl (fun ls hl => ?_)
        refine lv_goto (tgt := 6) hx hb dX5_manyMaking_48 (by decide) ?_
        exact hw H locs ls hP hD hS (lv_sub hl [1, 2, 3, 4, 5, 6, 0] rfl))
      refine lv_if_eq (tgt := 45) hx hb dX5_manyMaking_22 (by decide) (fun hc8 => ?_) (fun hc8 => ?_)
      · replace hw := hw.1 hc8
        exact hw H locs ls hP hD hS (lv_sub hl [0, 1, 2, 3, 4, 5, 6] rfl)
      · replace hw := hw.2 hc8
        refine lv_aload_n hx hb dX5_manyMaking_25 rfl (lv_at hl 0 rfl) ?_
        refine va_get (D := (dC, dI)) (ci := 7) (v := .ref (q 1)) (C := RX5) (T := TX5) (N := 15) hx hb hts hiX5 hown hK hP 0 rfl rfl 2 (by decide) hf9 (fun _ h9 => h9) rfl dX5_manyMaking_26 ?_
        refine lv_iload hx hb dX5_manyMaking_29 (lv_at hl 6 rfl) ?_
        obtain ⟨hb9, hw⟩ := hw
        refine va_aldq hx hb hK hP 1 1 rfl rfl hb9 dX5_manyMaking_31 ?_
        obtain ⟨kd10, hkd10, gkd10, hw⟩ := hw
        refine W.eq (congrArg (fun v => F0 m 32 ls (v :: [])) (bk_rf (qb := qb) hkd10)) ?_
        refine lv_iload_n hx hb dX5_manyMaking_32 rfl (lv_at hl 2 rfl) ?_
        refine lv_iload_n hx hb dX5_manyMaking_33 rfl (lv_at hl 3 rfl) ?_
        refine bk_made (rest := []) gkd10 hw (fun hw => va_runV (As := [.int p1, .int p2]) (rest := []) ⟨hx, hb, hml, hown, hts⟩ (t_X0_made l (qb 0) p1 p2 _ hw) (cwV 2 hts gX5_manyMaking_X0_made rfl rfl rfl (by decide +kernel) ⟨Nat.le_of_ble_eq_true rfl, Nat.le_of_ble_eq_true rfl⟩) (g_p0V hK hP (q0 := 22) rfl rfl) rfl rfl hl.1 rfl (lv_room (Nat.le_of_ble_eq_true rfl)) dX5_manyMaking_34 ⟨Nat.le_of_ble_eq_true rfl, Nat.le_of_ble_eq_true rfl⟩) (fun hw => va_runU (As := [.int p1, .int p2]) (rest := []) ⟨hx, hb, hml, hown, hts⟩ (t_X1_made l (qb 1) p1 p2 _ hw) (va_cwO 2 hts gX5_manyMaking_X1_made_u112X1 rfl rfl rfl bcmade (by decide +kernel) ⟨Nat.le_of_ble_eq_true rfl, Nat.le_of_ble_eq_true rfl⟩) (g_p0V hK hP (q0 := 23) rfl rfl) rfl rfl hl.1 rfl (lv_room (Nat.le_of_ble_eq_true rfl)) dX5_manyMaking_34 ⟨Nat.le_of_ble_eq_true rfl, Nat.le_of_ble_eq_true rfl⟩) (fun hw => va_runU (As := [.int p1, .int p2]) (rest := []) ⟨hx, hb, hml, hown, hts⟩ (t_X3_made l (qb 2) p1 p2 _ hw) (va_cwO 2 hts gX5_manyMaking_X3_made_u112X3 rfl rfl rfl bcmade (by decide +kernel) ⟨Nat.le_of_ble_eq_true rfl, Nat.le_of_ble_eq_true rfl⟩) (g_p0V hK hP (q0 := 24) rfl rfl) rfl rfl hl.1 rfl (lv_room (Nat.le_of_ble_eq_true rfl)) dX5_manyMaking_34 ⟨Nat.le_of_ble_eq_true rfl, Nat.le_of_ble_eq_true rfl⟩) (fun hw => va_runU (As := [.int p1, .int p2]) (rest := []) ⟨hx, hb, hml, hown, hts⟩ (t_X9_made l (qb 3) p1 p2 _ hw) (va_cwO 2 hts gX5_manyMaking_X9_made_u112X9 rfl rfl rfl bcmade (by decide +kernel) ⟨Nat.le_of_ble_eq_true rfl, Nat.le_of_ble_eq_true rfl⟩) (g_p0V hK hP (q0 := 25) rfl rfl) rfl rfl hl.1 rfl (lv_room (Nat.le_of_ble_eq_true rfl)) dX5_manyMaking_34 ⟨Nat.le_of_ble_eq_true rfl, Nat.le_of_ble_eq_true rfl⟩) (fun hw => va_runU (As := [.int p1, .int p2]) (rest := []) ⟨hx, hb, hml, hown, hts⟩ (t_X2_made l (qb 4) p1 p2 _ hw) (va_cwO 2 hts gX5_manyMaking_X2_made_u112X2 rfl rfl rfl bcmade (by decide +kernel) ⟨Nat.le_of_ble_eq_true rfl, Nat.le_of_ble_eq_true rfl⟩) (bk_pR hK hP (q0 := 26) rfl rfl) rfl rfl hl.1 rfl (lv_room (Nat.le_of_ble_eq_true rfl)) dX5_manyMaking_34 ⟨Nat.le_of_ble_eq_true rfl, Nat.le_of_ble_eq_true rfl⟩) (fun r11 hw => ?_)
        refine lv_iload hx hb dX5_manyMaking_37 (lv_at hl 4 rfl) ?_
        refine lv_icmp_ne (tgt := 45) hx hb dX5_manyMaking_39 (by decide) (fun hc12 => ?_) (fun hc12 => ?_)
        · replace hw := hw.1 hc12
          exact hw H locs ls hP hD hS (lv_sub hl [0, 1, 2, 3, 4, 5, 6] rfl)
        · replace hw := hw.2 hc12
          obtain ⟨x13, ex13⟩ : ∃ y : Int32, y = x1 + (1 : Int32) := ⟨_, rfl⟩
          replace hw := hw x13 ex13
          refine lv_iinc (v := x13) (lv' := [(5, .int x13), (0, .ref (q 0)), (1, .int p0), (2, .int p1), (3, .int p2), (4, .int p3), (6, .int x2)]) hx hb dX5_manyMaking_42 hl (k := 5) rfl (by rw [ex13]; rfl) (by decide) rfl (fun ls hl => ?_)
          exact hw H locs ls hP hD hS (lv_sub hl [1, 2, 3, 4, 5, 0, 6] rfl)

def w_X5_mostAlike (n : Nat) (k : Nat) (q : Nat → Nat) (f : Nat → Int32) (t : Nat) (a : Nat → Nat → Int32) (b : Nat → Nat → Int32) (sg : Nat → Nat → Option Nat) (sL : List Nat) (sf : Nat → Nat → Int32)  (p0 : Int32) (p1 : Int32) (p2 : Int32) (Q : Int32 → Unit → Prop) : Prop := (∀ X3 : Int32 → Int32 → Prop, (∀ (x1 : Int32) (x2 : Int32), (((((5 : Int32) ≤ x2) → Q x1 ()) ∧ (¬ ((5 : Int32) ≤ x2) → ∀ J6 : Int32 → Prop, (∀ (x5 : Int32), (∀ x7 : Int32, x7 = x2 + (1 : Int32) → X3 x5 x7) → J6 x5) → (((((p0 >>> (x2 &&& 31)) &&& (1 : Int32)) = 0) → J6 x1) ∧ (¬ (((p0 >>> (x2 &&& 31)) &&& (1 : Int32)) = 0) → (vp_in x2 (5)) ∧ ∃ kd10 : Nat, (kAll x2.toNatClampNeg = some kd10) ∧ (kd10 < 5) ∧ wk_made kd10 p1 p2 (fun (r11 : Int32) => w_X5_manyMaking n k q f t a b sg sL sf p0 p1 p2 r11 (fun (r13 : Int32) (u12 : Unit) => ∀ x14 : Int32, x14 = (if x1 < r13 then r13 else x1) → J6 x14))))))) → X3 x1 x2) → X3 (0 : Int32) (0 : Int32))
abbrev rmX5_mostAlike : Room := { frames := 3, cells := 0, slots := 0, locals := 88 }
set_option maxHeartbeats 4000000 in
set_option maxRecDepth 100000 in
theorem t_X5_mostAlike (l : Launch) (dC : Nat → ClassId) (dI : Nat → Nat → Nat) (adK : Nat → Nat) (adV : Nat → Nat) (cI : ClassId) (cB : ClassId) (cS : ClassId) (q : Nat → Nat) (qb : Nat → Nat) (n : Nat) (k : Nat) (sz : Nat) (f : Nat → Int32) (t : Nat) (a : Nat → Nat → Int32) (b : Nat → Nat → Int32) (sg : Nat → Nat → Option Nat) (sL : List Nat) (sf : Nat → Nat → Int32)   (p0 : Int32) (p1 : Int32) (p2 : Int32) (Q0 : Int32 → Unit → Prop) (hw : w_X5_mostAlike n k q f t a b sg sL sf  p0 p1 p2 Q0) : Met l yX5_mostAlike wsX5_mostAlike rmX5_mostAlike (g_pre (cz adK adV) (dC, dI) vwCl [(cI, .int), (cB, .object RX0), (cS, .object RX7)] ((W_P adK adV cI cB cS q qb n k f t a b sg) ++ va_pl sL (sgF sf)) sz [.ref (q 0), .int p0, .int p1, .int p2]) (g_qi (dC, dI) vwCl [(cI, .int), (cB, .object RX0), (cS, .object RX7)] (fun u : Unit => ((W_P adK adV cI cB cS q qb n k f t a b sg) ++ va_pl sL (sgF sf))) Q0 (va_A ((W_P adK adV cI cB cS q qb n k f t a b sg) ++ va_pl sL (sgF sf)) sz)) 0 0 (va_A ((W_P adK adV cI cB cS q qb n k f t a b sg) ++ va_pl sL (sgF sf)) sz) := by
  refine g_starti (by decide) rfl (Nat.le_of_ble_eq_true rfl) ?_
  intro p e s m args below meth c A Q ls hx hb hml hown hts hin hK hP hD hA hS hZ hret hl
  obtain ⟨H, eH⟩ : ∃ H : Heap, H = s.heap := ⟨_, rfl⟩
  obtain ⟨locs, eL⟩ : ∃ L : List Loc, L = [] := ⟨_, rfl⟩
  have hS : va_S A s.heap H locs := by rw [eH, eL]; exact hS
  rw [← eH] at hP
  suffices hg : W p l e rmX5_mostAlike s m args below meth c H locs 0 0 Q (F0 m 0 ls []) by rw [eH, eL] at hg; exact hg
  clear eH eL
  replace hl : lv_has ls 6 [(0, .ref (q 0)), (1, .int p0), (2, .int p1), (3, .int p2)] := hl
  have hf9 := hts (.fieldLink RX5 9 "NumberPile$Pile" "kinds" "[LNumberPile$Brick;") (by decide +kernel)
  have hiX5 : ∀ w ∈ u_ws RX5 TX5 15, w ∈ wsX5_mostAlike := fun w h => List.mem_cons_of_mem _ (List.mem_append_right _ h)
  have bcmade := (show Cond.code yX0_made cX0_made 3 (some .int) ∈ wsX5_mostAlike by decide +kernel)
  have ml149 := hts (.methodLink RX5 149 Lib.Math.max.name) (by decide +kernel)
  have msmax := hts (.static Lib.Math.max.name) (by decide +kernel)
  have miMath := hts (.initialized "java/lang/Math") (by decide +kernel)
  have mcmax := hts (.code Lib.Math.max.name Lib.Math.max.code 2 (some .int)) (by decide +kernel)
  unfold w_X5_mostAlike at hw
  refine lv_iconst (v := 0) hx hb dX5_mostAlike_0 (by decide) ?_
  refine lv_istore (lv' := [(4, .int (0 : Int32)), (0, .ref (q 0)), (1, .int p0), (2, .int p1), (3, .int p2)]) hx hb dX5_mostAlike_1 hl (by decide) rfl (fun ls hl => ?_)
  refine lv_iconst (v := 0) hx hb dX5_mostAlike_3 (by decide) ?_
  refine lv_istore (lv' := [(5, .int (0 : Int32)), (4, .int (0 : Int32)), (0, .ref (q 0)), (1, .int p0), (2, .int p1), (3, .int p2)]) hx hb dX5_mostAlike_4 hl (by decide) rfl (fun ls hl => ?_)
  refine hw (fun (x1 : Int32) (x2 : Int32) => ∀ (H : Heap) (locs : List Loc) (ls : Array Slot), va_P (dC, dI) vwCl ((W_P adK adV cI cB cS q qb n k f t a b sg) ++ va_pl sL (sgF sf)) H → va_D A ((W_P adK adV cI cB cS q qb n k f t a b sg) ++ va_pl sL (sgF sf)) → va_S A s.heap H locs → lv_has ls 6 [(0, .ref (q 0)), (1, .int p0), (2, .int p1), (3, .int p2), (4, .int x1), (5, .int x2)] → W p l e rmX5_mostAlike s m args below meth c H locs 0 0 Q (F0 m 6 ls [])) ?_ H locs ls hP hD hS (lv_sub hl [2, 3, 4, 5, 1, 0] rfl)
  · intro x1 x2 hw H locs ls hP hD hS hl
    refine lv_iload hx hb dX5_mostAlike_6 (lv_at hl 5 rfl) ?_
    refine lv_aload_n hx hb dX5_mostAlike_8 rfl (lv_at hl 0 rfl) ?_
    refine va_get (D := (dC, dI)) (ci := 7) (v := .ref (q 1)) (C := RX5) (T := TX5) (N := 15) hx hb hts hiX5 hown hK hP 0 rfl rfl 2 (by decide) hf9 (fun _ h9 => h9) rfl dX5_mostAlike_9 ?_
    refine va_alen hx hb hK hP 1 1 rfl rfl (v := (5 : Int32)) rfl dX5_mostAlike_12 ?_
    refine lv_icmp_ge (tgt := 57) hx hb dX5_mostAlike_13 (by decide) (fun hc4 => ?_) (fun hc4 => ?_)
    · replace hw := hw.1 hc4
      refine lv_iload hx hb dX5_mostAlike_57 (lv_at hl 4 rfl) ?_
      exact hret dX5_mostAlike_59 hK hP hD hS hw
    · replace hw := hw.2 hc4
      refine lv_iload_n hx hb dX5_mostAlike_16 rfl (lv_at hl 1 rfl) ?_
      refine lv_iload hx hb dX5_mostAlike_17 (lv_at hl 5 rfl) ?_
      refine lv_ishr hx hb dX5_mostAlike_19 ?_
      refine lv_iconst (v := 1) hx hb dX5_mostAlike_20 (by decide) ?_
      refine lv_iand hx hb dX5_mostAlike_21 ?_
      replace hw := hw (fun (x5 : Int32) => ∀ (H : Heap) (locs : List Loc) (ls : Array Slot), va_P (dC, dI) vwCl ((W_P adK adV cI cB cS q qb n k f t a b sg) ++ va_pl sL (sgF sf)) H → va_D A ((W_P adK adV cI cB cS q qb n k f t a b sg) ++ va_pl sL (sgF sf)) → va_S A s.heap H locs → lv_has ls 6 [(0, .ref (q 0)), (1, .int p0), (2, .int p1), (3, .int p2), (4, .int x5), (5, .int x2)] → W p l e rmX5_mostAlike s m args below meth c H locs 0 0 Q (F0 m 51 ls [])) (by
        intro x5 hw H locs ls hP hD hS hl
        obtain ⟨x7, ex7⟩ : ∃ y : Int32, y = x2 + (1 : Int32) := ⟨_, rfl⟩
        replace hw := hw x7 ex7
        refine lv_iinc (v := x7) (lv' := [(5, .int x7), (0, .ref (q 0)), (1, .int p0), (2, .int p1), (3, .int p2), (4, .int x5)]) hx hb dX5_mostAlike_51 hl (k := 5) rfl (by rw [ex7]; rfl) (by decide) rfl (fun ls hl => ?_)
        refine lv_goto (tgt := 6) hx hb dX5_mostAlike_54 (by decide) ?_
        exact hw H locs ls hP hD hS (lv_sub hl [1, 2, 3, 4, 5, 0] rfl))
      refine lv_if_eq (tgt := 51) hx hb dX5_mostAlike_22 (by decide) (fun hc8 => ?_) (fun hc8 => ?_)
      · replace hw := hw.1 hc8
        exact hw H locs ls hP hD hS (lv_sub hl [0, 1, 2, 3, 4, 5] rfl)
      · replace hw := hw.2 hc8
        refine lv_iload hx hb dX5_mostAlike_25 (lv_at hl 4 rfl) ?_
        refine lv_aload_n hx hb dX5_mostAlike_27 rfl (lv_at hl 0 rfl) ?_
        refine lv_iload_n hx hb dX5_mostAlike_28 rfl (lv_at hl 1 rfl) ?_
        refine lv_iload_n hx hb dX5_mostAlike_29 rfl (lv_at hl 2 rfl) ?_
        refine lv_iload_n hx hb dX5_mostAlike_30 rfl (lv_at hl 3 rfl) ?_
        refine lv_aload_n hx hb dX5_mostAlike_31 rfl (lv_at hl 0 rfl) ?_
        refine va_get (D := (dC, dI)) (ci := 7) (v := .ref (q 1)) (C := RX5) (T := TX5) (N := 15) hx hb hts hiX5 hown hK hP 0 rfl rfl 2 (by decide) hf9 (fun _ h9 => h9) rfl dX5_mostAlike_32 ?_
        refine lv_iload hx hb dX5_mostAlike_35 (lv_at hl 5 rfl) ?_
        obtain ⟨hb9, hw⟩ := hw
        refine va_aldq hx hb hK hP 1 1 rfl rfl hb9 dX5_mostAlike_37 ?_
        obtain ⟨kd10, hkd10, gkd10, hw⟩ := hw
        refine W.eq (congrArg (fun v => F0 m 38 ls (v :: [.int p2, .int p1, .int p0, .ref (q 0), .int x1])) (bk_rf (qb := qb) hkd10)) ?_
        refine lv_iload_n hx hb dX5_mostAlike_38 rfl (lv_at hl 2 rfl) ?_
        refine lv_iload_n hx hb dX5_mostAlike_39 rfl (lv_at hl 3 rfl) ?_
        refine bk_made (rest := [.int p2, .int p1, .int p0, .ref (q 0), .int x1]) gkd10 hw (fun hw => va_runV (As := [.int p1, .int p2]) (rest := [.int p2, .int p1, .int p0, .ref (q 0), .int x1]) ⟨hx, hb, hml, hown, hts⟩ (t_X0_made l (qb 0) p1 p2 _ hw) (cwV 2 hts gX5_mostAlike_X0_made rfl rfl rfl (by decide +kernel) ⟨Nat.le_of_ble_eq_true rfl, Nat.le_of_ble_eq_true rfl⟩) (g_p0V hK hP (q0 := 22) rfl rfl) rfl rfl hl.1 rfl (lv_room (Nat.le_of_ble_eq_true rfl)) dX5_mostAlike_40 ⟨Nat.le_of_ble_eq_true rfl, Nat.le_of_ble_eq_true rfl⟩) (fun hw => va_runU (As := [.int p1, .int p2]) (rest := [.int p2, .int p1, .int p0, .ref (q 0), .int x1]) ⟨hx, hb, hml, hown, hts⟩ (t_X1_made l (qb 1) p1 p2 _ hw) (va_cwO 2 hts gX5_mostAlike_X1_made_u112X1 rfl rfl rfl bcmade (by decide +kernel) ⟨Nat.le_of_ble_eq_true rfl, Nat.le_of_ble_eq_true rfl⟩) (g_p0V hK hP (q0 := 23) rfl rfl) rfl rfl hl.1 rfl (lv_room (Nat.le_of_ble_eq_true rfl)) dX5_mostAlike_40 ⟨Nat.le_of_ble_eq_true rfl, Nat.le_of_ble_eq_true rfl⟩) (fun hw => va_runU (As := [.int p1, .int p2]) (rest := [.int p2, .int p1, .int p0, .ref (q 0), .int x1]) ⟨hx, hb, hml, hown, hts⟩ (t_X3_made l (qb 2) p1 p2 _ hw) (va_cwO 2 hts gX5_mostAlike_X3_made_u112X3 rfl rfl rfl bcmade (by decide +kernel) ⟨Nat.le_of_ble_eq_true rfl, Nat.le_of_ble_eq_true rfl⟩) (g_p0V hK hP (q0 := 24) rfl rfl) rfl rfl hl.1 rfl (lv_room (Nat.le_of_ble_eq_true rfl)) dX5_mostAlike_40 ⟨Nat.le_of_ble_eq_true rfl, Nat.le_of_ble_eq_true rfl⟩) (fun hw => va_runU (As := [.int p1, .int p2]) (rest := [.int p2, .int p1, .int p0, .ref (q 0), .int x1]) ⟨hx, hb, hml, hown, hts⟩ (t_X9_made l (qb 3) p1 p2 _ hw) (va_cwO 2 hts gX5_mostAlike_X9_made_u112X9 rfl rfl rfl bcmade (by decide +kernel) ⟨Nat.le_of_ble_eq_true rfl, Nat.le_of_ble_eq_true rfl⟩) (g_p0V hK hP (q0 := 25) rfl rfl) rfl rfl hl.1 rfl (lv_room (Nat.le_of_ble_eq_true rfl)) dX5_mostAlike_40 ⟨Nat.le_of_ble_eq_true rfl, Nat.le_of_ble_eq_true rfl⟩) (fun hw => va_runU (As := [.int p1, .int p2]) (rest := [.int p2, .int p1, .int p0, .ref (q 0), .int x1]) ⟨hx, hb, hml, hown, hts⟩ (t_X2_made l (qb 4) p1 p2 _ hw) (va_cwO 2 hts gX5_mostAlike_X2_made_u112X2 rfl rfl rfl bcmade (by decide +kernel) ⟨Nat.le_of_ble_eq_true rfl, Nat.le_of_ble_eq_true rfl⟩) (bk_pR hK hP (q0 := 26) rfl rfl) rfl rfl hl.1 rfl (lv_room (Nat.le_of_ble_eq_true rfl)) dX5_mostAlike_40 ⟨Nat.le_of_ble_eq_true rfl, Nat.le_of_ble_eq_true rfl⟩) (fun r11 hw => ?_)
        refine g_ci (g_J.poolP (W2 := fun u12 : Unit => (W_P adK adV cI cB cS q qb n k f t a b sg)) (pl := va_pl sL (sgF sf)) (PL := fun u12 : Unit => va_pl sL (sgF sf)) (RX := fun u12 : Unit => (W_P adK adV cI cB cS q qb n k f t a b sg)) [] [0, 1, 2, 3, 4, 5, 6, 7, 8, 9, 10, 11, 12, 13, 14, 15, 16, 17, 18, 19, 20, 21, 22, 23, 24, 25, 26] [] [0, 1, 2, 3, 4, 5, 6, 7, 8, 9, 10, 11, 12, 13, 14, 15, 16, 17, 18, 19, 20, 21, 22, 23, 24, 25, 26] rfl (by decide) rfl (by decide) (by decide) (fun _ => rfl) (by decide)) [0, 1, 2] hK hP hD hS hA rfl (fun hPc hDc hKc hFc => va_runV (As := [.int p0, .int p1, .int p2, .int r11]) (rest := [.int x1]) ⟨hx, hb, hml, hown, hts⟩ (t_X5_manyMaking l dC dI adK adV cI cB cS q qb n k H.size f t a b sg sL sf p0 p1 p2 r11 _ hw) (cwV 4 hts gX5_mostAlike_X5_manyMaking rfl rfl rfl (by decide +kernel) ⟨Nat.le_of_ble_eq_true rfl, Nat.le_of_ble_eq_true rfl⟩) (g_pV czb (q0 := 0) rfl rfl hPc hDc hKc (czc hZ hS hFc)) rfl rfl hl.1 rfl (lv_room (Nat.le_of_ble_eq_true rfl)) dX5_mostAlike_43 ⟨Nat.le_of_ble_eq_true rfl, Nat.le_of_ble_eq_true rfl⟩) (fun r13 u12 H locs hw hP hD hS => ?_)
        replace hP : va_P (dC, dI) vwCl ((W_P adK adV cI cB cS q qb n k f t a b sg) ++ va_pl sL (sgF sf)) H := hP
        replace hD : va_D A ((W_P adK adV cI cB cS q qb n k f t a b sg) ++ va_pl sL (sgF sf)) := hD
        refine va_mmax hx hb (hml.trans hl.1.symm) hown ml149 msmax miMath mcmax (Nat.le_of_ble_eq_true rfl) (Nat.le_of_ble_eq_true rfl) (Nat.le_of_ble_eq_true rfl) (Nat.le_of_ble_eq_true rfl) dX5_mostAlike_46 ?_
        refine lv_topi (fun x14 ex14 => ?_)
        replace hw := hw x14 ex14
        refine lv_istore (lv' := [(4, .int x14), (0, .ref (q 0)), (1, .int p0), (2, .int p1), (3, .int p2), (5, .int x2)]) hx hb dX5_mostAlike_49 hl (by decide) rfl (fun ls hl => ?_)
        exact hw H locs ls hP hD hS (lv_sub hl [1, 2, 3, 4, 0, 5] rfl)

def w_X5_nextTry (n : Nat) (k : Nat) (q : Nat → Nat) (f : Nat → Int32) (t : Nat) (a : Nat → Nat → Int32) (b : Nat → Nat → Int32) (sg : Nat → Nat → Option Nat) (sL : List Nat) (sf : Nat → Nat → Int32)  (p0 : Int32) (Q : Int32 → Unit → Prop) : Prop := (((¬ p0 = 0) → (∀ X5 : Int32 → Int32 → Int32 → Prop, (∀ (x2 : Int32) (x3 : Int32) (x4 : Int32), (((((100 : Int32) ≤ x4) → Q x2 ()) ∧ (¬ ((100 : Int32) ≤ x4) → (((x3 ≤ (1 : Int32)) → Q x2 ()) ∧ (¬ (x3 ≤ (1 : Int32)) → w_X5_mostAlike n k q f t a b sg sL sf p0 (x4 / (10 : Int32)) (x4 - x4 / (10 : Int32) * (10 : Int32)) (fun (r9 : Int32) (u8 : Unit) => ∀ J12 : Int32 → Int32 → Prop, (∀ (x10 : Int32) (x11 : Int32), (∀ x13 : Int32, x13 = x4 + (1 : Int32) → X5 x10 x11 x13) → J12 x10 x11) → (((x3 ≤ r9) → J12 x2 x3) ∧ (¬ (x3 ≤ r9) → J12 x4 r9)))))))) → X5 x2 x3 x4) → X5 (-1 : Int32) (6 : Int32) (0 : Int32))) ∧ (p0 = 0 → Q (-1 : Int32) ()))
abbrev rmX5_nextTry : Room := { frames := 4, cells := 0, slots := 0, locals := 113 }
set_option maxHeartbeats 4000000 in
set_option maxRecDepth 100000 in
theorem t_X5_nextTry (l : Launch) (dC : Nat → ClassId) (dI : Nat → Nat → Nat) (adK : Nat → Nat) (adV : Nat → Nat) (cI : ClassId) (cB : ClassId) (cS : ClassId) (q : Nat → Nat) (qb : Nat → Nat) (n : Nat) (k : Nat) (sz : Nat) (f : Nat → Int32) (t : Nat) (a : Nat → Nat → Int32) (b : Nat → Nat → Int32) (sg : Nat → Nat → Option Nat) (sL : List Nat) (sf : Nat → Nat → Int32)   (p0 : Int32) (Q0 : Int32 → Unit → Prop) (hw : w_X5_nextTry n k q f t a b sg sL sf  p0 Q0) : Met l yX5_nextTry wsX5_nextTry rmX5_nextTry (g_pre (cz adK adV) (dC, dI) vwCl [(cI, .int), (cB, .object RX0), (cS, .object RX7)] ((W_P adK adV cI cB cS q qb n k f t a b sg) ++ va_pl sL (sgF sf)) sz [.ref (q 0), .int p0]) (g_qi (dC, dI) vwCl [(cI, .int), (cB, .object RX0), (cS, .object RX7)] (fun u : Unit => ((W_P adK adV cI cB cS q qb n k f t a b sg) ++ va_pl sL (sgF sf))) Q0 (va_A ((W_P adK adV cI cB cS q qb n k f t a b sg) ++ va_pl sL (sgF sf)) sz)) 0 0 (va_A ((W_P adK adV cI cB cS q qb n k f t a b sg) ++ va_pl sL (sgF sf)) sz) := by
  refine g_starti (by decide) rfl (Nat.le_of_ble_eq_true rfl) ?_
  intro p e s m args below meth c A Q ls hx hb hml hown hts hin hK hP hD hA hS hZ hret hl
  obtain ⟨H, eH⟩ : ∃ H : Heap, H = s.heap := ⟨_, rfl⟩
  obtain ⟨locs, eL⟩ : ∃ L : List Loc, L = [] := ⟨_, rfl⟩
  have hS : va_S A s.heap H locs := by rw [eH, eL]; exact hS
  rw [← eH] at hP
  suffices hg : W p l e rmX5_nextTry s m args below meth c H locs 0 0 Q (F0 m 0 ls []) by rw [eH, eL] at hg; exact hg
  clear eH eL
  replace hl : lv_has ls 6 [(0, .ref (q 0)), (1, .int p0)] := hl
  unfold w_X5_nextTry at hw
  refine lv_iload_n hx hb dX5_nextTry_0 rfl (lv_at hl 1 rfl) ?_
  refine lv_if_ne (tgt := 6) hx hb dX5_nextTry_1 (by decide) (fun hc1 => ?_) (fun hc1 => ?_)
  · replace hw := hw.1 hc1
    refine lv_iconst (v := -1) hx hb dX5_nextTry_6 (by decide) ?_
    refine lv_istore_n (lv' := [(2, .int (-1 : Int32)), (0, .ref (q 0)), (1, .int p0)]) hx hb dX5_nextTry_7 rfl hl (by decide) rfl (fun ls hl => ?_)
    refine lv_bipush (v := 6) hx hb dX5_nextTry_8 (by decide) ?_
    refine lv_istore_n (lv' := [(3, .int (6 : Int32)), (2, .int (-1 : Int32)), (0, .ref (q 0)), (1, .int p0)]) hx hb dX5_nextTry_10 rfl hl (by decide) rfl (fun ls hl => ?_)
    refine lv_iconst (v := 0) hx hb dX5_nextTry_11 (by decide) ?_
    refine lv_istore (lv' := [(4, .int (0 : Int32)), (3, .int (6 : Int32)), (2, .int (-1 : Int32)), (0, .ref (q 0)), (1, .int p0)]) hx hb dX5_nextTry_12 hl (by decide) rfl (fun ls hl => ?_)
    refine hw (fun (x2 : Int32) (x3 : Int32) (x4 : Int32) => ∀ (H : Heap) (locs : List Loc) (ls : Array Slot), va_P (dC, dI) vwCl ((W_P adK adV cI cB cS q qb n k f t a b sg) ++ va_pl sL (sgF sf)) H → va_D A ((W_P adK adV cI cB cS q qb n k f t a b sg) ++ va_pl sL (sgF sf)) → va_S A s.heap H locs → lv_has ls 6 [(0, .ref (q 0)), (1, .int p0), (2, .int x2), (3, .int x3), (4, .int x4)] → W p l e rmX5_nextTry s m args below meth c H locs 0 0 Q (F0 m 14 ls [])) ?_ H locs ls hP hD hS (lv_sub hl [3, 4, 2, 1, 0] rfl)
    · intro x2 x3 x4 hw H locs ls hP hD hS hl
      refine lv_iload hx hb dX5_nextTry_14 (lv_at hl 4 rfl) ?_
      refine lv_bipush (v := 100) hx hb dX5_nextTry_16 (by decide) ?_
      refine lv_icmp_ge (tgt := 61) hx hb dX5_nextTry_18 (by decide) (fun hc6 => ?_) (fun hc6 => ?_)
      · replace hw := hw.1 hc6
        refine lv_iload_n hx hb dX5_nextTry_61 rfl (lv_at hl 2 rfl) ?_
        exact hret dX5_nextTry_62 hK hP hD hS hw
      · replace hw := hw.2 hc6
        refine lv_iload_n hx hb dX5_nextTry_21 rfl (lv_at hl 3 rfl) ?_
        refine lv_iconst (v := 1) hx hb dX5_nextTry_22 (by decide) ?_
        refine lv_icmp_le (tgt := 61) hx hb dX5_nextTry_23 (by decide) (fun hc7 => ?_) (fun hc7 => ?_)
        · replace hw := hw.1 hc7
          refine lv_iload_n hx hb dX5_nextTry_61 rfl (lv_at hl 2 rfl) ?_
          exact hret dX5_nextTry_62 hK hP hD hS hw
        · replace hw := hw.2 hc7
          refine lv_aload_n hx hb dX5_nextTry_26 rfl (lv_at hl 0 rfl) ?_
          refine lv_iload_n hx hb dX5_nextTry_27 rfl (lv_at hl 1 rfl) ?_
          refine lv_iload hx hb dX5_nextTry_28 (lv_at hl 4 rfl) ?_
          refine lv_bipush (v := 10) hx hb dX5_nextTry_30 (by decide) ?_
          refine lv_idiv hx hb dX5_nextTry_32 (by decide) ?_
          refine lv_iload hx hb dX5_nextTry_33 (lv_at hl 4 rfl) ?_
          refine lv_bipush (v := 10) hx hb dX5_nextTry_35 (by decide) ?_
          refine lv_irem hx hb dX5_nextTry_37 (by decide) ?_
          refine g_ci (g_J.poolP (W2 := fun u8 : Unit => (W_P adK adV cI cB cS q qb n k f t a b sg)) (pl := va_pl sL (sgF sf)) (PL := fun u8 : Unit => va_pl sL (sgF sf)) (RX := fun u8 : Unit => (W_P adK adV cI cB cS q qb n k f t a b sg)) [] [0, 1, 2, 3, 4, 5, 6, 7, 8, 9, 10, 11, 12, 13, 14, 15, 16, 17, 18, 19, 20, 21, 22, 23, 24, 25, 26] [] [0, 1, 2, 3, 4, 5, 6, 7, 8, 9, 10, 11, 12, 13, 14, 15, 16, 17, 18, 19, 20, 21, 22, 23, 24, 25, 26] rfl (by decide) rfl (by decide) (by decide) (fun _ => rfl) (by decide)) [0, 1, 2] hK hP hD hS hA rfl (fun hPc hDc hKc hFc => va_runV (As := [.int p0, .int (x4 / (10 : Int32)), .int (x4 - x4 / (10 : Int32) * (10 : Int32))]) (rest := []) ⟨hx, hb, hml, hown, hts⟩ (t_X5_mostAlike l dC dI adK adV cI cB cS q qb n k H.size f t a b sg sL sf p0 (x4 / (10 : Int32)) (x4 - x4 / (10 : Int32) * (10 : Int32)) _ hw) (cwV 3 hts gX5_nextTry_X5_mostAlike rfl rfl rfl (by decide +kernel) ⟨Nat.le_of_ble_eq_true rfl, Nat.le_of_ble_eq_true rfl⟩) (g_pV czb (q0 := 0) rfl rfl hPc hDc hKc (czc hZ hS hFc)) rfl rfl hl.1 rfl (lv_room (Nat.le_of_ble_eq_true rfl)) dX5_nextTry_38 ⟨Nat.le_of_ble_eq_true rfl, Nat.le_of_ble_eq_true rfl⟩) (fun r9 u8 H locs hw hP hD hS => ?_)
          replace hP : va_P (dC, dI) vwCl ((W_P adK adV cI cB cS q qb n k f t a b sg) ++ va_pl sL (sgF sf)) H := hP
          replace hD : va_D A ((W_P adK adV cI cB cS q qb n k f t a b sg) ++ va_pl sL (sgF sf)) := hD
          refine lv_istore (lv' := [(5, .int r9), (0, .ref (q 0)), (1, .int p0), (2, .int x2), (3, .int x3), (4, .int x4)]) hx hb dX5_nextTry_41 hl (by decide) rfl (fun ls hl => ?_)
          refine lv_iload hx hb dX5_nextTry_43 (lv_at hl 0 rfl) ?_
          refine lv_iload_n hx hb dX5_nextTry_45 rfl (lv_at hl 4 rfl) ?_
          replace hw := hw (fun (x10 : Int32) (x11 : Int32) => ∀ (H : Heap) (locs : List Loc) (ls : Array Slot), va_P (dC, dI) vwCl ((W_P adK adV cI cB cS q qb n k f t a b sg) ++ va_pl sL (sgF sf)) H → va_D A ((W_P adK adV cI cB cS q qb n k f t a b sg) ++ va_pl sL (sgF sf)) → va_S A s.heap H locs → lv_has ls 6 [(0, .ref (q 0)), (1, .int p0), (2, .int x10), (3, .int x11), (4, .int x4)] → W p l e rmX5_nextTry s m args below meth c H locs 0 0 Q (F0 m 55 ls [])) (by
            intro x10 x11 hw H locs ls hP hD hS hl
            obtain ⟨x13, ex13⟩ : ∃ y : Int32, y = x4 + (1 : Int32) := ⟨_, rfl⟩
            replace hw := hw x13 ex13
            refine lv_iinc (v := x13) (lv' := [(4, .int x13), (0, .ref (q 0)), (1, .int p0), (2, .int x10), (3, .int x11)]) hx hb dX5_nextTry_55 hl (k := 4) rfl (by rw [ex13]; rfl) (by decide) rfl (fun ls hl => ?_)
            refine lv_goto (tgt := 14) hx hb dX5_nextTry_58 (by decide) ?_
            exact hw H locs ls hP hD hS (lv_sub hl [1, 2, 3, 4, 0] rfl))
          refine lv_icmp_ge (tgt := 55) hx hb dX5_nextTry_46 (by decide) (fun hc14 => ?_) (fun hc14 => ?_)
          · replace hw := hw.1 hc14
            exact hw H locs ls hP hD hS (lv_sub hl [1, 2, 3, 4, 5] rfl)
          · replace hw := hw.2 hc14
            refine lv_iload hx hb dX5_nextTry_49 (lv_at hl 0 rfl) ?_
            refine lv_istore_n (lv' := [(3, .int r9), (5, .int r9), (0, .ref (q 0)), (1, .int p0), (2, .int x2), (4, .int x4)]) hx hb dX5_nextTry_51 rfl hl (by decide) rfl (fun ls hl => ?_)
            refine lv_iload hx hb dX5_nextTry_52 (lv_at hl 5 rfl) ?_
            refine lv_istore_n (lv' := [(2, .int x4), (3, .int r9), (5, .int r9), (0, .ref (q 0)), (1, .int p0), (4, .int x4)]) hx hb dX5_nextTry_54 rfl hl (by decide) rfl (fun ls hl => ?_)
            exact hw H locs ls hP hD hS (lv_sub hl [3, 4, 0, 1, 5] rfl)
  · replace hw := hw.2 hc1
    refine lv_iconst (v := -1) hx hb dX5_nextTry_4 (by decide) ?_
    exact hret dX5_nextTry_5 hK hP hD hS hw

def w_X5_draw (n : Nat) (k : Nat) (q : Nat → Nat) (f : Nat → Int32) (t : Nat) (a : Nat → Nat → Int32) (b : Nat → Nat → Int32) (sg : Nat → Nat → Option Nat) (sL : List Nat) (sf : Nat → Nat → Int32)  (p0 : Int32) (Q : Int32 → ((Nat → Nat → Int32)) → Prop) : Prop := (∀ X4 : Int32 → Int32 → (Nat → Nat → Int32) → Prop, (∀ (x1 : Int32) (x2 : Int32) (av3 : (Nat → Nat → Int32)), (((((nI n) ≤ x2) → w_X5_raise_g n k q f t av3 b sg sL sf  (fun (u6 : ((Nat → Nat → Int32))) => Q x1 u6)) ∧ (¬ ((nI n) ≤ x2) → ∀ x7 : Int32, x7 = (((((1103515245 : Int64) * (x1.toInt64)) + (12345 : Int64)) &&& (2147483647 : Int64)).toInt32) → ∀ x9 : Int32, x9 = ((x7 / (65536 : Int32)) - (x7 / (65536 : Int32)) / (10 : Int32) * (10 : Int32)) → (vp_in x2 k) ∧ ∀ x10 : Int32, x10 = x2 + (1 : Int32) → X4 x7 x10 (va_up av3 6 (upd (av3 6) x2.toNatClampNeg x9))))) → X4 x1 x2 av3) → X4 p0 (0 : Int32) a)
abbrev rmX5_draw : Room := { frames := 3, cells := 0, slots := 0, locals := 85 }
set_option maxHeartbeats 4000000 in
set_option maxRecDepth 100000 in
theorem t_X5_draw (l : Launch) (dC : Nat → ClassId) (dI : Nat → Nat → Nat) (adK : Nat → Nat) (adV : Nat → Nat) (cI : ClassId) (cB : ClassId) (cS : ClassId) (q : Nat → Nat) (qb : Nat → Nat) (n : Nat) (k : Nat) (sz : Nat) (f : Nat → Int32) (t : Nat) (a : Nat → Nat → Int32) (b : Nat → Nat → Int32) (sg : Nat → Nat → Option Nat) (sL : List Nat) (sf : Nat → Nat → Int32)   (p0 : Int32) (Q0 : Int32 → ((Nat → Nat → Int32)) → Prop) (hw : w_X5_draw n k q f t a b sg sL sf  p0 Q0) : Met l yX5_draw wsX5_draw rmX5_draw (g_pre (cz adK adV) (dC, dI) vwCl [(cI, .int), (cB, .object RX0), (cS, .object RX7)] ((W_P adK adV cI cB cS q qb n k f t a b sg) ++ va_pl sL (sgF sf)) sz [.ref (q 0), .int p0]) (g_qi (dC, dI) vwCl [(cI, .int), (cB, .object RX0), (cS, .object RX7)] (fun u : ((Nat → Nat → Int32)) => ((W_P adK adV cI cB cS q qb n k f t u b sg) ++ va_pl sL (sgF sf))) Q0 (va_A ((W_P adK adV cI cB cS q qb n k f t a b sg) ++ va_pl sL (sgF sf)) sz)) 0 0 (va_A ((W_P adK adV cI cB cS q qb n k f t a b sg) ++ va_pl sL (sgF sf)) sz) := by
  refine g_starti (by decide) rfl (Nat.le_of_ble_eq_true rfl) ?_
  intro p e s m args below meth c A Q ls hx hb hml hown hts hin hK hP hD hA hS hZ hret hl
  obtain ⟨H, eH⟩ : ∃ H : Heap, H = s.heap := ⟨_, rfl⟩
  obtain ⟨locs, eL⟩ : ∃ L : List Loc, L = [] := ⟨_, rfl⟩
  have hS : va_S A s.heap H locs := by rw [eH, eL]; exact hS
  rw [← eH] at hP
  suffices hg : W p l e rmX5_draw s m args below meth c H locs 0 0 Q (F0 m 0 ls []) by rw [eH, eL] at hg; exact hg
  clear eH eL
  replace hl : lv_has ls 4 [(0, .ref (q 0)), (1, .int p0)] := hl
  have hf15 := hts (.fieldLink RX5 15 "NumberPile$Pile" "wide" "I") (by decide +kernel)
  have hiX5 : ∀ w ∈ u_ws RX5 TX5 15, w ∈ wsX5_draw := fun w h => List.mem_cons_of_mem _ (List.mem_append_left _ (List.mem_append_right _ h))
  have hf41 := hts (.fieldLink RX5 41 "NumberPile$Pile" "guess" "[I") (by decide +kernel)
  have kc217 := hts (.constantLong RX5 217 (1103515245)) (by decide +kernel)
  have kc219 := hts (.constantLong RX5 219 (12345)) (by decide +kernel)
  have kc223 := hts (.constantLong RX5 223 (2147483647)) (by decide +kernel)
  have kc225 := hts (.constant RX5 225 (65536)) (by decide +kernel)
  unfold w_X5_draw at hw
  refine lv_iload_n hx hb dX5_draw_0 rfl (lv_at hl 1 rfl) ?_
  refine lv_istore_n (lv' := [(2, .int p0), (0, .ref (q 0)), (1, .int p0)]) hx hb dX5_draw_1 rfl hl (by decide) rfl (fun ls hl => ?_)
  refine lv_iconst (v := 0) hx hb dX5_draw_2 (by decide) ?_
  refine lv_istore_n (lv' := [(3, .int (0 : Int32)), (2, .int p0), (0, .ref (q 0)), (1, .int p0)]) hx hb dX5_draw_3 rfl hl (by decide) rfl (fun ls hl => ?_)
  refine hw (fun (x1 : Int32) (x2 : Int32) (av3 : (Nat → Nat → Int32)) => ∀ (H : Heap) (locs : List Loc) (ls : Array Slot), va_P (dC, dI) vwCl ((W_P adK adV cI cB cS q qb n k f t av3 b sg) ++ va_pl sL (sgF sf)) H → va_D A ((W_P adK adV cI cB cS q qb n k f t av3 b sg) ++ va_pl sL (sgF sf)) → va_S A s.heap H locs → lv_has ls 4 [(0, .ref (q 0)), (2, .int x1), (3, .int x2)] → W p l e rmX5_draw s m args below meth c H locs 0 0 Q (F0 m 4 ls [])) ?_ H locs ls hP hD hS (lv_sub hl [2, 1, 0] rfl)
  · intro x1 x2 av3 hw H locs ls hP hD hS hl
    refine lv_iload_n hx hb dX5_draw_4 rfl (lv_at hl 2 rfl) ?_
    refine lv_aload_n hx hb dX5_draw_5 rfl (lv_at hl 0 rfl) ?_
    refine va_get (D := (dC, dI)) (ci := 7) (v := .int (nI n)) (C := RX5) (T := TX5) (N := 15) hx hb hts hiX5 hown hK hP 0 rfl rfl 0 (by decide) hf15 (fun _ h9 => h9) rfl dX5_draw_6 ?_
    refine lv_icmp_ge (tgt := 47) hx hb dX5_draw_9 (by decide) (fun hc5 => ?_) (fun hc5 => ?_)
    · replace hw := hw.1 hc5
      refine lv_aload_n hx hb dX5_draw_47 rfl (lv_at hl 0 rfl) ?_
      refine lv_aload_n hx hb dX5_draw_48 rfl (lv_at hl 0 rfl) ?_
      refine va_get (D := (dC, dI)) (ci := 7) (v := .ref (q 14)) (C := RX5) (T := TX5) (N := 15) hx hb hts hiX5 hown hK hP 0 rfl rfl 8 (by decide) hf41 (fun _ h9 => h9) rfl dX5_draw_49 ?_
      refine g_cv (g_J.poolP (W2 := fun u6 : ((Nat → Nat → Int32)) => (W_P adK adV cI cB cS q qb n k f t u6 b sg)) (pl := va_pl sL (sgF sf)) (PL := fun u6 : ((Nat → Nat → Int32)) => va_pl sL (sgF sf)) (RX := fun u6 : ((Nat → Nat → Int32)) => (W_P adK adV cI cB cS q qb n k f t u6 b sg)) [] [0, 1, 2, 3, 4, 5, 6, 7, 8, 9, 10, 11, 12, 13, 14, 15, 16, 17, 18, 19, 20, 21, 22, 23, 24, 25, 26] [] [0, 1, 2, 3, 4, 5, 6, 7, 8, 9, 10, 11, 12, 13, 14, 15, 16, 17, 18, 19, 20, 21, 22, 23, 24, 25, 26] rfl (by decide) rfl (by decide) (by decide) (fun _ => rfl) (by decide)) [0, 1, 2] hK hP hD hS hA rfl (fun hPc hDc hKc hFc => va_runV (As := [.ref (q 14)]) (rest := []) ⟨hx, hb, hml, hown, hts⟩ (t_X5_raise_g l dC dI adK adV cI cB cS q qb n k H.size f t av3 b sg sL sf  _ hw) (cwV 1 hts gX5_draw_X5_raise rfl rfl rfl (by decide +kernel) ⟨Nat.le_of_ble_eq_true rfl, Nat.le_of_ble_eq_true rfl⟩) (g_pV czb (q0 := 0) rfl rfl hPc hDc hKc (czc hZ hS hFc)) rfl rfl hl.1 rfl (lv_room (Nat.le_of_ble_eq_true rfl)) dX5_draw_52 ⟨Nat.le_of_ble_eq_true rfl, Nat.le_of_ble_eq_true rfl⟩) (fun u6 H locs hw hP hD hS => ?_)
      replace hP : va_P (dC, dI) vwCl ((W_P adK adV cI cB cS q qb n k f t u6 b sg) ++ va_pl sL (sgF sf)) H := hP
      replace hD : va_D A ((W_P adK adV cI cB cS q qb n k f t u6 b sg) ++ va_pl sL (sgF sf)) := hD
      refine lv_iload_n hx hb dX5_draw_55 rfl (lv_at hl 1 rfl) ?_
      exact hret dX5_draw_56 hK hP hD hS hw
    · replace hw := hw.2 hc5
      refine lv_ldc2 hx hb hown kc217 dX5_draw_12 ?_
      refine lv_iload_n hx hb dX5_draw_15 rfl (lv_at hl 1 rfl) ?_
      refine lv_i2l hx hb dX5_draw_16 rfl ?_
      refine lv_lmul hx hb dX5_draw_17 ?_
      refine lv_ldc2 hx hb hown kc219 dX5_draw_18 ?_
      refine lv_ladd hx hb dX5_draw_21 ?_
      refine lv_ldc2 hx hb hown kc223 dX5_draw_22 ?_
      refine lv_land hx hb dX5_draw_25 ?_
      refine lv_l2i hx hb dX5_draw_26 rfl ?_
      refine lv_topi (fun x7 ex7 => ?_)
      replace hw := hw x7 ex7
      refine lv_istore_n (lv' := [(2, .int x7), (0, .ref (q 0)), (3, .int x2)]) hx hb dX5_draw_27 rfl hl (by decide) rfl (fun ls hl => ?_)
      refine lv_aload_n hx hb dX5_draw_28 rfl (lv_at hl 1 rfl) ?_
      refine va_get (D := (dC, dI)) (ci := 7) (v := .ref (q 14)) (C := RX5) (T := TX5) (N := 15) hx hb hts hiX5 hown hK hP 0 rfl rfl 8 (by decide) hf41 (fun _ h9 => h9) rfl dX5_draw_29 ?_
      refine lv_iload_n hx hb dX5_draw_32 rfl (lv_at hl 2 rfl) ?_
      refine lv_iload_n hx hb dX5_draw_33 rfl (lv_at hl 0 rfl) ?_
      refine lv_ldc hx hb hown kc225 dX5_draw_34 ?_
      refine lv_idiv hx hb dX5_draw_36 (by decide) ?_
      refine lv_bipush (v := 10) hx hb dX5_draw_37 (by decide) ?_
      refine lv_irem hx hb dX5_draw_39 (by decide) ?_
      refine lv_topi (fun x9 ex9 => ?_)
      replace hw := hw x9 ex9
      obtain ⟨hb8, hw⟩ := hw
      refine va_iast hx hb hK hP hD hS 14 0 rfl rfl hb8 dX5_draw_40 (fun H locs hP hD hS => ?_)
      replace hP : va_P (dC, dI) vwCl ((W_P adK adV cI cB cS q qb n k f t (va_up av3 6 (upd (av3 6) x2.toNatClampNeg x9)) b sg) ++ va_pl sL (sgF sf)) H := hP
      replace hD : va_D A ((W_P adK adV cI cB cS q qb n k f t (va_up av3 6 (upd (av3 6) x2.toNatClampNeg x9)) b sg) ++ va_pl sL (sgF sf)) := hD
      obtain ⟨x10, ex10⟩ : ∃ y : Int32, y = x2 + (1 : Int32) := ⟨_, rfl⟩
      replace hw := hw x10 ex10
      refine lv_iinc (v := x10) (lv' := [(3, .int x10), (2, .int x7), (0, .ref (q 0))]) hx hb dX5_draw_41 hl (k := 2) rfl (by rw [ex10]; rfl) (by decide) rfl (fun ls hl => ?_)
      refine lv_goto (tgt := 4) hx hb dX5_draw_44 (by decide) ?_
      exact hw H locs ls hP hD hS (lv_sub hl [2, 1, 0] rfl)

def w_J3_checkIndex_8e157_n  (p0 : Int32) (p1 : Int32) (Q : Int32 → Prop) : Prop := ∀ J1 : Prop, ((False) → J1) → (((p0 < 0) → J1) ∧ (¬ (p0 < 0) → (((p0 < p1) → Q p0) ∧ (¬ (p0 < p1) → J1))))
abbrev rmJ3_checkIndex_8e157_n : Room := { frames := 0, cells := 0, slots := 0, locals := 0 }
set_option maxHeartbeats 4000000 in
set_option maxRecDepth 100000 in
theorem t_J3_checkIndex_8e157_n (l : Launch)   (p0 : Int32) (p1 : Int32) (Q0 : Int32 → Prop) (hw : w_J3_checkIndex_8e157_n  p0 p1 Q0) : Met l yJ3_checkIndex_8e157 wsJ3_checkIndex_8e157 rmJ3_checkIndex_8e157_n (g_pr0 [.int p0, .int p1, .null]) (vp_Si Q0) 0 0 (fun _ => False) := by
  refine g_start0i (by decide) rfl (Nat.le_of_ble_eq_true rfl) ?_
  intro p e s m args below meth c Q H ls hx hb hml hown hts hret hl
  replace hl : lv_has ls 3 [(0, .int p0), (1, .int p1), (2, .null)] := hl
  unfold w_J3_checkIndex_8e157_n at hw
  refine lv_iload_n hx hb dJ3_checkIndex_8e157_0 rfl (lv_at hl 0 rfl) ?_
  replace hw := hw (∀ (ls : Array Slot), lv_has ls 3 [(0, .int p0), (1, .int p1), (2, .null)] → W p l e rmJ3_checkIndex_8e157_n s m args below meth c H [] 0 0 Q (F0 m 9 ls [])) (by
    intro hw ls hl
    exact hw.elim)
  refine lv_if_lt (tgt := 9) hx hb dJ3_checkIndex_8e157_1 (by decide) (fun hc2 => ?_) (fun hc2 => ?_)
  · replace hw := hw.1 hc2
    exact hw ls (lv_sub hl [0, 1, 2] rfl)
  · replace hw := hw.2 hc2
    refine lv_iload_n hx hb dJ3_checkIndex_8e157_4 rfl (lv_at hl 0 rfl) ?_
    refine lv_iload_n hx hb dJ3_checkIndex_8e157_5 rfl (lv_at hl 1 rfl) ?_
    refine lv_icmp_lt (tgt := 16) hx hb dJ3_checkIndex_8e157_6 (by decide) (fun hc3 => ?_) (fun hc3 => ?_)
    · replace hw := hw.1 hc3
      refine lv_iload_n hx hb dJ3_checkIndex_8e157_16 rfl (lv_at hl 0 rfl) ?_
      exact hret dJ3_checkIndex_8e157_17 hw
    · replace hw := hw.2 hc3
      exact hw ls (lv_sub hl [0, 1, 2] rfl)

def w_J3_checkIndex_8e157_r  (p0 : Int32) (p1 : Int32) (Q : Int32 → Prop) : Prop := ∀ J1 : Prop, ((False) → J1) → (((p0 < 0) → J1) ∧ (¬ (p0 < 0) → (((p0 < p1) → Q p0) ∧ (¬ (p0 < p1) → J1))))
abbrev rmJ3_checkIndex_8e157_r : Room := { frames := 0, cells := 0, slots := 0, locals := 0 }
set_option maxHeartbeats 4000000 in
set_option maxRecDepth 100000 in
theorem t_J3_checkIndex_8e157_r (l : Launch)  (t9 : Nat) (p0 : Int32) (p1 : Int32) (Q0 : Int32 → Prop) (hw : w_J3_checkIndex_8e157_r  p0 p1 Q0) : Met l yJ3_checkIndex_8e157 wsJ3_checkIndex_8e157 rmJ3_checkIndex_8e157_r (g_pr0 [.int p0, .int p1, .ref t9]) (vp_Si Q0) 0 0 (fun _ => False) := by
  refine g_start0i (by decide) rfl (Nat.le_of_ble_eq_true rfl) ?_
  intro p e s m args below meth c Q H ls hx hb hml hown hts hret hl
  replace hl : lv_has ls 3 [(0, .int p0), (1, .int p1), (2, .ref t9)] := hl
  unfold w_J3_checkIndex_8e157_r at hw
  refine lv_iload_n hx hb dJ3_checkIndex_8e157_0 rfl (lv_at hl 0 rfl) ?_
  replace hw := hw (∀ (ls : Array Slot), lv_has ls 3 [(0, .int p0), (1, .int p1), (2, .ref t9)] → W p l e rmJ3_checkIndex_8e157_r s m args below meth c H [] 0 0 Q (F0 m 9 ls [])) (by
    intro hw ls hl
    exact hw.elim)
  refine lv_if_lt (tgt := 9) hx hb dJ3_checkIndex_8e157_1 (by decide) (fun hc2 => ?_) (fun hc2 => ?_)
  · replace hw := hw.1 hc2
    exact hw ls (lv_sub hl [0, 1, 2] rfl)
  · replace hw := hw.2 hc2
    refine lv_iload_n hx hb dJ3_checkIndex_8e157_4 rfl (lv_at hl 0 rfl) ?_
    refine lv_iload_n hx hb dJ3_checkIndex_8e157_5 rfl (lv_at hl 1 rfl) ?_
    refine lv_icmp_lt (tgt := 16) hx hb dJ3_checkIndex_8e157_6 (by decide) (fun hc3 => ?_) (fun hc3 => ?_)
    · replace hw := hw.1 hc3
      refine lv_iload_n hx hb dJ3_checkIndex_8e157_16 rfl (lv_at hl 0 rfl) ?_
      exact hret dJ3_checkIndex_8e157_17 hw
    · replace hw := hw.2 hc3
      exact hw ls (lv_sub hl [0, 1, 2] rfl)

def w_J0_checkIndex_df160    (p0 : Int32) (p1 : Int32) (Q : Unit → Prop) : Prop := ((w_J3_checkIndex_8e157_n p0 p1 (fun (r2 : Int32) => Q ())) ∧ (w_J3_checkIndex_8e157_r p0 p1 (fun (r3 : Int32) => Q ())))
abbrev rmJ0_checkIndex_df160 : Room := { frames := 1, cells := 0, slots := 0, locals := 22 }
set_option maxHeartbeats 4000000 in
set_option maxRecDepth 100000 in
theorem t_J0_checkIndex_df160 (l : Launch) (dC : Nat → ClassId) (dI : Nat → Nat → Nat) (adK : Nat → Nat) (adV : Nat → Nat) (sz : Nat)    (p0 : Int32) (p1 : Int32) (Q0 : Unit → Prop) (hw : w_J0_checkIndex_df160    p0 p1 Q0) : Met l yJ0_checkIndex_df160 wsJ0_checkIndex_df160 rmJ0_checkIndex_df160 (g_pre (cz adK adV) (dC, dI) vwCl [] (W_Z adK adV ) sz [.int p0, .int p1]) (g_qv (dC, dI) vwCl [] (fun u : Unit => (W_Z adK adV )) Q0 (va_A (W_Z adK adV ) sz)) 0 0 (va_A (W_Z adK adV ) sz) := by
  refine g_startv (by decide) rfl (Nat.le_of_ble_eq_true rfl) ?_
  intro p e s m args below meth c A Q ls hx hb hml hown hts hin hK hP hD hA hS hZ hret hl
  obtain ⟨H, eH⟩ : ∃ H : Heap, H = s.heap := ⟨_, rfl⟩
  obtain ⟨locs, eL⟩ : ∃ L : List Loc, L = [] := ⟨_, rfl⟩
  have hS : va_S A s.heap H locs := by rw [eH, eL]; exact hS
  rw [← eH] at hP
  suffices hg : W p l e rmJ0_checkIndex_df160 s m args below meth c H locs 0 0 Q (F0 m 0 ls []) by rw [eH, eL] at hg; exact hg
  clear eH eL
  replace hl : lv_has ls 2 [(0, .int p0), (1, .int p1)] := hl
  have hf1053 := hts (.fieldLink RJ0 1053 "jdk/internal/util/Preconditions" "SIOOBE_FORMATTER" "Ljava/util/function/BiFunction;") (by decide +kernel)
  unfold w_J0_checkIndex_df160 at hw
  refine lv_iload_n hx hb dJ0_checkIndex_df160_0 rfl (lv_at hl 0 rfl) ?_
  refine lv_iload_n hx hb dJ0_checkIndex_df160_1 rfl (lv_at hl 1 rfl) ?_
  rcases hZ.2.2.2.2.2.2.1 with hq9 | ⟨t1, hq9⟩
  · refine va_gets hx hb (v := .null) hq9 hS hown hf1053 (fun _ h9 => h9) dJ0_checkIndex_df160_2 ?_
    replace hw := hw.1
    refine g_c0 (rest := []) (va_runS (As := [.int p0, .int p1, .null]) (rest := []) ⟨hx, hb, hml, hown, hts⟩ (t_J3_checkIndex_8e157_n l  p0 p1 _ hw) (va_cwS 3 hts gJ0_checkIndex_df160_J3_checkIndex_8e157 rfl rfl rfl (by decide +kernel) ⟨Nat.le_of_ble_eq_true rfl, Nat.le_of_ble_eq_true rfl⟩) g_p0S rfl rfl hl.1 rfl (lv_room (Nat.le_of_ble_eq_true rfl)) dJ0_checkIndex_df160_5 ⟨Nat.le_of_ble_eq_true rfl, Nat.le_of_ble_eq_true rfl⟩) (fun r2 hw => ?_)
    refine lv_pop hx hb dJ0_checkIndex_df160_8 rfl ?_
    exact hret dJ0_checkIndex_df160_9 hK hP hD hS hw
  · refine va_gets hx hb (v := .ref t1) hq9 hS hown hf1053 (fun _ h9 => h9) dJ0_checkIndex_df160_2 ?_
    replace hw := hw.2
    refine g_c0 (rest := []) (va_runS (As := [.int p0, .int p1, .ref t1]) (rest := []) ⟨hx, hb, hml, hown, hts⟩ (t_J3_checkIndex_8e157_r l t1 p0 p1 _ hw) (va_cwS 3 hts gJ0_checkIndex_df160_J3_checkIndex_8e157 rfl rfl rfl (by decide +kernel) ⟨Nat.le_of_ble_eq_true rfl, Nat.le_of_ble_eq_true rfl⟩) g_p0S rfl rfl hl.1 rfl (lv_room (Nat.le_of_ble_eq_true rfl)) dJ0_checkIndex_df160_5 ⟨Nat.le_of_ble_eq_true rfl, Nat.le_of_ble_eq_true rfl⟩) (fun r3 hw => ?_)
    refine lv_pop hx hb dJ0_checkIndex_df160_8 rfl ?_
    exact hret dJ0_checkIndex_df160_9 hK hP hD hS hw

def w_J1_canEncode_9a6ad  (p0 : Int32) (Q : Int32 → Prop) : Prop := (((p0 < 0) → Q (0 : Int32)) ∧ (¬ (p0 < 0) → ((((255 : Int32) < p0) → Q (0 : Int32)) ∧ (¬ ((255 : Int32) < p0) → Q (1 : Int32)))))
abbrev rmJ1_canEncode_9a6ad : Room := { frames := 0, cells := 0, slots := 0, locals := 0 }
set_option maxHeartbeats 4000000 in
set_option maxRecDepth 100000 in
theorem t_J1_canEncode_9a6ad (l : Launch)   (p0 : Int32) (Q0 : Int32 → Prop) (hw : w_J1_canEncode_9a6ad  p0 Q0) : Met l yJ1_canEncode_9a6ad wsJ1_canEncode_9a6ad rmJ1_canEncode_9a6ad (g_pr0 [.int p0]) (vp_Si Q0) 0 0 (fun _ => False) := by
  refine g_start0z (by decide) rfl (Nat.le_of_ble_eq_true rfl) ?_
  intro p e s m args below meth c Q H ls hx hb hml hown hts hret hl
  replace hl : lv_has ls 1 [(0, .int p0)] := hl
  unfold w_J1_canEncode_9a6ad at hw
  refine lv_iload_n hx hb dJ1_canEncode_9a6ad_0 rfl (lv_at hl 0 rfl) ?_
  refine lv_if_lt (tgt := 15) hx hb dJ1_canEncode_9a6ad_1 (by decide) (fun hc1 => ?_) (fun hc1 => ?_)
  · replace hw := hw.1 hc1
    refine lv_iconst (v := 0) hx hb dJ1_canEncode_9a6ad_15 (by decide) ?_
    exact hret dJ1_canEncode_9a6ad_16 isB_0 hw
  · replace hw := hw.2 hc1
    refine lv_iload_n hx hb dJ1_canEncode_9a6ad_4 rfl (lv_at hl 0 rfl) ?_
    refine lv_sipush (v := 255) hx hb dJ1_canEncode_9a6ad_5 (by decide) ?_
    refine lv_icmp_gt (tgt := 15) hx hb dJ1_canEncode_9a6ad_8 (by decide) (fun hc2 => ?_) (fun hc2 => ?_)
    · replace hw := hw.1 hc2
      refine lv_iconst (v := 0) hx hb dJ1_canEncode_9a6ad_15 (by decide) ?_
      exact hret dJ1_canEncode_9a6ad_16 isB_0 hw
    · replace hw := hw.2 hc2
      refine lv_iconst (v := 1) hx hb dJ1_canEncode_9a6ad_11 (by decide) ?_
      refine lv_goto (tgt := 16) hx hb dJ1_canEncode_9a6ad_12 (by decide) ?_
      exact hret dJ1_canEncode_9a6ad_16 isB_1 hw

def w_J0_coder_7d493 (sm : Nat) (sb : Nat → Int32)    (Q : Int32 → Unit → Prop) : Prop := ((((1 : Int32) = 0) → Q (1 : Int32) ()) ∧ (¬ ((1 : Int32) = 0) → Q (0 : Int32) ()))
abbrev rmJ0_coder_7d493 : Room := { frames := 0, cells := 0, slots := 0, locals := 0 }
set_option maxHeartbeats 4000000 in
set_option maxRecDepth 100000 in
theorem t_J0_coder_7d493 (l : Launch) (dC : Nat → ClassId) (dI : Nat → Nat → Nat) (adK : Nat → Nat) (adV : Nat → Nat) (sq : Nat) (sv : Nat) (sm : Nat) (sb : Nat → Int32) (sz : Nat)     (Q0 : Int32 → Unit → Prop) (hw : w_J0_coder_7d493 sm sb    Q0) : Met l yJ0_coder_7d493 wsJ0_coder_7d493 rmJ0_coder_7d493 (g_pre (czs adK adV sq sv sm sb) (dC, dI) vwCl [] (W_S adK adV sq sv sm sb ) sz [.ref sq]) (g_qi (dC, dI) vwCl [] (fun u : Unit => (W_S adK adV sq sv sm sb )) Q0 (va_A (W_S adK adV sq sv sm sb ) sz)) 0 0 (va_A (W_S adK adV sq sv sm sb ) sz) := by
  refine g_startn (by decide) rfl (Nat.le_of_ble_eq_true rfl) ?_
  intro p e s m args below meth c A Q ls hx hb hml hown hts hin hK hP hD hA hS hZ hret hl
  obtain ⟨H, eH⟩ : ∃ H : Heap, H = s.heap := ⟨_, rfl⟩
  obtain ⟨locs, eL⟩ : ∃ L : List Loc, L = [] := ⟨_, rfl⟩
  have hS : va_S A s.heap H locs := by rw [eH, eL]; exact hS
  rw [← eH] at hP
  suffices hg : W p l e rmJ0_coder_7d493 s m args below meth c H locs 0 0 Q (F0 m 0 ls []) by rw [eH, eL] at hg; exact hg
  clear eH eL
  replace hl : lv_has ls 1 [(0, .ref sq)] := hl
  have hf38 := hts (.fieldLink RJ0 38 "java/lang/String" "COMPACT_STRINGS" "Z") (by decide +kernel)
  have hf15 := hts (.fieldLink RJ0 15 "java/lang/String" "coder" "B") (by decide +kernel)
  unfold w_J0_coder_7d493 at hw
  refine va_gets hx hb (v := .int 1) (hZ.1.2.2.2.2.2.1 _ (List.mem_of_getElem? (i := 0) rfl)) hS hown hf38 (fun _ h9 => h9) dJ0_coder_7d493_0 ?_
  refine lv_if_eq (tgt := 13) hx hb dJ0_coder_7d493_3 (by decide) (fun hc1 => ?_) (fun hc1 => ?_)
  · replace hw := hw.1 hc1
    refine lv_iconst (v := 1) hx hb dJ0_coder_7d493_13 (by decide) ?_
    exact hret dJ0_coder_7d493_14 hK hP hD hS rfl hw
  · replace hw := hw.2 hc1
    refine lv_aload_n hx hb dJ0_coder_7d493_6 rfl (lv_at hl 0 rfl) ?_
    refine vk_getf hx hb (v := .int (0 : Int32)) hZ.2.2.1 hS hown hf15 (fun _ h9 => h9) dJ0_coder_7d493_7 ?_
    refine lv_goto (tgt := 14) hx hb dJ0_coder_7d493_10 (by decide) ?_
    exact hret dJ0_coder_7d493_14 hK hP hD hS rfl hw

def w_J0_isLatin1_aae02 (sm : Nat) (sb : Nat → Int32)    (Q : Int32 → Unit → Prop) : Prop := ((((1 : Int32) = 0) → Q (0 : Int32) ()) ∧ (¬ ((1 : Int32) = 0) → (((¬ (0 : Int32) = 0) → Q (0 : Int32) ()) ∧ ((0 : Int32) = 0 → Q (1 : Int32) ()))))
abbrev rmJ0_isLatin1_aae02 : Room := { frames := 0, cells := 0, slots := 0, locals := 0 }
set_option maxHeartbeats 4000000 in
set_option maxRecDepth 100000 in
theorem t_J0_isLatin1_aae02 (l : Launch) (dC : Nat → ClassId) (dI : Nat → Nat → Nat) (adK : Nat → Nat) (adV : Nat → Nat) (sq : Nat) (sv : Nat) (sm : Nat) (sb : Nat → Int32) (sz : Nat)     (Q0 : Int32 → Unit → Prop) (hw : w_J0_isLatin1_aae02 sm sb    Q0) : Met l yJ0_isLatin1_aae02 wsJ0_isLatin1_aae02 rmJ0_isLatin1_aae02 (g_pre (czs adK adV sq sv sm sb) (dC, dI) vwCl [] (W_S adK adV sq sv sm sb ) sz [.ref sq]) (g_qi (dC, dI) vwCl [] (fun u : Unit => (W_S adK adV sq sv sm sb )) Q0 (va_A (W_S adK adV sq sv sm sb ) sz)) 0 0 (va_A (W_S adK adV sq sv sm sb ) sz) := by
  refine g_startz (by decide) rfl (Nat.le_of_ble_eq_true rfl) ?_
  intro p e s m args below meth c A Q ls hx hb hml hown hts hin hK hP hD hA hS hZ hret hl
  obtain ⟨H, eH⟩ : ∃ H : Heap, H = s.heap := ⟨_, rfl⟩
  obtain ⟨locs, eL⟩ : ∃ L : List Loc, L = [] := ⟨_, rfl⟩
  have hS : va_S A s.heap H locs := by rw [eH, eL]; exact hS
  rw [← eH] at hP
  suffices hg : W p l e rmJ0_isLatin1_aae02 s m args below meth c H locs 0 0 Q (F0 m 0 ls []) by rw [eH, eL] at hg; exact hg
  clear eH eL
  replace hl : lv_has ls 1 [(0, .ref sq)] := hl
  have hf38 := hts (.fieldLink RJ0 38 "java/lang/String" "COMPACT_STRINGS" "Z") (by decide +kernel)
  have hf15 := hts (.fieldLink RJ0 15 "java/lang/String" "coder" "B") (by decide +kernel)
  unfold w_J0_isLatin1_aae02 at hw
  refine va_gets hx hb (v := .int 1) (hZ.1.2.2.2.2.2.1 _ (List.mem_of_getElem? (i := 0) rfl)) hS hown hf38 (fun _ h9 => h9) dJ0_isLatin1_aae02_0 ?_
  refine lv_if_eq (tgt := 17) hx hb dJ0_isLatin1_aae02_3 (by decide) (fun hc1 => ?_) (fun hc1 => ?_)
  · replace hw := hw.1 hc1
    refine lv_iconst (v := 0) hx hb dJ0_isLatin1_aae02_17 (by decide) ?_
    exact hret dJ0_isLatin1_aae02_18 hK hP hD hS isB_0 hw
  · replace hw := hw.2 hc1
    refine lv_aload_n hx hb dJ0_isLatin1_aae02_6 rfl (lv_at hl 0 rfl) ?_
    refine vk_getf hx hb (v := .int (0 : Int32)) hZ.2.2.1 hS hown hf15 (fun _ h9 => h9) dJ0_isLatin1_aae02_7 ?_
    refine lv_if_ne (tgt := 17) hx hb dJ0_isLatin1_aae02_10 (by decide) (fun hc2 => ?_) (fun hc2 => ?_)
    · replace hw := hw.1 hc2
      refine lv_iconst (v := 0) hx hb dJ0_isLatin1_aae02_17 (by decide) ?_
      exact hret dJ0_isLatin1_aae02_18 hK hP hD hS isB_0 hw
    · replace hw := hw.2 hc2
      refine lv_iconst (v := 1) hx hb dJ0_isLatin1_aae02_13 (by decide) ?_
      refine lv_goto (tgt := 18) hx hb dJ0_isLatin1_aae02_14 (by decide) ?_
      exact hret dJ0_isLatin1_aae02_18 hK hP hD hS isB_1 hw

def w_J0_length_8abf5 (sm : Nat) (sb : Nat → Int32)    (Q : Int32 → Unit → Prop) : Prop := w_J0_coder_7d493 sm sb   (fun (r2 : Int32) (u1 : Unit) => Q ((nI sm) >>> (r2 &&& 31)) ())
abbrev rmJ0_length_8abf5 : Room := { frames := 1, cells := 0, slots := 0, locals := 20 }
set_option maxHeartbeats 4000000 in
set_option maxRecDepth 100000 in
theorem t_J0_length_8abf5 (l : Launch) (dC : Nat → ClassId) (dI : Nat → Nat → Nat) (adK : Nat → Nat) (adV : Nat → Nat) (sq : Nat) (sv : Nat) (sm : Nat) (sb : Nat → Int32) (sz : Nat)     (Q0 : Int32 → Unit → Prop) (hw : w_J0_length_8abf5 sm sb    Q0) : Met l yJ0_length_8abf5 wsJ0_length_8abf5 rmJ0_length_8abf5 (g_pre (czs adK adV sq sv sm sb) (dC, dI) vwCl [] (W_S adK adV sq sv sm sb ) sz [.ref sq]) (g_qi (dC, dI) vwCl [] (fun u : Unit => (W_S adK adV sq sv sm sb )) Q0 (va_A (W_S adK adV sq sv sm sb ) sz)) 0 0 (va_A (W_S adK adV sq sv sm sb ) sz) := by
  refine g_starti (by decide) rfl (Nat.le_of_ble_eq_true rfl) ?_
  intro p e s m args below meth c A Q ls hx hb hml hown hts hin hK hP hD hA hS hZ hret hl
  obtain ⟨H, eH⟩ : ∃ H : Heap, H = s.heap := ⟨_, rfl⟩
  obtain ⟨locs, eL⟩ : ∃ L : List Loc, L = [] := ⟨_, rfl⟩
  have hS : va_S A s.heap H locs := by rw [eH, eL]; exact hS
  rw [← eH] at hP
  suffices hg : W p l e rmJ0_length_8abf5 s m args below meth c H locs 0 0 Q (F0 m 0 ls []) by rw [eH, eL] at hg; exact hg
  clear eH eL
  replace hl : lv_has ls 1 [(0, .ref sq)] := hl
  have hf9 := hts (.fieldLink RJ0 9 "java/lang/String" "value" "[B") (by decide +kernel)
  unfold w_J0_length_8abf5 at hw
  refine lv_aload_n hx hb dJ0_length_8abf5_0 rfl (lv_at hl 0 rfl) ?_
  refine vk_getf hx hb (v := .ref sv) hZ.2.2.2.1 hS hown hf9 (fun _ h9 => h9) dJ0_length_8abf5_1 ?_
  refine va_tlen hx hb hZ.2.2.2.2 hS (v := nI sm) rfl dJ0_length_8abf5_4 ?_
  refine lv_aload_n hx hb dJ0_length_8abf5_5 rfl (lv_at hl 0 rfl) ?_
  refine g_ci (g_J.plain (W2 := fun u1 : Unit => (W_S adK adV sq sv sm sb )) [] [] [] [] rfl (by decide) rfl (by decide) (by decide) (fun _ => rfl) (by decide)) [] hK hP hD hS hA rfl (fun hPc hDc hKc hFc => va_runV (As := []) (rest := [.int (nI sm)]) ⟨hx, hb, hml, hown, hts⟩ (t_J0_coder_7d493 l dC dI adK adV sq sv sm sb H.size    _ hw) (cwV 0 hts gJ0_length_8abf5_J0_coder_7d493 rfl rfl rfl (by decide +kernel) ⟨Nat.le_of_ble_eq_true rfl, Nat.le_of_ble_eq_true rfl⟩) (g_pVs czsb hZ.2 hS hPc hDc hKc (czsc hZ hS hFc)) rfl rfl hl.1 rfl (lv_room (Nat.le_of_ble_eq_true rfl)) dJ0_length_8abf5_6 ⟨Nat.le_of_ble_eq_true rfl, Nat.le_of_ble_eq_true rfl⟩) (fun r2 u1 H locs hw hP hD hS => ?_)
  replace hP : va_P (dC, dI) vwCl (W_S adK adV sq sv sm sb ) H := hP
  replace hD : va_D A (W_S adK adV sq sv sm sb ) := hD
  refine lv_ishr hx hb dJ0_length_8abf5_9 ?_
  exact hret dJ0_length_8abf5_10 hK hP hD hS hw

def w_J0_isEmpty_aae02 (sm : Nat) (sb : Nat → Int32)    (Q : Int32 → Unit → Prop) : Prop := (((¬ (nI sm) = 0) → Q (0 : Int32) ()) ∧ ((nI sm) = 0 → Q (1 : Int32) ()))
abbrev rmJ0_isEmpty_aae02 : Room := { frames := 0, cells := 0, slots := 0, locals := 0 }
set_option maxHeartbeats 4000000 in
set_option maxRecDepth 100000 in
theorem t_J0_isEmpty_aae02 (l : Launch) (dC : Nat → ClassId) (dI : Nat → Nat → Nat) (adK : Nat → Nat) (adV : Nat → Nat) (sq : Nat) (sv : Nat) (sm : Nat) (sb : Nat → Int32) (sz : Nat)     (Q0 : Int32 → Unit → Prop) (hw : w_J0_isEmpty_aae02 sm sb    Q0) : Met l yJ0_isEmpty_aae02 wsJ0_isEmpty_aae02 rmJ0_isEmpty_aae02 (g_pre (czs adK adV sq sv sm sb) (dC, dI) vwCl [] (W_S adK adV sq sv sm sb ) sz [.ref sq]) (g_qi (dC, dI) vwCl [] (fun u : Unit => (W_S adK adV sq sv sm sb )) Q0 (va_A (W_S adK adV sq sv sm sb ) sz)) 0 0 (va_A (W_S adK adV sq sv sm sb ) sz) := by
  refine g_startz (by decide) rfl (Nat.le_of_ble_eq_true rfl) ?_
  intro p e s m args below meth c A Q ls hx hb hml hown hts hin hK hP hD hA hS hZ hret hl
  obtain ⟨H, eH⟩ : ∃ H : Heap, H = s.heap := ⟨_, rfl⟩
  obtain ⟨locs, eL⟩ : ∃ L : List Loc, L = [] := ⟨_, rfl⟩
  have hS : va_S A s.heap H locs := by rw [eH, eL]; exact hS
  rw [← eH] at hP
  suffices hg : W p l e rmJ0_isEmpty_aae02 s m args below meth c H locs 0 0 Q (F0 m 0 ls []) by rw [eH, eL] at hg; exact hg
  clear eH eL
  replace hl : lv_has ls 1 [(0, .ref sq)] := hl
  have hf9 := hts (.fieldLink RJ0 9 "java/lang/String" "value" "[B") (by decide +kernel)
  unfold w_J0_isEmpty_aae02 at hw
  refine lv_aload_n hx hb dJ0_isEmpty_aae02_0 rfl (lv_at hl 0 rfl) ?_
  refine vk_getf hx hb (v := .ref sv) hZ.2.2.2.1 hS hown hf9 (fun _ h9 => h9) dJ0_isEmpty_aae02_1 ?_
  refine va_tlen hx hb hZ.2.2.2.2 hS (v := nI sm) rfl dJ0_isEmpty_aae02_4 ?_
  refine lv_if_ne (tgt := 12) hx hb dJ0_isEmpty_aae02_5 (by decide) (fun hc1 => ?_) (fun hc1 => ?_)
  · replace hw := hw.1 hc1
    refine lv_iconst (v := 0) hx hb dJ0_isEmpty_aae02_12 (by decide) ?_
    exact hret dJ0_isEmpty_aae02_13 hK hP hD hS isB_0 hw
  · replace hw := hw.2 hc1
    refine lv_iconst (v := 1) hx hb dJ0_isEmpty_aae02_8 (by decide) ?_
    refine lv_goto (tgt := 13) hx hb dJ0_isEmpty_aae02_9 (by decide) ?_
    exact hret dJ0_isEmpty_aae02_13 hK hP hD hS isB_1 hw

def w_J1_charAt_3b067 (sm : Nat) (sb : Nat → Int32)   (p1 : Int32) (Q : Int32 → Unit → Prop) : Prop := w_J0_checkIndex_df160   p1 (nI sm) (fun (u1 : Unit) => (vp_in p1 sm) ∧ (narrow .char (.int ((((sb p1.toNatClampNeg) &&& (255 : Int32)).toUInt32 % 65536).toInt32)) = .int ((((sb p1.toNatClampNeg) &&& (255 : Int32)).toUInt32 % 65536).toInt32)) ∧ Q ((((sb p1.toNatClampNeg) &&& (255 : Int32)).toUInt32 % 65536).toInt32) ())
abbrev rmJ1_charAt_3b067 : Room := { frames := 2, cells := 0, slots := 0, locals := 43 }
set_option maxHeartbeats 4000000 in
set_option maxRecDepth 100000 in
theorem t_J1_charAt_3b067 (l : Launch) (dC : Nat → ClassId) (dI : Nat → Nat → Nat) (adK : Nat → Nat) (adV : Nat → Nat) (sq : Nat) (sv : Nat) (sm : Nat) (sb : Nat → Int32) (sz : Nat)    (p1 : Int32) (Q0 : Int32 → Unit → Prop) (hw : w_J1_charAt_3b067 sm sb   p1 Q0) : Met l yJ1_charAt_3b067 wsJ1_charAt_3b067 rmJ1_charAt_3b067 (g_pre (czs adK adV sq sv sm sb) (dC, dI) vwCl [] (W_S adK adV sq sv sm sb ) sz [.ref sv, .int p1]) (g_qi (dC, dI) vwCl [] (fun u : Unit => (W_S adK adV sq sv sm sb )) Q0 (va_A (W_S adK adV sq sv sm sb ) sz)) 0 0 (va_A (W_S adK adV sq sv sm sb ) sz) := by
  refine g_startn (by decide) rfl (Nat.le_of_ble_eq_true rfl) ?_
  intro p e s m args below meth c A Q ls hx hb hml hown hts hin hK hP hD hA hS hZ hret hl
  obtain ⟨H, eH⟩ : ∃ H : Heap, H = s.heap := ⟨_, rfl⟩
  obtain ⟨locs, eL⟩ : ∃ L : List Loc, L = [] := ⟨_, rfl⟩
  have hS : va_S A s.heap H locs := by rw [eH, eL]; exact hS
  rw [← eH] at hP
  suffices hg : W p l e rmJ1_charAt_3b067 s m args below meth c H locs 0 0 Q (F0 m 0 ls []) by rw [eH, eL] at hg; exact hg
  clear eH eL
  replace hl : lv_has ls 2 [(0, .ref sv), (1, .int p1)] := hl
  unfold w_J1_charAt_3b067 at hw
  refine lv_iload_n hx hb dJ1_charAt_3b067_0 rfl (lv_at hl 1 rfl) ?_
  refine lv_aload_n hx hb dJ1_charAt_3b067_1 rfl (lv_at hl 0 rfl) ?_
  refine va_tlen hx hb hZ.2.2.2.2 hS (v := nI sm) rfl dJ1_charAt_3b067_2 ?_
  refine g_cv (g_J.plain (W2 := fun u1 : Unit => (W_S adK adV sq sv sm sb )) [] [] [] [] rfl (by decide) rfl (by decide) (by decide) (fun _ => rfl) (by decide)) [] hK hP hD hS hA rfl (fun hPc hDc hKc hFc => va_runS (As := [.int p1, .int (nI sm)]) (rest := []) ⟨hx, hb, hml, hown, hts⟩ (t_J0_checkIndex_df160 l dC dI adK adV H.size   p1 (nI sm) _ hw) (va_cwS 2 hts gJ1_charAt_3b067_J0_checkIndex_df160 rfl rfl rfl (by decide +kernel) ⟨Nat.le_of_ble_eq_true rfl, Nat.le_of_ble_eq_true rfl⟩) (g_pS czb hPc hDc hKc (czc hZ.1 hS hFc)) rfl rfl hl.1 rfl (lv_room (Nat.le_of_ble_eq_true rfl)) dJ1_charAt_3b067_3 ⟨Nat.le_of_ble_eq_true rfl, Nat.le_of_ble_eq_true rfl⟩) (fun u1 H locs hw hP hD hS => ?_)
  replace hP : va_P (dC, dI) vwCl (W_S adK adV sq sv sm sb ) H := hP
  replace hD : va_D A (W_S adK adV sq sv sm sb ) := hD
  refine lv_aload_n hx hb dJ1_charAt_3b067_6 rfl (lv_at hl 0 rfl) ?_
  refine lv_iload_n hx hb dJ1_charAt_3b067_7 rfl (lv_at hl 1 rfl) ?_
  obtain ⟨hb2, hw⟩ := hw
  refine va_tb hx hb hZ.2.2.2.2 hS hb2 (v := .int (sb p1.toNatClampNeg)) rfl dJ1_charAt_3b067_8 ?_
  refine lv_sipush (v := 255) hx hb dJ1_charAt_3b067_9 (by decide) ?_
  refine lv_iand hx hb dJ1_charAt_3b067_12 ?_
  refine lv_i2c hx hb dJ1_charAt_3b067_13 rfl ?_
  obtain ⟨hz, hw⟩ := hw
  exact hret dJ1_charAt_3b067_14 hK hP hD hS hz hw

def w_J0_charAt_5068e (sm : Nat) (sb : Nat → Int32)   (p0 : Int32) (Q : Int32 → Unit → Prop) : Prop := w_J0_isLatin1_aae02 sm sb   (fun (r2 : Int32) (u1 : Unit) => (((r2 = 0) → False) ∧ (¬ (r2 = 0) → w_J1_charAt_3b067 sm sb  p0 (fun (r5 : Int32) (u4 : Unit) => (narrow .char (.int r5) = .int r5) ∧ Q r5 ()))))
abbrev rmJ0_charAt_5068e : Room := { frames := 3, cells := 0, slots := 0, locals := 64 }
set_option maxHeartbeats 4000000 in
set_option maxRecDepth 100000 in
theorem t_J0_charAt_5068e (l : Launch) (dC : Nat → ClassId) (dI : Nat → Nat → Nat) (adK : Nat → Nat) (adV : Nat → Nat) (sq : Nat) (sv : Nat) (sm : Nat) (sb : Nat → Int32) (sz : Nat)    (p0 : Int32) (Q0 : Int32 → Unit → Prop) (hw : w_J0_charAt_5068e sm sb   p0 Q0) : Met l yJ0_charAt_5068e wsJ0_charAt_5068e rmJ0_charAt_5068e (g_pre (czs adK adV sq sv sm sb) (dC, dI) vwCl [] (W_S adK adV sq sv sm sb ) sz [.ref sq, .int p0]) (g_qi (dC, dI) vwCl [] (fun u : Unit => (W_S adK adV sq sv sm sb )) Q0 (va_A (W_S adK adV sq sv sm sb ) sz)) 0 0 (va_A (W_S adK adV sq sv sm sb ) sz) := by
  refine g_startn (by decide) rfl (Nat.le_of_ble_eq_true rfl) ?_
  intro p e s m args below meth c A Q ls hx hb hml hown hts hin hK hP hD hA hS hZ hret hl
  obtain ⟨H, eH⟩ : ∃ H : Heap, H = s.heap := ⟨_, rfl⟩
  obtain ⟨locs, eL⟩ : ∃ L : List Loc, L = [] := ⟨_, rfl⟩
  have hS : va_S A s.heap H locs := by rw [eH, eL]; exact hS
  rw [← eH] at hP
  suffices hg : W p l e rmJ0_charAt_5068e s m args below meth c H locs 0 0 Q (F0 m 0 ls []) by rw [eH, eL] at hg; exact hg
  clear eH eL
  replace hl : lv_has ls 2 [(0, .ref sq), (1, .int p0)] := hl
  have hf9 := hts (.fieldLink RJ0 9 "java/lang/String" "value" "[B") (by decide +kernel)
  unfold w_J0_charAt_5068e at hw
  refine lv_aload_n hx hb dJ0_charAt_5068e_0 rfl (lv_at hl 0 rfl) ?_
  refine g_ci (g_J.plain (W2 := fun u1 : Unit => (W_S adK adV sq sv sm sb )) [] [] [] [] rfl (by decide) rfl (by decide) (by decide) (fun _ => rfl) (by decide)) [] hK hP hD hS hA rfl (fun hPc hDc hKc hFc => va_runV (As := []) (rest := []) ⟨hx, hb, hml, hown, hts⟩ (t_J0_isLatin1_aae02 l dC dI adK adV sq sv sm sb H.size    _ hw) (cwV 0 hts gJ0_charAt_5068e_J0_isLatin1_aae02 rfl rfl rfl (by decide +kernel) ⟨Nat.le_of_ble_eq_true rfl, Nat.le_of_ble_eq_true rfl⟩) (g_pVs czsb hZ.2 hS hPc hDc hKc (czsc hZ hS hFc)) rfl rfl hl.1 rfl (lv_room (Nat.le_of_ble_eq_true rfl)) dJ0_charAt_5068e_1 ⟨Nat.le_of_ble_eq_true rfl, Nat.le_of_ble_eq_true rfl⟩) (fun r2 u1 H locs hw hP hD hS => ?_)
  replace hP : va_P (dC, dI) vwCl (W_S adK adV sq sv sm sb ) H := hP
  replace hD : va_D A (W_S adK adV sq sv sm sb ) := hD
  refine lv_if_eq (tgt := 16) hx hb dJ0_charAt_5068e_4 (by decide) (fun hc3 => ?_) (fun hc3 => ?_)
  · replace hw := hw.1 hc3
    refine lv_aload_n hx hb dJ0_charAt_5068e_16 rfl (lv_at hl 0 rfl) ?_
    refine vk_getf hx hb (v := .ref sv) hZ.2.2.2.1 hS hown hf9 (fun _ h9 => h9) dJ0_charAt_5068e_17 ?_
    refine lv_iload_n hx hb dJ0_charAt_5068e_20 rfl (lv_at hl 1 rfl) ?_
    exact hw.elim
  · replace hw := hw.2 hc3
    refine lv_aload_n hx hb dJ0_charAt_5068e_7 rfl (lv_at hl 0 rfl) ?_
    refine vk_getf hx hb (v := .ref sv) hZ.2.2.2.1 hS hown hf9 (fun _ h9 => h9) dJ0_charAt_5068e_8 ?_
    refine lv_iload_n hx hb dJ0_charAt_5068e_11 rfl (lv_at hl 1 rfl) ?_
    refine g_ci (g_J.plain (W2 := fun u4 : Unit => (W_S adK adV sq sv sm sb )) [] [] [] [] rfl (by decide) rfl (by decide) (by decide) (fun _ => rfl) (by decide)) [] hK hP hD hS hA rfl (fun hPc hDc hKc hFc => va_runS (As := [.ref sv, .int p0]) (rest := []) ⟨hx, hb, hml, hown, hts⟩ (t_J1_charAt_3b067 l dC dI adK adV sq sv sm sb H.size   p0 _ hw) (va_cwS 2 hts gJ0_charAt_5068e_J1_charAt_3b067 rfl rfl rfl (by decide +kernel) ⟨Nat.le_of_ble_eq_true rfl, Nat.le_of_ble_eq_true rfl⟩) (g_pS czsb hPc hDc hKc (czsc hZ hS hFc)) rfl rfl hl.1 rfl (lv_room (Nat.le_of_ble_eq_true rfl)) dJ0_charAt_5068e_12 ⟨Nat.le_of_ble_eq_true rfl, Nat.le_of_ble_eq_true rfl⟩) (fun r5 u4 H locs hw hP hD hS => ?_)
    replace hP : va_P (dC, dI) vwCl (W_S adK adV sq sv sm sb ) H := hP
    replace hD : va_D A (W_S adK adV sq sv sm sb ) := hD
    obtain ⟨hz, hw⟩ := hw
    exact hret dJ0_charAt_5068e_15 hK hP hD hS hz hw
