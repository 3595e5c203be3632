def w_X5_nextTry (n : Nat) (k : Nat) (q : Nat → Nat) (f : Nat → Int32) (t : Nat) (a : Nat → Nat → Int32) (b : Nat → Nat → Option Nat) (sg : Nat → Nat → Option Nat) (sL : List Nat) (sf : Nat → Nat → Int32)  (p0 : Int32) (Q : Int32 → Unit → Prop) : Prop := w_X5_sorts n k q f t a b sg sL sf p0 (fun (r2 : Int32) (u1 : Unit) => (((¬ r2 = 0) → (∀ X7 : Int32 → Int32 → Int32 → Prop, (∀ (x4 : Int32) (x5 : Int32) (x6 : Int32), (((((100 : Int32) ≤ x6) → Q x4 ()) ∧ (¬ ((100 : Int32) ≤ x6) → (((x5 ≤ (1 : Int32)) → Q x4 ()) ∧ (¬ (x5 ≤ (1 : Int32)) → w_X5_mostAlike n k q f t a b sg sL sf r2 (x6 / (10 : Int32)) (x6 - x6 / (10 : Int32) * (10 : Int32)) (fun (r11 : Int32) (u10 : Unit) => ∀ J14 : Int32 → Int32 → Prop, (∀ (x12 : Int32) (x13 : Int32), (∀ x15 : Int32, x15 = x6 + (1 : Int32) → X7 x12 x13 x15) → J14 x12 x13) → (((x5 ≤ r11) → J14 x4 x5) ∧ (¬ (x5 ≤ r11) → J14 x6 r11)))))))) → X7 x4 x5 x6) → X7 (-1 : Int32) (6 : Int32) (0 : Int32))) ∧ (r2 = 0 → Q (-1 : Int32) ())))
abbrev rmX5_nextTry : Room := { frames := 5, cells := 0, slots := 0, locals := 130 }
set_option maxHeartbeats 4000000 in
set_option maxRecDepth 100000 in
theorem t_X5_nextTry (l : Launch) (dC : Nat → ClassId) (dI : Nat → Nat → Nat) (adK : Nat → Nat) (adV : Nat → Nat) (cI : ClassId) (cB : ClassId) (cS : ClassId) (q : Nat → Nat) (qb : Nat → Nat) (n : Nat) (k : Nat) (sz : Nat) (f : Nat → Int32) (t : Nat) (a : Nat → Nat → Int32) (b : Nat → Nat → Option Nat) (sg : Nat → Nat → Option Nat) (sL : List Nat) (sf : Nat → Nat → Int32)   (p0 : Int32) (Q0 : Int32 → Unit → Prop) (hw : w_X5_nextTry n k q f t a b sg sL sf  p0 Q0) : Met l yX5_nextTry wsX5_nextTry rmX5_nextTry (g_pre (cz adK adV) (dC, dI) vwCl [(cI, .int), (cB, .object RX0), (cS, .object RX7)] ((W_P adK adV cI cB cS q qb n k f t a b sg) ++ va_pl sL (sgF sf)) sz [.ref (q 0), .int p0]) (g_qi (dC, dI) vwCl [(cI, .int), (cB, .object RX0), (cS, .object RX7)] (fun u : Unit => ((W_P adK adV cI cB cS q qb n k f t a b sg) ++ va_pl sL (sgF sf))) Q0 (va_A ((W_P adK adV cI cB cS q qb n k f t a b sg) ++ va_pl sL (sgF sf)) sz)) 0 0 (va_A ((W_P adK adV cI cB cS q qb n k f t a b sg) ++ va_pl sL (sgF sf)) sz) := by
  refine g_starti (by decide) rfl (Nat.le_of_ble_eq_true rfl) ?_
  intro p e s m args below meth c A Q ls hx hb hml hown hts hin hK hP hD hA hS hZ hret hl
  obtain ⟨H, eH⟩ : ∃ H : Heap, H = s.heap := ⟨_, rfl⟩
  obtain ⟨locs, eL⟩ : ∃ L : List Loc, L = [] := ⟨_, rfl⟩
  have hS : va_S A s.heap H locs := by rw [eH, eL]; exact hS
  rw [← eH] at hP
  suffices hg : W p l e rmX5_nextTry s m args below meth c H locs 0 0 Q (F0 m 0 ls []) by rw [eH, eL] at hg; exact hg
  clear eH eL
  replace hl : lv_has ls 7 [(0, .ref (q 0)), (1, .int p0)] := hl
  unfold w_X5_nextTry at hw
  refine lv_aload_n hx hb dX5_nextTry_0 rfl (lv_at hl 0 rfl) ?_
  refine lv_iload_n hx hb dX5_nextTry_1 rfl (lv_at hl 1 rfl) ?_
  refine g_ci (g_J.poolP (W2 := fun u1 : Unit => (W_P adK adV cI cB cS q qb n k f t a b sg)) (pl := va_pl sL (sgF sf)) (PL := fun u1 : Unit => va_pl sL (sgF sf)) (RX := fun u1 : Unit => (W_P adK adV cI cB cS q qb n k f t a b sg)) [] [0, 1, 2, 3, 4, 5, 6, 7, 8, 9, 10, 11, 12, 13, 14, 15, 16, 17, 18, 19, 20, 21, 22] [] [0, 1, 2, 3, 4, 5, 6, 7, 8, 9, 10, 11, 12, 13, 14, 15, 16, 17, 18, 19, 20, 21, 22] rfl (by decide) rfl (by decide) (by decide) (fun _ => rfl) (by decide)) [0, 1, 2] hK hP hD hS hA rfl (fun hPc hDc hKc hFc => va_runV (As := [.int p0]) (rest := []) ⟨hx, hb, hml, hown, hts⟩ (t_X5_sorts l dC dI adK adV cI cB cS q qb n k H.size f t a b sg sL sf p0 _ hw) (cwV 1 hts gX5_nextTry_X5_sorts rfl rfl rfl (by decide +kernel) ⟨Nat.le_of_ble_eq_true rfl, Nat.le_of_ble_eq_true rfl⟩) (g_pV czb (q0 := 0) rfl rfl hPc hDc hKc (czc hZ hS hFc)) rfl rfl hl.1 rfl (lv_room (Nat.le_of_ble_eq_true rfl)) dX5_nextTry_2 ⟨Nat.le_of_ble_eq_true rfl, Nat.le_of_ble_eq_true rfl⟩) (fun r2 u1 H locs hw hP hD hS => ?_)
  replace hP : va_P (dC, dI) vwCl ((W_P adK adV cI cB cS q qb n k f t a b sg) ++ va_pl sL (sgF sf)) H := hP
  replace hD : va_D A ((W_P adK adV cI cB cS q qb n k f t a b sg) ++ va_pl sL (sgF sf)) := hD
  refine lv_istore_n (lv' := [(2, .int r2), (0, .ref (q 0)), (1, .int p0)]) hx hb dX5_nextTry_5 rfl hl (by decide) rfl (fun ls hl => ?_)
  refine lv_iload_n hx hb dX5_nextTry_6 rfl (lv_at hl 0 rfl) ?_
  refine lv_if_ne (tgt := 12) hx hb dX5_nextTry_7 (by decide) (fun hc3 => ?_) (fun hc3 => ?_)
  · replace hw := hw.1 hc3
    refine lv_iconst (v := -1) hx hb dX5_nextTry_12 (by decide) ?_
    refine lv_istore_n (lv' := [(3, .int (-1 : Int32)), (2, .int r2), (0, .ref (q 0)), (1, .int p0)]) hx hb dX5_nextTry_13 rfl hl (by decide) rfl (fun ls hl => ?_)
    refine lv_bipush (v := 6) hx hb dX5_nextTry_14 (by decide) ?_
    refine lv_istore (lv' := [(4, .int (6 : Int32)), (3, .int (-1 : Int32)), (2, .int r2), (0, .ref (q 0)), (1, .int p0)]) hx hb dX5_nextTry_16 hl (by decide) rfl (fun ls hl => ?_)
    refine lv_iconst (v := 0) hx hb dX5_nextTry_18 (by decide) ?_
    refine lv_istore (lv' := [(5, .int (0 : Int32)), (4, .int (6 : Int32)), (3, .int (-1 : Int32)), (2, .int r2), (0, .ref (q 0)), (1, .int p0)]) hx hb dX5_nextTry_19 hl (by decide) rfl (fun ls hl => ?_)
    refine hw (fun (x4 : Int32) (x5 : Int32) (x6 : Int32) => ∀ (H : Heap) (locs : List Loc) (ls : Array Slot), va_P (dC, dI) vwCl ((W_P adK adV cI cB cS q qb n k f t a b sg) ++ va_pl sL (sgF sf)) H → va_D A ((W_P adK adV cI cB cS q qb n k f t a b sg) ++ va_pl sL (sgF sf)) → va_S A s.heap H locs → lv_has ls 7 [(0, .ref (q 0)), (2, .int r2), (3, .int x4), (4, .int x5), (5, .int x6)] → W p l e rmX5_nextTry s m args below meth c H locs 0 0 Q (F0 m 21 ls [])) ?_ H locs ls hP hD hS (lv_sub hl [4, 3, 2, 1, 0] rfl)
    · intro x4 x5 x6 hw H locs ls hP hD hS hl
      refine lv_iload hx hb dX5_nextTry_21 (lv_at hl 4 rfl) ?_
      refine lv_bipush (v := 100) hx hb dX5_nextTry_23 (by decide) ?_
      refine lv_icmp_ge (tgt := 71) hx hb dX5_nextTry_25 (by decide) (fun hc8 => ?_) (fun hc8 => ?_)
      · replace hw := hw.1 hc8
        refine lv_iload_n hx hb dX5_nextTry_71 rfl (lv_at hl 2 rfl) ?_
        exact hret dX5_nextTry_72 hK hP hD hS hw
      · replace hw := hw.2 hc8
        refine lv_iload hx hb dX5_nextTry_28 (lv_at hl 3 rfl) ?_
        refine lv_iconst (v := 1) hx hb dX5_nextTry_30 (by decide) ?_
        refine lv_icmp_le (tgt := 71) hx hb dX5_nextTry_31 (by decide) (fun hc9 => ?_) (fun hc9 => ?_)
        · replace hw := hw.1 hc9
          refine lv_iload_n hx hb dX5_nextTry_71 rfl (lv_at hl 2 rfl) ?_
          exact hret dX5_nextTry_72 hK hP hD hS hw
        · replace hw := hw.2 hc9
          refine lv_aload_n hx hb dX5_nextTry_34 rfl (lv_at hl 0 rfl) ?_
          refine lv_iload_n hx hb dX5_nextTry_35 rfl (lv_at hl 1 rfl) ?_
          refine lv_iload hx hb dX5_nextTry_36 (lv_at hl 4 rfl) ?_
          refine lv_bipush (v := 10) hx hb dX5_nextTry_38 (by decide) ?_
          refine lv_idiv hx hb dX5_nextTry_40 (by decide) ?_
          refine lv_iload hx hb dX5_nextTry_41 (lv_at hl 4 rfl) ?_
          refine lv_bipush (v := 10) hx hb dX5_nextTry_43 (by decide) ?_
          refine lv_irem hx hb dX5_nextTry_45 (by decide) ?_
          refine g_ci (g_J.poolP (W2 := fun u10 : Unit => (W_P adK adV cI cB cS q qb n k f t a b sg)) (pl := va_pl sL (sgF sf)) (PL := fun u10 : Unit => va_pl sL (sgF sf)) (RX := fun u10 : Unit => (W_P adK adV cI cB cS q qb n k f t a b sg)) [] [0, 1, 2, 3, 4, 5, 6, 7, 8, 9, 10, 11, 12, 13, 14, 15, 16, 17, 18, 19, 20, 21, 22] [] [0, 1, 2, 3, 4, 5, 6, 7, 8, 9, 10, 11, 12, 13, 14, 15, 16, 17, 18, 19, 20, 21, 22] rfl (by decide) rfl (by decide) (by decide) (fun _ => rfl) (by decide)) [0, 1, 2] hK hP hD hS hA rfl (fun hPc hDc hKc hFc => va_runV (As := [.int r2, .int (x6 / (10 : Int32)), .int (x6 - x6 / (10 : Int32) * (10 : Int32))]) (rest := []) ⟨hx, hb, hml, hown, hts⟩ (t_X5_mostAlike l dC dI adK adV cI cB cS q qb n k H.size f t a b sg sL sf r2 (x6 / (10 : Int32)) (x6 - x6 / (10 : Int32) * (10 : Int32)) _ hw) (cwV 3 hts gX5_nextTry_X5_mostAlike rfl rfl rfl (by decide +kernel) ⟨Nat.le_of_ble_eq_true rfl, Nat.le_of_ble_eq_true rfl⟩) (g_pV czb (q0 := 0) rfl rfl hPc hDc hKc (czc hZ hS hFc)) rfl rfl hl.1 rfl (lv_room (Nat.le_of_ble_eq_true rfl)) dX5_nextTry_46 ⟨Nat.le_of_ble_eq_true rfl, Nat.le_of_ble_eq_true rfl⟩) (fun r11 u10 H locs hw hP hD hS => ?_)
          replace hP : va_P (dC, dI) vwCl ((W_P adK adV cI cB cS q qb n k f t a b sg) ++ va_pl sL (sgF sf)) H := hP
          replace hD : va_D A ((W_P adK adV cI cB cS q qb n k f t a b sg) ++ va_pl sL (sgF sf)) := hD
          refine lv_istore (lv' := [(6, .int r11), (0, .ref (q 0)), (2, .int r2), (3, .int x4), (4, .int x5), (5, .int x6)]) hx hb dX5_nextTry_49 hl (by decide) rfl (fun ls hl => ?_)
          refine lv_iload hx hb dX5_nextTry_51 (lv_at hl 0 rfl) ?_
          refine lv_iload hx hb dX5_nextTry_53 (lv_at hl 4 rfl) ?_
          replace hw := hw (fun (x12 : Int32) (x13 : Int32) => ∀ (H : Heap) (locs : List Loc) (ls : Array Slot), va_P (dC, dI) vwCl ((W_P adK adV cI cB cS q qb n k f t a b sg) ++ va_pl sL (sgF sf)) H → va_D A ((W_P adK adV cI cB cS q qb n k f t a b sg) ++ va_pl sL (sgF sf)) → va_S A s.heap H locs → lv_has ls 7 [(0, .ref (q 0)), (2, .int r2), (3, .int x12), (4, .int x13), (5, .int x6)] → W p l e rmX5_nextTry s m args below meth c H locs 0 0 Q (F0 m 65 ls [])) (by
            intro x12 x13 hw H locs ls hP hD hS hl
            obtain ⟨x15, ex15⟩ : ∃ y : Int32, y = x6 + (1 : Int32) := ⟨_, rfl⟩
            replace hw := hw x15 ex15
            refine lv_iinc (v := x15) (lv' := [(5, .int x15), (0, .ref (q 0)), (2, .int r2), (3, .int x12), (4, .int x13)]) hx hb dX5_nextTry_65 hl (k := 4) rfl (by rw [ex15]; rfl) (by decide) rfl (fun ls hl => ?_)
            refine lv_goto (tgt := 21) hx hb dX5_nextTry_68 (by decide) ?_
            exact hw H locs ls hP hD hS (lv_sub hl [1, 2, 3, 4, 0] rfl))
          refine lv_icmp_ge (tgt := 65) hx hb dX5_nextTry_55 (by decide) (fun hc16 => ?_) (fun hc16 => ?_)
          · replace hw := hw.1 hc16
            exact hw H locs ls hP hD hS (lv_sub hl [1, 2, 3, 4, 5] rfl)
          · replace hw := hw.2 hc16
            refine lv_iload hx hb dX5_nextTry_58 (lv_at hl 0 rfl) ?_
            refine lv_istore (lv' := [(4, .int r11), (6, .int r11), (0, .ref (q 0)), (2, .int r2), (3, .int x4), (5, .int x6)]) hx hb dX5_nextTry_60 hl (by decide) rfl (fun ls hl => ?_)
            refine lv_iload hx hb dX5_nextTry_62 (lv_at hl 5 rfl) ?_
            refine lv_istore_n (lv' := [(3, .int x6), (4, .int r11), (6, .int r11), (0, .ref (q 0)), (2, .int r2), (5, .int x6)]) hx hb dX5_nextTry_64 rfl hl (by decide) rfl (fun ls hl => ?_)
            exact hw H locs ls hP hD hS (lv_sub hl [3, 4, 0, 1, 5] rfl)
  · replace hw := hw.2 hc3
    refine lv_iconst (v := -1) hx hb dX5_nextTry_10 (by decide) ?_
    exact hret dX5_nextTry_11 hK hP hD hS hw

def w_X5_draw (n : Nat) (k : Nat) (q : Nat → Nat) (f : Nat → Int32) (t : Nat) (a : Nat → Nat → Int32) (b : Nat → Nat → Option Nat) (sg : Nat → Nat → Option Nat) (sL : List Nat) (sf : Nat → Nat → Int32)  (p0 : Int32) (Q : Int32 → ((Nat → Nat → Int32)) → Prop) : Prop := (∀ X4 : Int32 → Int32 → (Nat → Nat → Int32) → Prop, (∀ (x1 : Int32) (x2 : Int32) (av3 : (Nat → Nat → Int32)), (((((nI n) ≤ x2) → w_X5_raise_g n k q f t av3 b sg sL sf  (fun (u6 : ((Nat → Nat → Int32))) => Q x1 u6)) ∧ (¬ ((nI n) ≤ x2) → ∀ x7 : Int32, x7 = (((((1103515245 : Int64) * (x1.toInt64)) + (12345 : Int64)) &&& (2147483647 : Int64)).toInt32) → ∀ x9 : Int32, x9 = ((x7 / (65536 : Int32)) - (x7 / (65536 : Int32)) / (10 : Int32) * (10 : Int32)) → (vp_in x2 k) ∧ ∀ x10 : Int32, x10 = x2 + (1 : Int32) → X4 x7 x10 (va_up av3 6 (upd (av3 6) x2.toNatClampNeg x9))))) → X4 x1 x2 av3) → X4 p0 (0 : Int32) a)
abbrev rmX5_draw : Room := { frames := 3, cells := 0, slots := 0, locals := 85 }
set_option maxHeartbeats 4000000 in
set_option maxRecDepth 100000 in
theorem t_X5_draw (l : Launch) (dC : Nat → ClassId) (dI : Nat → Nat → Nat) (adK : Nat → Nat) (adV : Nat → Nat) (cI : ClassId) (cB : ClassId) (cS : ClassId) (q : Nat → Nat) (qb : Nat → Nat) (n : Nat) (k : Nat) (sz : Nat) (f : Nat → Int32) (t : Nat) (a : Nat → Nat → Int32) (b : Nat → Nat → Option Nat) (sg : Nat → Nat → Option Nat) (sL : List Nat) (sf : Nat → Nat → Int32)   (p0 : Int32) (Q0 : Int32 → ((Nat → Nat → Int32)) → Prop) (hw : w_X5_draw n k q f t a b sg sL sf  p0 Q0) : Met l yX5_draw wsX5_draw rmX5_draw (g_pre (cz adK adV) (dC, dI) vwCl [(cI, .int), (cB, .object RX0), (cS, .object RX7)] ((W_P adK adV cI cB cS q qb n k f t a b sg) ++ va_pl sL (sgF sf)) sz [.ref (q 0), .int p0]) (g_qi (dC, dI) vwCl [(cI, .int), (cB, .object RX0), (cS, .object RX7)] (fun u : ((Nat → Nat → Int32)) => ((W_P adK adV cI cB cS q qb n k f t u b sg) ++ va_pl sL (sgF sf))) Q0 (va_A ((W_P adK adV cI cB cS q qb n k f t a b sg) ++ va_pl sL (sgF sf)) sz)) 0 0 (va_A ((W_P adK adV cI cB cS q qb n k f t a b sg) ++ va_pl sL (sgF sf)) sz) := by
  refine g_starti (by decide) rfl (Nat.le_of_ble_eq_true rfl) ?_
  intro p e s m args below meth c A Q ls hx hb hml hown hts hin hK hP hD hA hS hZ hret hl
  obtain ⟨H, eH⟩ : ∃ H : Heap, H = s.heap := ⟨_, rfl⟩
  obtain ⟨locs, eL⟩ : ∃ L : List Loc, L = [] := ⟨_, rfl⟩
  have hS : va_S A s.heap H locs := by rw [eH, eL]; exact hS
  rw [← eH] at hP
  suffices hg : W p l e rmX5_draw s m args below meth c H locs 0 0 Q (F0 m 0 ls []) by rw [eH, eL] at hg; exact hg
  clear eH eL
  replace hl : lv_has ls 4 [(0, .ref (q 0)), (1, .int p0)] := hl
  have hf15 := hts (.fieldLink RX5 15 "NumberPile$Pile" "wide" "I") (by decide +kernel)
  have hiX5 : ∀ w ∈ u_ws RX5 TX5 13, w ∈ wsX5_draw := fun w h => List.mem_cons_of_mem _ (List.mem_append_left _ (List.mem_append_right _ h))
  have hf41 := hts (.fieldLink RX5 41 "NumberPile$Pile" "guess" "[I") (by decide +kernel)
  have kc213 := hts (.constantLong RX5 213 (1103515245)) (by decide +kernel)
  have kc215 := hts (.constantLong RX5 215 (12345)) (by decide +kernel)
  have kc219 := hts (.constantLong RX5 219 (2147483647)) (by decide +kernel)
  have kc221 := hts (.constant RX5 221 (65536)) (by decide +kernel)
  unfold w_X5_draw at hw
  refine lv_iload_n hx hb dX5_draw_0 rfl (lv_at hl 1 rfl) ?_
  refine lv_istore_n (lv' := [(2, .int p0), (0, .ref (q 0)), (1, .int p0)]) hx hb dX5_draw_1 rfl hl (by decide) rfl (fun ls hl => ?_)
  refine lv_iconst (v := 0) hx hb dX5_draw_2 (by decide) ?_
  refine lv_istore_n (lv' := [(3, .int (0 : Int32)), (2, .int p0), (0, .ref (q 0)), (1, .int p0)]) hx hb dX5_draw_3 rfl hl (by decide) rfl (fun ls hl => ?_)
  refine hw (fun (x1 : Int32) (x2 : Int32) (av3 : (Nat → Nat → Int32)) => ∀ (H : Heap) (locs : List Loc) (ls : Array Slot), va_P (dC, dI) vwCl ((W_P adK adV cI cB cS q qb n k f t av3 b sg) ++ va_pl sL (sgF sf)) H → va_D A ((W_P adK adV cI cB cS q qb n k f t av3 b sg) ++ va_pl sL (sgF sf)) → va_S A s.heap H locs → lv_has ls 4 [(0, .ref (q 0)), (2, .int x1), (3, .int x2)] → W p l e rmX5_draw s m args below meth c H locs 0 0 Q (F0 m 4 ls [])) ?_ H locs ls hP hD hS (lv_sub hl [2, 1, 0] rfl)
  · intro x1 x2 av3 hw H locs ls hP hD hS hl
    refine lv_iload_n hx hb dX5_draw_4 rfl (lv_at hl 2 rfl) ?_
    refine lv_aload_n hx hb dX5_draw_5 rfl (lv_at hl 0 rfl) ?_
    refine va_get (D := (dC, dI)) (ci := 7) (v := .int (nI n)) (C := RX5) (T := TX5) (N := 13) hx hb hts hiX5 hown hK hP 0 rfl rfl 0 (by decide) hf15 (fun _ h9 => h9) rfl dX5_draw_6 ?_
    refine lv_icmp_ge (tgt := 47) hx hb dX5_draw_9 (by decide) (fun hc5 => ?_) (fun hc5 => ?_)
    · replace hw := hw.1 hc5
      refine lv_aload_n hx hb dX5_draw_47 rfl (lv_at hl 0 rfl) ?_
      refine lv_aload_n hx hb dX5_draw_48 rfl (lv_at hl 0 rfl) ?_
      refine va_get (D := (dC, dI)) (ci := 7) (v := .ref (q 14)) (C := RX5) (T := TX5) (N := 13) hx hb hts hiX5 hown hK hP 0 rfl rfl 8 (by decide) hf41 (fun _ h9 => h9) rfl dX5_draw_49 ?_
      refine g_cv (g_J.poolP (W2 := fun u6 : ((Nat → Nat → Int32)) => (W_P adK adV cI cB cS q qb n k f t u6 b sg)) (pl := va_pl sL (sgF sf)) (PL := fun u6 : ((Nat → Nat → Int32)) => va_pl sL (sgF sf)) (RX := fun u6 : ((Nat → Nat → Int32)) => (W_P adK adV cI cB cS q qb n k f t u6 b sg)) [] [0, 1, 2, 3, 4, 5, 6, 7, 8, 9, 10, 11, 12, 13, 14, 15, 16, 17, 18, 19, 20, 21, 22] [] [0, 1, 2, 3, 4, 5, 6, 7, 8, 9, 10, 11, 12, 13, 14, 15, 16, 17, 18, 19, 20, 21, 22] rfl (by decide) rfl (by decide) (by decide) (fun _ => rfl) (by decide)) [0, 1, 2] hK hP hD hS hA rfl (fun hPc hDc hKc hFc => va_runV (As := [.ref (q 14)]) (rest := []) ⟨hx, hb, hml, hown, hts⟩ (t_X5_raise_g l dC dI adK adV cI cB cS q qb n k H.size f t av3 b sg sL sf  _ hw) (cwV 1 hts gX5_draw_X5_raise rfl rfl rfl (by decide +kernel) ⟨Nat.le_of_ble_eq_true rfl, Nat.le_of_ble_eq_true rfl⟩) (g_pV czb (q0 := 0) rfl rfl hPc hDc hKc (czc hZ hS hFc)) rfl rfl hl.1 rfl (lv_room (Nat.le_of_ble_eq_true rfl)) dX5_draw_52 ⟨Nat.le_of_ble_eq_true rfl, Nat.le_of_ble_eq_true rfl⟩) (fun u6 H locs hw hP hD hS => ?_)
      replace hP : va_P (dC, dI) vwCl ((W_P adK adV cI cB cS q qb n k f t u6 b sg) ++ va_pl sL (sgF sf)) H := hP
      replace hD : va_D A ((W_P adK adV cI cB cS q qb n k f t u6 b sg) ++ va_pl sL (sgF sf)) := hD
      refine lv_iload_n hx hb dX5_draw_55 rfl (lv_at hl 1 rfl) ?_
      exact hret dX5_draw_56 hK hP hD hS hw
    · replace hw := hw.2 hc5
      refine lv_ldc2 hx hb hown kc213 dX5_draw_12 ?_
      refine lv_iload_n hx hb dX5_draw_15 rfl (lv_at hl 1 rfl) ?_
      refine lv_i2l hx hb dX5_draw_16 rfl ?_
      refine lv_lmul hx hb dX5_draw_17 ?_
      refine lv_ldc2 hx hb hown kc215 dX5_draw_18 ?_
      refine lv_ladd hx hb dX5_draw_21 ?_
      refine lv_ldc2 hx hb hown kc219 dX5_draw_22 ?_
      refine lv_land hx hb dX5_draw_25 ?_
      refine lv_l2i hx hb dX5_draw_26 rfl ?_
      refine lv_topi (fun x7 ex7 => ?_)
      replace hw := hw x7 ex7
      refine lv_istore_n (lv' := [(2, .int x7), (0, .ref (q 0)), (3, .int x2)]) hx hb dX5_draw_27 rfl hl (by decide) rfl (fun ls hl => ?_)
      refine lv_aload_n hx hb dX5_draw_28 rfl (lv_at hl 1 rfl) ?_
      refine va_get (D := (dC, dI)) (ci := 7) (v := .ref (q 14)) (C := RX5) (T := TX5) (N := 13) hx hb hts hiX5 hown hK hP 0 rfl rfl 8 (by decide) hf41 (fun _ h9 => h9) rfl dX5_draw_29 ?_
      refine lv_iload_n hx hb dX5_draw_32 rfl (lv_at hl 2 rfl) ?_
      refine lv_iload_n hx hb dX5_draw_33 rfl (lv_at hl 0 rfl) ?_
      refine lv_ldc hx hb hown kc221 dX5_draw_34 ?_
      refine lv_idiv hx hb dX5_draw_36 (by decide) ?_
      refine lv_bipush (v := 10) hx hb dX5_draw_37 (by decide) ?_
      refine lv_irem hx hb dX5_draw_39 (by decide) ?_
      refine lv_topi (fun x9 ex9 => ?_)
      replace hw := hw x9 ex9
      obtain ⟨hb8, hw⟩ := hw
      refine va_iast hx hb hK hP hD hS 14 0 rfl rfl hb8 dX5_draw_40 (fun H locs hP hD hS => ?_)
      replace hP : va_P (dC, dI) vwCl ((W_P adK adV cI cB cS q qb n k f t (va_up av3 6 (upd (av3 6) x2.toNatClampNeg x9)) b sg) ++ va_pl sL (sgF sf)) H := hP
      replace hD : va_D A ((W_P adK adV cI cB cS q qb n k f t (va_up av3 6 (upd (av3 6) x2.toNatClampNeg x9)) b sg) ++ va_pl sL (sgF sf)) := hD
      obtain ⟨x10, ex10⟩ : ∃ y : Int32, y = x2 + (1 : Int32) := ⟨_, rfl⟩
      replace hw := hw x10 ex10
      refine lv_iinc (v := x10) (lv' := [(3, .int x10), (2, .int x7), (0, .ref (q 0))]) hx hb dX5_draw_41 hl (k := 2) rfl (by rw [ex10]; rfl) (by decide) rfl (fun ls hl => ?_)
      refine lv_goto (tgt := 4) hx hb dX5_draw_44 (by decide) ?_
      exact hw H locs ls hP hD hS (lv_sub hl [2, 1, 0] rfl)

def w_J3_checkIndex_8e157_n  (p0 : Int32) (p1 : Int32) (Q : Int32 → Prop) : Prop := ∀ J1 : Prop, ((False) → J1) → (((p0 < 0) → J1) ∧ (¬ (p0 < 0) → (((p0 < p1) → Q p0) ∧ (¬ (p0 < p1) → J1))))
abbrev rmJ3_checkIndex_8e157_n : Room := { frames := 0, cells := 0, slots := 0, locals := 0 }
set_option maxHeartbeats 4000000 in
set_option maxRecDepth 100000 in
theorem t_J3_checkIndex_8e157_n (l : Launch)   (p0 : Int32) (p1 : Int32) (Q0 : Int32 → Prop) (hw : w_J3_checkIndex_8e157_n  p0 p1 Q0) : Met l yJ3_checkIndex_8e157 wsJ3_checkIndex_8e157 rmJ3_checkIndex_8e157_n (g_pr0 [.int p0, .int p1, .null]) (vp_Si Q0) 0 0 (fun _ => False) := by
  refine g_start0i (by decide) rfl (Nat.le_of_ble_eq_true rfl) ?_
  intro p e s m args below meth c Q H ls hx hb hml hown hts hret hl
  replace hl : lv_has ls 3 [(0, .int p0), (1, .int p1), (2, .null)] := hl
  unfold w_J3_checkIndex_8e157_n at hw
  refine lv_iload_n hx hb dJ3_checkIndex_8e157_0 rfl (lv_at hl 0 rfl) ?_
  replace hw := hw (∀ (ls : Array Slot), lv_has ls 3 [(0, .int p0), (1, .int p1), (2, .null)] → W p l e rmJ3_checkIndex_8e157_n s m args below meth c H [] 0 0 Q (F0 m 9 ls [])) (by
    intro hw ls hl
    exact hw.elim)
  refine lv_if_lt (tgt := 9) hx hb dJ3_checkIndex_8e157_1 (by decide) (fun hc2 => ?_) (fun hc2 => ?_)
  · replace hw := hw.1 hc2
    exact hw ls (lv_sub hl [0, 1, 2] rfl)
  · replace hw := hw.2 hc2
    refine lv_iload_n hx hb dJ3_checkIndex_8e157_4 rfl (lv_at hl 0 rfl) ?_
    refine lv_iload_n hx hb dJ3_checkIndex_8e157_5 rfl (lv_at hl 1 rfl) ?_
    refine lv_icmp_lt (tgt := 16) hx hb dJ3_checkIndex_8e157_6 (by decide) (fun hc3 => ?_) (fun hc3 => ?_)
    · replace hw := hw.1 hc3
      refine lv_iload_n hx hb dJ3_checkIndex_8e157_16 rfl (lv_at hl 0 rfl) ?_
      exact hret dJ3_checkIndex_8e157_17 hw
    · replace hw := hw.2 hc3
      exact hw ls (lv_sub hl [0, 1, 2] rfl)

def w_J3_checkIndex_8e157_r  (p0 : Int32) (p1 : Int32) (Q : Int32 → Prop) : Prop := ∀ J1 : Prop, ((False) → J1) → (((p0 < 0) → J1) ∧ (¬ (p0 < 0) → (((p0 < p1) → Q p0) ∧ (¬ (p0 < p1) → J1))))
abbrev rmJ3_checkIndex_8e157_r : Room := { frames := 0, cells := 0, slots := 0, locals := 0 }
set_option maxHeartbeats 4000000 in
set_option maxRecDepth 100000 in
theorem t_J3_checkIndex_8e157_r (l : Launch)  (t9 : Nat) (p0 : Int32) (p1 : Int32) (Q0 : Int32 → Prop) (hw : w_J3_checkIndex_8e157_r  p0 p1 Q0) : Met l yJ3_checkIndex_8e157 wsJ3_checkIndex_8e157 rmJ3_checkIndex_8e157_r (g_pr0 [.int p0, .int p1, .ref t9]) (vp_Si Q0) 0 0 (fun _ => False) := by
  refine g_start0i (by decide) rfl (Nat.le_of_ble_eq_true rfl) ?_
  intro p e s m args below meth c Q H ls hx hb hml hown hts hret hl
  replace hl : lv_has ls 3 [(0, .int p0), (1, .int p1), (2, .ref t9)] := hl
  unfold w_J3_checkIndex_8e157_r at hw
  refine lv_iload_n hx hb dJ3_checkIndex_8e157_0 rfl (lv_at hl 0 rfl) ?_
  replace hw := hw (∀ (ls : Array Slot), lv_has ls 3 [(0, .int p0), (1, .int p1), (2, .ref t9)] → W p l e rmJ3_checkIndex_8e157_r s m args below meth c H [] 0 0 Q (F0 m 9 ls [])) (by
    intro hw ls hl
    exact hw.elim)
  refine lv_if_lt (tgt := 9) hx hb dJ3_checkIndex_8e157_1 (by decide) (fun hc2 => ?_) (fun hc2 => ?_)
  · replace hw := hw.1 hc2
    exact hw ls (lv_sub hl [0, 1, 2] rfl)
  · replace hw := hw.2 hc2
    refine lv_iload_n hx hb dJ3_checkIndex_8e157_4 rfl (lv_at hl 0 rfl) ?_
    refine lv_iload_n hx hb dJ3_checkIndex_8e157_5 rfl (lv_at hl 1 rfl) ?_
    refine lv_icmp_lt (tgt := 16) hx hb dJ3_checkIndex_8e157_6 (by decide) (fun hc3 => ?_) (fun hc3 => ?_)
    · replace hw := hw.1 hc3
      refine lv_iload_n hx hb dJ3_checkIndex_8e157_16 rfl (lv_at hl 0 rfl) ?_
      exact hret dJ3_checkIndex_8e157_17 hw
    · replace hw := hw.2 hc3
      exact hw ls (lv_sub hl [0, 1, 2] rfl)

def w_J0_checkIndex_df160    (p0 : Int32) (p1 : Int32) (Q : Unit → Prop) : Prop := ((w_J3_checkIndex_8e157_n p0 p1 (fun (r2 : Int32) => Q ())) ∧ (w_J3_checkIndex_8e157_r p0 p1 (fun (r3 : Int32) => Q ())))
abbrev rmJ0_checkIndex_df160 : Room := { frames := 1, cells := 0, slots := 0, locals := 22 }
set_option maxHeartbeats 4000000 in
set_option maxRecDepth 100000 in
theorem t_J0_checkIndex_df160 (l : Launch) (dC : Nat → ClassId) (dI : Nat → Nat → Nat) (adK : Nat → Nat) (adV : Nat → Nat) (sz : Nat)    (p0 : Int32) (p1 : Int32) (Q0 : Unit → Prop) (hw : w_J0_checkIndex_df160    p0 p1 Q0) : Met l yJ0_checkIndex_df160 wsJ0_checkIndex_df160 rmJ0_checkIndex_df160 (g_pre (cz adK adV) (dC, dI) vwCl [] (W_Z adK adV ) sz [.int p0, .int p1]) (g_qv (dC, dI) vwCl [] (fun u : Unit => (W_Z adK adV )) Q0 (va_A (W_Z adK adV ) sz)) 0 0 (va_A (W_Z adK adV ) sz) := by
  refine g_startv (by decide) rfl (Nat.le_of_ble_eq_true rfl) ?_
  intro p e s m args below meth c A Q ls hx hb hml hown hts hin hK hP hD hA hS hZ hret hl
  obtain ⟨H, eH⟩ : ∃ H : Heap, H = s.heap := ⟨_, rfl⟩
  obtain ⟨locs, eL⟩ : ∃ L : List Loc, L = [] := ⟨_, rfl⟩
  have hS : va_S A s.heap H locs := by rw [eH, eL]; exact hS
  rw [← eH] at hP
  suffices hg : W p l e rmJ0_checkIndex_df160 s m args below meth c H locs 0 0 Q (F0 m 0 ls []) by rw [eH, eL] at hg; exact hg
  clear eH eL
  replace hl : lv_has ls 2 [(0, .int p0), (1, .int p1)] := hl
  have hf1053 := hts (.fieldLink RJ0 1053 "jdk/internal/util/Preconditions" "SIOOBE_FORMATTER" "Ljava/util/function/BiFunction;") (by decide +kernel)
  unfold w_J0_checkIndex_df160 at hw
  refine lv_iload_n hx hb dJ0_checkIndex_df160_0 rfl (lv_at hl 0 rfl) ?_
  refine lv_iload_n hx hb dJ0_checkIndex_df160_1 rfl (lv_at hl 1 rfl) ?_
  rcases hZ.2.2.2.2.2.2.1 with hq9 | ⟨t1, hq9⟩
  · refine va_gets hx hb (v := .null) hq9 hS hown hf1053 (fun _ h9 => h9) dJ0_checkIndex_df160_2 ?_
    replace hw := hw.1
    refine g_c0 (rest := []) (va_runS (As := [.int p0, .int p1, .null]) (rest := []) ⟨hx, hb, hml, hown, hts⟩ (t_J3_checkIndex_8e157_n l  p0 p1 _ hw) (va_cwS 3 hts gJ0_checkIndex_df160_J3_checkIndex_8e157 rfl rfl rfl (by decide +kernel) ⟨Nat.le_of_ble_eq_true rfl, Nat.le_of_ble_eq_true rfl⟩) g_p0S rfl rfl hl.1 rfl (lv_room (Nat.le_of_ble_eq_true rfl)) dJ0_checkIndex_df160_5 ⟨Nat.le_of_ble_eq_true rfl, Nat.le_of_ble_eq_true rfl⟩) (fun r2 hw => ?_)
    refine lv_pop hx hb dJ0_checkIndex_df160_8 rfl ?_
    exact hret dJ0_checkIndex_df160_9 hK hP hD hS hw
  · refine va_gets hx hb (v := .ref t1) hq9 hS hown hf1053 (fun _ h9 => h9) dJ0_checkIndex_df160_2 ?_
    replace hw := hw.2
    refine g_c0 (rest := []) (va_runS (As := [.int p0, .int p1, .ref t1]) (rest := []) ⟨hx, hb, hml, hown, hts⟩ (t_J3_checkIndex_8e157_r l t1 p0 p1 _ hw) (va_cwS 3 hts gJ0_checkIndex_df160_J3_checkIndex_8e157 rfl rfl rfl (by decide +kernel) ⟨Nat.le_of_ble_eq_true rfl, Nat.le_of_ble_eq_true rfl⟩) g_p0S rfl rfl hl.1 rfl (lv_room (Nat.le_of_ble_eq_true rfl)) dJ0_checkIndex_df160_5 ⟨Nat.le_of_ble_eq_true rfl, Nat.le_of_ble_eq_true rfl⟩) (fun r3 hw => ?_)
    refine lv_pop hx hb dJ0_checkIndex_df160_8 rfl ?_
    exact hret dJ0_checkIndex_df160_9 hK hP hD hS hw

def w_J1_canEncode_9a6ad  (p0 : Int32) (Q : Int32 → Prop) : Prop := (((p0 < 0) → Q (0 : Int32)) ∧ (¬ (p0 < 0) → ((((255 : Int32) < p0) → Q (0 : Int32)) ∧ (¬ ((255 : Int32) < p0) → Q (1 : Int32)))))
abbrev rmJ1_canEncode_9a6ad : Room := { frames := 0, cells := 0, slots := 0, locals := 0 }
set_option maxHeartbeats 4000000 in
set_option maxRecDepth 100000 in
theorem t_J1_canEncode_9a6ad (l : Launch)   (p0 : Int32) (Q0 : Int32 → Prop) (hw : w_J1_canEncode_9a6ad  p0 Q0) : Met l yJ1_canEncode_9a6ad wsJ1_canEncode_9a6ad rmJ1_canEncode_9a6ad (g_pr0 [.int p0]) (vp_Si Q0) 0 0 (fun _ => False) := by
  refine g_start0z (by decide) rfl (Nat.le_of_ble_eq_true rfl) ?_
  intro p e s m args below meth c Q H ls hx hb hml hown hts hret hl
  replace hl : lv_has ls 1 [(0, .int p0)] := hl
  unfold w_J1_canEncode_9a6ad at hw
  refine lv_iload_n hx hb dJ1_canEncode_9a6ad_0 rfl (lv_at hl 0 rfl) ?_
  refine lv_if_lt (tgt := 15) hx hb dJ1_canEncode_9a6ad_1 (by decide) (fun hc1 => ?_) (fun hc1 => ?_)
  · replace hw := hw.1 hc1
    refine lv_iconst (v := 0) hx hb dJ1_canEncode_9a6ad_15 (by decide) ?_
    exact hret dJ1_canEncode_9a6ad_16 isB_0 hw
  · replace hw := hw.2 hc1
    refine lv_iload_n hx hb dJ1_canEncode_9a6ad_4 rfl (lv_at hl 0 rfl) ?_
    refine lv_sipush (v := 255) hx hb dJ1_canEncode_9a6ad_5 (by decide) ?_
    refine lv_icmp_gt (tgt := 15) hx hb dJ1_canEncode_9a6ad_8 (by decide) (fun hc2 => ?_) (fun hc2 => ?_)
    · replace hw := hw.1 hc2
      refine lv_iconst (v := 0) hx hb dJ1_canEncode_9a6ad_15 (by decide) ?_
      exact hret dJ1_canEncode_9a6ad_16 isB_0 hw
    · replace hw := hw.2 hc2
      refine lv_iconst (v := 1) hx hb dJ1_canEncode_9a6ad_11 (by decide) ?_
      refine lv_goto (tgt := 16) hx hb dJ1_canEncode_9a6ad_12 (by decide) ?_
      exact hret dJ1_canEncode_9a6ad_16 isB_1 hw

def w_J0_coder_7d493 (sm : Nat) (sb : Nat → Int32)    (Q : Int32 → Unit → Prop) : Prop := ((((1 : Int32) = 0) → Q (1 : Int32) ()) ∧ (¬ ((1 : Int32) = 0) → Q (0 : Int32) ()))
abbrev rmJ0_coder_7d493 : Room := { frames := 0, cells := 0, slots := 0, locals := 0 }
set_option maxHeartbeats 4000000 in
set_option maxRecDepth 100000 in
theorem t_J0_coder_7d493 (l : Launch) (dC : Nat → ClassId) (dI : Nat → Nat → Nat) (adK : Nat → Nat) (adV : Nat → Nat) (sq : Nat) (sv : Nat) (sm : Nat) (sb : Nat → Int32) (sz : Nat)     (Q0 : Int32 → Unit → Prop) (hw : w_J0_coder_7d493 sm sb    Q0) : Met l yJ0_coder_7d493 wsJ0_coder_7d493 rmJ0_coder_7d493 (g_pre (czs adK adV sq sv sm sb) (dC, dI) vwCl [] (W_S adK adV sq sv sm sb ) sz [.ref sq]) (g_qi (dC, dI) vwCl [] (fun u : Unit => (W_S adK adV sq sv sm sb )) Q0 (va_A (W_S adK adV sq sv sm sb ) sz)) 0 0 (va_A (W_S adK adV sq sv sm sb ) sz) := by
  refine g_startn (by decide) rfl (Nat.le_of_ble_eq_true rfl) ?_
  intro p e s m args below meth c A Q ls hx hb hml hown hts hin hK hP hD hA hS hZ hret hl
  obtain ⟨H, eH⟩ : ∃ H : Heap, H = s.heap := ⟨_, rfl⟩
  obtain ⟨locs, eL⟩ : ∃ L : List Loc, L = [] := ⟨_, rfl⟩
  have hS : va_S A s.heap H locs := by rw [eH, eL]; exact hS
  rw [← eH] at hP
  suffices hg : W p l e rmJ0_coder_7d493 s m args below meth c H locs 0 0 Q (F0 m 0 ls []) by rw [eH, eL] at hg; exact hg
  clear eH eL
  replace hl : lv_has ls 1 [(0, .ref sq)] := hl
  have hf38 := hts (.fieldLink RJ0 38 "java/lang/String" "COMPACT_STRINGS" "Z") (by decide +kernel)
  have hf15 := hts (.fieldLink RJ0 15 "java/lang/String" "coder" "B") (by decide +kernel)
  unfold w_J0_coder_7d493 at hw
  refine va_gets hx hb (v := .int 1) (hZ.1.2.2.2.2.2.1 _ (List.mem_of_getElem? (i := 0) rfl)) hS hown hf38 (fun _ h9 => h9) dJ0_coder_7d493_0 ?_
  refine lv_if_eq (tgt := 13) hx hb dJ0_coder_7d493_3 (by decide) (fun hc1 => ?_) (fun hc1 => ?_)
  · replace hw := hw.1 hc1
    refine lv_iconst (v := 1) hx hb dJ0_coder_7d493_13 (by decide) ?_
    exact hret dJ0_coder_7d493_14 hK hP hD hS rfl hw
  · replace hw := hw.2 hc1
    refine lv_aload_n hx hb dJ0_coder_7d493_6 rfl (lv_at hl 0 rfl) ?_
    refine vk_getf hx hb (v := .int (0 : Int32)) hZ.2.2.1 hS hown hf15 (fun _ h9 => h9) dJ0_coder_7d493_7 ?_
    refine lv_goto (tgt := 14) hx hb dJ0_coder_7d493_10 (by decide) ?_
    exact hret dJ0_coder_7d493_14 hK hP hD hS rfl hw

def w_J0_isLatin1_aae02 (sm : Nat) (sb : Nat → Int32)    (Q : Int32 → Unit → Prop) : Prop := ((((1 : Int32) = 0) → Q (0 : Int32) ()) ∧ (¬ ((1 : Int32) = 0) → (((¬ (0 : Int32) = 0) → Q (0 : Int32) ()) ∧ ((0 : Int32) = 0 → Q (1 : Int32) ()))))
abbrev rmJ0_isLatin1_aae02 : Room := { frames := 0, cells := 0, slots := 0, locals := 0 }
set_option maxHeartbeats 4000000 in
set_option maxRecDepth 100000 in
theorem t_J0_isLatin1_aae02 (l : Launch) (dC : Nat → ClassId) (dI : Nat → Nat → Nat) (adK : Nat → Nat) (adV : Nat → Nat) (sq : Nat) (sv : Nat) (sm : Nat) (sb : Nat → Int32) (sz : Nat)     (Q0 : Int32 → Unit → Prop) (hw : w_J0_isLatin1_aae02 sm sb    Q0) : Met l yJ0_isLatin1_aae02 wsJ0_isLatin1_aae02 rmJ0_isLatin1_aae02 (g_pre (czs adK adV sq sv sm sb) (dC, dI) vwCl [] (W_S adK adV sq sv sm sb ) sz [.ref sq]) (g_qi (dC, dI) vwCl [] (fun u : Unit => (W_S adK adV sq sv sm sb )) Q0 (va_A (W_S adK adV sq sv sm sb ) sz)) 0 0 (va_A (W_S adK adV sq sv sm sb ) sz) := by
  refine g_startz (by decide) rfl (Nat.le_of_ble_eq_true rfl) ?_
  intro p e s m args below meth c A Q ls hx hb hml hown hts hin hK hP hD hA hS hZ hret hl
  obtain ⟨H, eH⟩ : ∃ H : Heap, H = s.heap := ⟨_, rfl⟩
  obtain ⟨locs, eL⟩ : ∃ L : List Loc, L = [] := ⟨_, rfl⟩
  have hS : va_S A s.heap H locs := by rw [eH, eL]; exact hS
  rw [← eH] at hP
  suffices hg : W p l e rmJ0_isLatin1_aae02 s m args below meth c H locs 0 0 Q (F0 m 0 ls []) by rw [eH, eL] at hg; exact hg
  clear eH eL
  replace hl : lv_has ls 1 [(0, .ref sq)] := hl
  have hf38 := hts (.fieldLink RJ0 38 "java/lang/String" "COMPACT_STRINGS" "Z") (by decide +kernel)
  have hf15 := hts (.fieldLink RJ0 15 "java/lang/String" "coder" "B") (by decide +kernel)
  unfold w_J0_isLatin1_aae02 at hw
  refine va_gets hx hb (v := .int 1) (hZ.1.2.2.2.2.2.1 _ (List.mem_of_getElem? (i := 0) rfl)) hS hown hf38 (fun _ h9 => h9) dJ0_isLatin1_aae02_0 ?_
  refine lv_if_eq (tgt := 17) hx hb dJ0_isLatin1_aae02_3 (by decide) (fun hc1 => ?_) (fun hc1 => ?_)
  · replace hw := hw.1 hc1
    refine lv_iconst (v := 0) hx hb dJ0_isLatin1_aae02_17 (by decide) ?_
    exact hret dJ0_isLatin1_aae02_18 hK hP hD hS isB_0 hw
  · replace hw := hw.2 hc1
    refine lv_aload_n hx hb dJ0_isLatin1_aae02_6 rfl (lv_at hl 0 rfl) ?_
    refine vk_getf hx hb (v := .int (0 : Int32)) hZ.2.2.1 hS hown hf15 (fun _ h9 => h9) dJ0_isLatin1_aae02_7 ?_
    refine lv_if_ne (tgt := 17) hx hb dJ0_isLatin1_aae02_10 (by decide) (fun hc2 => ?_) (fun hc2 => ?_)
    · replace hw := hw.1 hc2
      refine lv_iconst (v := 0) hx hb dJ0_isLatin1_aae02_17 (by decide) ?_
      exact hret dJ0_isLatin1_aae02_18 hK hP hD hS isB_0 hw
    · replace hw := hw.2 hc2
      refine lv_iconst (v := 1) hx hb dJ0_isLatin1_aae02_13 (by decide) ?_
      refine lv_goto (tgt := 18) hx hb dJ0_isLatin1_aae02_14 (by decide) ?_
      exact hret dJ0_isLatin1_aae02_18 hK hP hD hS isB_1 hw

def w_J0_length_8abf5 (sm : Nat) (sb : Nat → Int32)    (Q : Int32 → Unit → Prop) : Prop := w_J0_coder_7d493 sm sb   (fun (r2 : Int32) (u1 : Unit) => Q ((nI sm) >>> (r2 &&& 31)) ())
abbrev rmJ0_length_8abf5 : Room := { frames := 1, cells := 0, slots := 0, locals := 20 }
set_option maxHeartbeats 4000000 in
set_option maxRecDepth 100000 in
theorem t_J0_length_8abf5 (l : Launch) (dC : Nat → ClassId) (dI : Nat → Nat → Nat) (adK : Nat → Nat) (adV : Nat → Nat) (sq : Nat) (sv : Nat) (sm : Nat) (sb : Nat → Int32) (sz : Nat)     (Q0 : Int32 → Unit → Prop) (hw : w_J0_length_8abf5 sm sb    Q0) : Met l yJ0_length_8abf5 wsJ0_length_8abf5 rmJ0_length_8abf5 (g_pre (czs adK adV sq sv sm sb) (dC, dI) vwCl [] (W_S adK adV sq sv sm sb ) sz [.ref sq]) (g_qi (dC, dI) vwCl [] (fun u : Unit => (W_S adK adV sq sv sm sb )) Q0 (va_A (W_S adK adV sq sv sm sb ) sz)) 0 0 (va_A (W_S adK adV sq sv sm sb ) sz) := by
  refine g_starti (by decide) rfl (Nat.le_of_ble_eq_true rfl) ?_
  intro p e s m args below meth c A Q ls hx hb hml hown hts hin hK hP hD hA hS hZ hret hl
  obtain ⟨H, eH⟩ : ∃ H : Heap, H = s.heap := ⟨_, rfl⟩
  obtain ⟨locs, eL⟩ : ∃ L : List Loc, L = [] := ⟨_, rfl⟩
  have hS : va_S A s.heap H locs := by rw [eH, eL]; exact hS
  rw [← eH] at hP
  suffices hg : W p l e rmJ0_length_8abf5 s m args below meth c H locs 0 0 Q (F0 m 0 ls []) by rw [eH, eL] at hg; exact hg
  clear eH eL
  replace hl : lv_has ls 1 [(0, .ref sq)] := hl
  have hf9 := hts (.fieldLink RJ0 9 "java/lang/String" "value" "[B") (by decide +kernel)
  unfold w_J0_length_8abf5 at hw
  refine lv_aload_n hx hb dJ0_length_8abf5_0 rfl (lv_at hl 0 rfl) ?_
  refine vk_getf hx hb (v := .ref sv) hZ.2.2.2.1 hS hown hf9 (fun _ h9 => h9) dJ0_length_8abf5_1 ?_
  refine va_tlen hx hb hZ.2.2.2.2 hS (v := nI sm) rfl dJ0_length_8abf5_4 ?_
  refine lv_aload_n hx hb dJ0_length_8abf5_5 rfl (lv_at hl 0 rfl) ?_
  refine g_ci (g_J.plain (W2 := fun u1 : Unit => (W_S adK adV sq sv sm sb )) [] [] [] [] rfl (by decide) rfl (by decide) (by decide) (fun _ => rfl) (by decide)) [] hK hP hD hS hA rfl (fun hPc hDc hKc hFc => va_runV (As := []) (rest := [.int (nI sm)]) ⟨hx, hb, hml, hown, hts⟩ (t_J0_coder_7d493 l dC dI adK adV sq sv sm sb H.size    _ hw) (cwV 0 hts gJ0_length_8abf5_J0_coder_7d493 rfl rfl rfl (by decide +kernel) ⟨Nat.le_of_ble_eq_true rfl, Nat.le_of_ble_eq_true rfl⟩) (g_pVs czsb hZ.2 hS hPc hDc hKc (czsc hZ hS hFc)) rfl rfl hl.1 rfl (lv_room (Nat.le_of_ble_eq_true rfl)) dJ0_length_8abf5_6 ⟨Nat.le_of_ble_eq_true rfl, Nat.le_of_ble_eq_true rfl⟩) (fun r2 u1 H locs hw hP hD hS => ?_)
  replace hP : va_P (dC, dI) vwCl (W_S adK adV sq sv sm sb ) H := hP
  replace hD : va_D A (W_S adK adV sq sv sm sb ) := hD
  refine lv_ishr hx hb dJ0_length_8abf5_9 ?_
  exact hret dJ0_length_8abf5_10 hK hP hD hS hw

def w_J0_isEmpty_aae02 (sm : Nat) (sb : Nat → Int32)    (Q : Int32 → Unit → Prop) : Prop := (((¬ (nI sm) = 0) → Q (0 : Int32) ()) ∧ ((nI sm) = 0 → Q (1 : Int32) ()))
abbrev rmJ0_isEmpty_aae02 : Room := { frames := 0, cells := 0, slots := 0, locals := 0 }
set_option maxHeartbeats 4000000 in
set_option maxRecDepth 100000 in
theorem t_J0_isEmpty_aae02 (l : Launch) (dC : Nat → ClassId) (dI : Nat → Nat → Nat) (adK : Nat → Nat) (adV : Nat → Nat) (sq : Nat) (sv : Nat) (sm : Nat) (sb : Nat → Int32) (sz : Nat)     (Q0 : Int32 → Unit → Prop) (hw : w_J0_isEmpty_aae02 sm sb    Q0) : Met l yJ0_isEmpty_aae02 wsJ0_isEmpty_aae02 rmJ0_isEmpty_aae02 (g_pre (czs adK adV sq sv sm sb) (dC, dI) vwCl [] (W_S adK adV sq sv sm sb ) sz [.ref sq]) (g_qi (dC, dI) vwCl [] (fun u : Unit => (W_S adK adV sq sv sm sb )) Q0 (va_A (W_S adK adV sq sv sm sb ) sz)) 0 0 (va_A (W_S adK adV sq sv sm sb ) sz) := by
  refine g_startz (by decide) rfl (Nat.le_of_ble_eq_true rfl) ?_
  intro p e s m args below meth c A Q ls hx hb hml hown hts hin hK hP hD hA hS hZ hret hl
  obtain ⟨H, eH⟩ : ∃ H : Heap, H = s.heap := ⟨_, rfl⟩
  obtain ⟨locs, eL⟩ : ∃ L : List Loc, L = [] := ⟨_, rfl⟩
  have hS : va_S A s.heap H locs := by rw [eH, eL]; exact hS
  rw [← eH] at hP
  suffices hg : W p l e rmJ0_isEmpty_aae02 s m args below meth c H locs 0 0 Q (F0 m 0 ls []) by rw [eH, eL] at hg; exact hg
  clear eH eL
  replace hl : lv_has ls 1 [(0, .ref sq)] := hl
  have hf9 := hts (.fieldLink RJ0 9 "java/lang/String" "value" "[B") (by decide +kernel)
  unfold w_J0_isEmpty_aae02 at hw
  refine lv_aload_n hx hb dJ0_isEmpty_aae02_0 rfl (lv_at hl 0 rfl) ?_
  refine vk_getf hx hb (v := .ref sv) hZ.2.2.2.1 hS hown hf9 (fun _ h9 => h9) dJ0_isEmpty_aae02_1 ?_
  refine va_tlen hx hb hZ.2.2.2.2 hS (v := nI sm) rfl dJ0_isEmpty_aae02_4 ?_
  refine lv_if_ne (tgt := 12) hx hb dJ0_isEmpty_aae02_5 (by decide) (fun hc1 => ?_) (fun hc1 => ?_)
  · replace hw := hw.1 hc1
    refine lv_iconst (v := 0) hx hb dJ0_isEmpty_aae02_12 (by decide) ?_
    exact hret dJ0_isEmpty_aae02_13 hK hP hD hS isB_0 hw
  · replace hw := hw.2 hc1
    refine lv_iconst (v := 1) hx hb dJ0_isEmpty_aae02_8 (by decide) ?_
    refine lv_goto (tgt := 13) hx hb dJ0_isEmpty_aae02_9 (by decide) ?_
    exact hret dJ0_isEmpty_aae02_13 hK hP hD hS isB_1 hw

def w_J1_charAt_3b067 (sm : Nat) (sb : Nat → Int32)   (p1 : Int32) (Q : Int32 → Unit → Prop) : Prop := w_J0_checkIndex_df160   p1 (nI sm) (fun (u1 : Unit) => (vp_in p1 sm) ∧ (narrow .char (.int ((((sb p1.toNatClampNeg) &&& (255 : Int32)).toUInt32 % 65536).toInt32)) = .int ((((sb p1.toNatClampNeg) &&& (255 : Int32)).toUInt32 % 65536).toInt32)) ∧ Q ((((sb p1.toNatClampNeg) &&& (255 : Int32)).toUInt32 % 65536).toInt32) ())
abbrev rmJ1_charAt_3b067 : Room := { frames := 2, cells := 0, slots := 0, locals := 43 }
set_option maxHeartbeats 4000000 in
set_option maxRecDepth 100000 in
theorem t_J1_charAt_3b067 (l : Launch) (dC : Nat → ClassId) (dI : Nat → Nat → Nat) (adK : Nat → Nat) (adV : Nat → Nat) (sq : Nat) (sv : Nat) (sm : Nat) (sb : Nat → Int32) (sz : Nat)    (p1 : Int32) (Q0 : Int32 → Unit → Prop) (hw : w_J1_charAt_3b067 sm sb   p1 Q0) : Met l yJ1_charAt_3b067 wsJ1_charAt_3b067 rmJ1_charAt_3b067 (g_pre (czs adK adV sq sv sm sb) (dC, dI) vwCl [] (W_S adK adV sq sv sm sb ) sz [.ref sv, .int p1]) (g_qi (dC, dI) vwCl [] (fun u : Unit => (W_S adK adV sq sv sm sb )) Q0 (va_A (W_S adK adV sq sv sm sb ) sz)) 0 0 (va_A (W_S adK adV sq sv sm sb ) sz) := by
  refine g_startn (by decide) rfl (Nat.le_of_ble_eq_true rfl) ?_
  intro p e s m args below meth c A Q ls hx hb hml hown hts hin hK hP hD hA hS hZ hret hl
  obtain ⟨H, eH⟩ : ∃ H : Heap, H = s.heap := ⟨_, rfl⟩
  obtain ⟨locs, eL⟩ : ∃ L : List Loc, L = [] := ⟨_, rfl⟩
  have hS : va_S A s.heap H locs := by rw [eH, eL]; exact hS
  rw [← eH] at hP
  suffices hg : W p l e rmJ1_charAt_3b067 s m args below meth c H locs 0 0 Q (F0 m 0 ls []) by rw [eH, eL] at hg; exact hg
  clear eH eL
  replace hl : lv_has ls 2 [(0, .ref sv), (1, .int p1)] := hl
  unfold w_J1_charAt_3b067 at hw
  refine lv_iload_n hx hb dJ1_charAt_3b067_0 rfl (lv_at hl 1 rfl) ?_
  refine lv_aload_n hx hb dJ1_charAt_3b067_1 rfl (lv_at hl 0 rfl) ?_
  refine va_tlen hx hb hZ.2.2.2.2 hS (v := nI sm) rfl dJ1_charAt_3b067_2 ?_
  refine g_cv (g_J.plain (W2 := fun u1 : Unit => (W_S adK adV sq sv sm sb )) [] [] [] [] rfl (by decide) rfl (by decide) (by decide) (fun _ => rfl) (by decide)) [] hK hP hD hS hA rfl (fun hPc hDc hKc hFc => va_runS (As := [.int p1, .int (nI sm)]) (rest := []) ⟨hx, hb, hml, hown, hts⟩ (t_J0_checkIndex_df160 l dC dI adK adV H.size   p1 (nI sm) _ hw) (va_cwS 2 hts gJ1_charAt_3b067_J0_checkIndex_df160 rfl rfl rfl (by decide +kernel) ⟨Nat.le_of_ble_eq_true rfl, Nat.le_of_ble_eq_true rfl⟩) (g_pS czb hPc hDc hKc (czc hZ.1 hS hFc)) rfl rfl hl.1 rfl (lv_room (Nat.le_of_ble_eq_true rfl)) dJ1_charAt_3b067_3 ⟨Nat.le_of_ble_eq_true rfl, Nat.le_of_ble_eq_true rfl⟩) (fun u1 H locs hw hP hD hS => ?_)
  replace hP : va_P (dC, dI) vwCl (W_S adK adV sq sv sm sb ) H := hP
  replace hD : va_D A (W_S adK adV sq sv sm sb ) := hD
  refine lv_aload_n hx hb dJ1_charAt_3b067_6 rfl (lv_at hl 0 rfl) ?_
  refine lv_iload_n hx hb dJ1_charAt_3b067_7 rfl (lv_at hl 1 rfl) ?_
  obtain ⟨hb2, hw⟩ := hw
  refine va_tb hx hb hZ.2.2.2.2 hS hb2 (v := .int (sb p1.toNatClampNeg)) rfl dJ1_charAt_3b067_8 ?_
  refine lv_sipush (v := 255) hx hb dJ1_charAt_3b067_9 (by decide) ?_
  refine lv_iand hx hb dJ1_charAt_3b067_12 ?_
  refine lv_i2c hx hb dJ1_charAt_3b067_13 rfl ?_
  obtain ⟨hz, hw⟩ := hw
  exact hret dJ1_charAt_3b067_14 hK hP hD hS hz hw

def w_J0_charAt_5068e (sm : Nat) (sb : Nat → Int32)   (p0 : Int32) (Q : Int32 → Unit → Prop) : Prop := w_J0_isLatin1_aae02 sm sb   (fun (r2 : Int32) (u1 : Unit) => (((r2 = 0) → False) ∧ (¬ (r2 = 0) → w_J1_charAt_3b067 sm sb  p0 (fun (r5 : Int32) (u4 : Unit) => (narrow .char (.int r5) = .int r5) ∧ Q r5 ()))))
abbrev rmJ0_charAt_5068e : Room := { frames := 3, cells := 0, slots := 0, locals := 64 }
set_option maxHeartbeats 4000000 in
set_option maxRecDepth 100000 in
theorem t_J0_charAt_5068e (l : Launch) (dC : Nat → ClassId) (dI : Nat → Nat → Nat) (adK : Nat → Nat) (adV : Nat → Nat) (sq : Nat) (sv : Nat) (sm : Nat) (sb : Nat → Int32) (sz : Nat)    (p0 : Int32) (Q0 : Int32 → Unit → Prop) (hw : w_J0_charAt_5068e sm sb   p0 Q0) : Met l yJ0_charAt_5068e wsJ0_charAt_5068e rmJ0_charAt_5068e (g_pre (czs adK adV sq sv sm sb) (dC, dI) vwCl [] (W_S adK adV sq sv sm sb ) sz [.ref sq, .int p0]) (g_qi (dC, dI) vwCl [] (fun u : Unit => (W_S adK adV sq sv sm sb )) Q0 (va_A (W_S adK adV sq sv sm sb ) sz)) 0 0 (va_A (W_S adK adV sq sv sm sb ) sz) := by
  refine g_startn (by decide) rfl (Nat.le_of_ble_eq_true rfl) ?_
  intro p e s m args below meth c A Q ls hx hb hml hown hts hin hK hP hD hA hS hZ hret hl
  obtain ⟨H, eH⟩ : ∃ H : Heap, H = s.heap := ⟨_, rfl⟩
  obtain ⟨locs, eL⟩ : ∃ L : List Loc, L = [] := ⟨_, rfl⟩
  have hS : va_S A s.heap H locs := by rw [eH, eL]; exact hS
  rw [← eH] at hP
  suffices hg : W p l e rmJ0_charAt_5068e s m args below meth c H locs 0 0 Q (F0 m 0 ls []) by rw [eH, eL] at hg; exact hg
  clear eH eL
  replace hl : lv_has ls 2 [(0, .ref sq), (1, .int p0)] := hl
  have hf9 := hts (.fieldLink RJ0 9 "java/lang/String" "value" "[B") (by decide +kernel)
  unfold w_J0_charAt_5068e at hw
  refine lv_aload_n hx hb dJ0_charAt_5068e_0 rfl (lv_at hl 0 rfl) ?_
  refine g_ci (g_J.plain (W2 := fun u1 : Unit => (W_S adK adV sq sv sm sb )) [] [] [] [] rfl (by decide) rfl (by decide) (by decide) (fun _ => rfl) (by decide)) [] hK hP hD hS hA rfl (fun hPc hDc hKc hFc => va_runV (As := []) (rest := []) ⟨hx, hb, hml, hown, hts⟩ (t_J0_isLatin1_aae02 l dC dI adK adV sq sv sm sb H.size    _ hw) (cwV 0 hts gJ0_charAt_5068e_J0_isLatin1_aae02 rfl rfl rfl (by decide +kernel) ⟨Nat.le_of_ble_eq_true rfl, Nat.le_of_ble_eq_true rfl⟩) (g_pVs czsb hZ.2 hS hPc hDc hKc (czsc hZ hS hFc)) rfl rfl hl.1 rfl (lv_room (Nat.le_of_ble_eq_true rfl)) dJ0_charAt_5068e_1 ⟨Nat.le_of_ble_eq_true rfl, Nat.le_of_ble_eq_true rfl⟩) (fun r2 u1 H locs hw hP hD hS => ?_)
  replace hP : va_P (dC, dI) vwCl (W_S adK adV sq sv sm sb ) H := hP
  replace hD : va_D A (W_S adK adV sq sv sm sb ) := hD
  refine lv_if_eq (tgt := 16) hx hb dJ0_charAt_5068e_4 (by decide) (fun hc3 => ?_) (fun hc3 => ?_)
  · replace hw := hw.1 hc3
    refine lv_aload_n hx hb dJ0_charAt_5068e_16 rfl (lv_at hl 0 rfl) ?_
    refine vk_getf hx hb (v := .ref sv) hZ.2.2.2.1 hS hown hf9 (fun _ h9 => h9) dJ0_charAt_5068e_17 ?_
    refine lv_iload_n hx hb dJ0_charAt_5068e_20 rfl (lv_at hl 1 rfl) ?_
    exact hw.elim
  · replace hw := hw.2 hc3
    refine lv_aload_n hx hb dJ0_charAt_5068e_7 rfl (lv_at hl 0 rfl) ?_
    refine vk_getf hx hb (v := .ref sv) hZ.2.2.2.1 hS hown hf9 (fun _ h9 => h9) dJ0_charAt_5068e_8 ?_
    refine lv_iload_n hx hb dJ0_charAt_5068e_11 rfl (lv_at hl 1 rfl) ?_
    refine g_ci (g_J.plain (W2 := fun u4 : Unit => (W_S adK adV sq sv sm sb )) [] [] [] [] rfl (by decide) rfl (by decide) (by decide) (fun _ => rfl) (by decide)) [] hK hP hD hS hA rfl (fun hPc hDc hKc hFc => va_runS (As := [.ref sv, .int p0]) (rest := []) ⟨hx, hb, hml, hown, hts⟩ (t_J1_charAt_3b067 l dC dI adK adV sq sv sm sb H.size   p0 _ hw) (va_cwS 2 hts gJ0_charAt_5068e_J1_charAt_3b067 rfl rfl rfl (by decide +kernel) ⟨Nat.le_of_ble_eq_true rfl, Nat.le_of_ble_eq_true rfl⟩) (g_pS czsb hPc hDc hKc (czsc hZ hS hFc)) rfl rfl hl.1 rfl (lv_room (Nat.le_of_ble_eq_true rfl)) dJ0_charAt_5068e_12 ⟨Nat.le_of_ble_eq_true rfl, Nat.le_of_ble_eq_true rfl⟩) (fun r5 u4 H locs hw hP hD hS => ?_)
    replace hP : va_P (dC, dI) vwCl (W_S adK adV sq sv sm sb ) H := hP
    replace hD : va_D A (W_S adK adV sq sv sm sb ) := hD
    obtain ⟨hz, hw⟩ := hw
    exact hret dJ0_charAt_5068e_15 hK hP hD hS hz hw

def w_J1_indexOfChar_4cfef (sm : Nat) (sb : Nat → Int32)   (p1 : Int32) (p2 : Int32) (p3 : Int32) (Q : Int32 → Unit → Prop) : Prop := ∀ x1 : Int32, x1 = (p1.toInt8.toInt32) → (∀ X3 : Int32 → Prop, (∀ (x2 : Int32), ((((p3 ≤ x2) → Q (-1 : Int32) ()) ∧ (¬ (p3 ≤ x2) → (vp_in x2 sm) ∧ (((¬ (sb x2.toNatClampNeg) = x1) → ∀ x7 : Int32, x7 = x2 + (1 : Int32) → X3 x7) ∧ ((sb x2.toNatClampNeg) = x1 → Q x2 ()))))) → X3 x2) → X3 p2)
abbrev rmJ1_indexOfChar_4cfef : Room := { frames := 0, cells := 0, slots := 0, locals := 0 }
set_option maxHeartbeats 4000000 in
set_option maxRecDepth 100000 in
theorem t_J1_indexOfChar_4cfef (l : Launch) (dC : Nat → ClassId) (dI : Nat → Nat → Nat) (adK : Nat → Nat) (adV : Nat → Nat) (sq : Nat) (sv : Nat) (sm : Nat) (sb : Nat → Int32) (sz : Nat)    (p1 : Int32) (p2 : Int32) (p3 : Int32) (Q0 : Int32 → Unit → Prop) (hw : w_J1_indexOfChar_4cfef sm sb   p1 p2 p3 Q0) : Met l yJ1_indexOfChar_4cfef wsJ1_indexOfChar_4cfef rmJ1_indexOfChar_4cfef (g_pre (czs adK adV sq sv sm sb) (dC, dI) vwCl [] (W_S adK adV sq sv sm sb ) sz [.ref sv, .int p1, .int p2, .int p3]) (g_qi (dC, dI) vwCl [] (fun u : Unit => (W_S adK adV sq sv sm sb )) Q0 (va_A (W_S adK adV sq sv sm sb ) sz)) 0 0 (va_A (W_S adK adV sq sv sm sb ) sz) := by
  refine g_starti (by decide) rfl (Nat.le_of_ble_eq_true rfl) ?_
  intro p e s m args below meth c A Q ls hx hb hml hown hts hin hK hP hD hA hS hZ hret hl
  obtain ⟨H, eH⟩ : ∃ H : Heap, H = s.heap := ⟨_, rfl⟩
  obtain ⟨locs, eL⟩ : ∃ L : List Loc, L = [] := ⟨_, rfl⟩
  have hS : va_S A s.heap H locs := by rw [eH, eL]; exact hS
  rw [← eH] at hP
  suffices hg : W p l e rmJ1_indexOfChar_4cfef s m args below meth c H locs 0 0 Q (F0 m 0 ls []) by rw [eH, eL] at hg; exact hg
  clear eH eL
  replace hl : lv_has ls 6 [(0, .ref sv), (1, .int p1), (2, .int p2), (3, .int p3)] := hl
  unfold w_J1_indexOfChar_4cfef at hw
  refine lv_iload_n hx hb dJ1_indexOfChar_4cfef_0 rfl (lv_at hl 1 rfl) ?_
  refine lv_i2b hx hb dJ1_indexOfChar_4cfef_1 rfl ?_
  refine lv_topi (fun x1 ex1 => ?_)
  replace hw := hw x1 ex1
  refine lv_istore (lv' := [(4, .int x1), (0, .ref sv), (1, .int p1), (2, .int p2), (3, .int p3)]) hx hb dJ1_indexOfChar_4cfef_2 hl (by decide) rfl (fun ls hl => ?_)
  refine lv_iload_n hx hb dJ1_indexOfChar_4cfef_4 rfl (lv_at hl 3 rfl) ?_
  refine lv_istore (lv' := [(5, .int p2), (4, .int x1), (0, .ref sv), (1, .int p1), (2, .int p2), (3, .int p3)]) hx hb dJ1_indexOfChar_4cfef_5 hl (by decide) rfl (fun ls hl => ?_)
  refine hw (fun (x2 : Int32) => ∀ (H : Heap) (locs : List Loc) (ls : Array Slot), va_P (dC, dI) vwCl (W_S adK adV sq sv sm sb ) H → va_D A (W_S adK adV sq sv sm sb ) → va_S A s.heap H locs → lv_has ls 6 [(0, .ref sv), (3, .int p3), (4, .int x1), (5, .int x2)] → W p l e rmJ1_indexOfChar_4cfef s m args below meth c H locs 0 0 Q (F0 m 7 ls [])) ?_ H locs ls hP hD hS (lv_sub hl [2, 5, 1, 0] rfl)
  · intro x2 hw H locs ls hP hD hS hl
    refine lv_iload hx hb dJ1_indexOfChar_4cfef_7 (lv_at hl 3 rfl) ?_
    refine lv_iload_n hx hb dJ1_indexOfChar_4cfef_9 rfl (lv_at hl 1 rfl) ?_
    refine lv_icmp_ge (tgt := 31) hx hb dJ1_indexOfChar_4cfef_10 (by decide) (fun hc4 => ?_) (fun hc4 => ?_)
    · replace hw := hw.1 hc4
      refine lv_iconst (v := -1) hx hb dJ1_indexOfChar_4cfef_31 (by decide) ?_
      exact hret dJ1_indexOfChar_4cfef_32 hK hP hD hS hw
    · replace hw := hw.2 hc4
      refine lv_aload_n hx hb dJ1_indexOfChar_4cfef_13 rfl (lv_at hl 0 rfl) ?_
      refine lv_iload hx hb dJ1_indexOfChar_4cfef_14 (lv_at hl 3 rfl) ?_
      obtain ⟨hb5, hw⟩ := hw
      refine va_tb hx hb hZ.2.2.2.2 hS hb5 (v := .int (sb x2.toNatClampNeg)) rfl dJ1_indexOfChar_4cfef_16 ?_
      refine lv_iload hx hb dJ1_indexOfChar_4cfef_17 (lv_at hl 2 rfl) ?_
      refine lv_icmp_ne (tgt := 25) hx hb dJ1_indexOfChar_4cfef_19 (by decide) (fun hc6 => ?_) (fun hc6 => ?_)
      · replace hw := hw.1 hc6
        obtain ⟨x7, ex7⟩ : ∃ y : Int32, y = x2 + (1 : Int32) := ⟨_, rfl⟩
        replace hw := hw x7 ex7
        refine lv_iinc (v := x7) (lv' := [(5, .int x7), (0, .ref sv), (3, .int p3), (4, .int x1)]) hx hb dJ1_indexOfChar_4cfef_25 hl (k := 3) rfl (by rw [ex7]; rfl) (by decide) rfl (fun ls hl => ?_)
        refine lv_goto (tgt := 7) hx hb dJ1_indexOfChar_4cfef_28 (by decide) ?_
        exact hw H locs ls hP hD hS (lv_sub hl [1, 2, 3, 0] rfl)
      · replace hw := hw.2 hc6
        refine lv_iload hx hb dJ1_indexOfChar_4cfef_22 (lv_at hl 3 rfl) ?_
        exact hret dJ1_indexOfChar_4cfef_24 hK hP hD hS hw

def w_J1_indexOf_4cfef (sm : Nat) (sb : Nat → Int32)   (p1 : Int32) (p2 : Int32) (p3 : Int32) (Q : Int32 → Unit → Prop) : Prop := w_J1_canEncode_9a6ad p1 (fun (r1 : Int32) => (((¬ r1 = 0) → ∀ x3 : Int32, x3 = (if p2 < (0 : Int32) then (0 : Int32) else p2) → ∀ x4 : Int32, x4 = (if (nI sm) < p3 then (nI sm) else p3) → (((x3 < x4) → w_J1_indexOfChar_4cfef sm sb  p1 x3 x4 (fun (r7 : Int32) (u6 : Unit) => Q r7 ())) ∧ (¬ (x3 < x4) → Q (-1 : Int32) ()))) ∧ (r1 = 0 → Q (-1 : Int32) ())))
abbrev rmJ1_indexOf_4cfef : Room := { frames := 1, cells := 0, slots := 0, locals := 40 }
set_option maxHeartbeats 4000000 in
set_option maxRecDepth 100000 in
theorem t_J1_indexOf_4cfef (l : Launch) (dC : Nat → ClassId) (dI : Nat → Nat → Nat) (adK : Nat → Nat) (adV : Nat → Nat) (sq : Nat) (sv : Nat) (sm : Nat) (sb : Nat → Int32) (sz : Nat)    (p1 : Int32) (p2 : Int32) (p3 : Int32) (Q0 : Int32 → Unit → Prop) (hw : w_J1_indexOf_4cfef sm sb   p1 p2 p3 Q0) : Met l yJ1_indexOf_4cfef wsJ1_indexOf_4cfef rmJ1_indexOf_4cfef (g_pre (czs adK adV sq sv sm sb) (dC, dI) vwCl [] (W_S adK adV sq sv sm sb ) sz [.ref sv, .int p1, .int p2, .int p3]) (g_qi (dC, dI) vwCl [] (fun u : Unit => (W_S adK adV sq sv sm sb )) Q0 (va_A (W_S adK adV sq sv sm sb ) sz)) 0 0 (va_A (W_S adK adV sq sv sm sb ) sz) := by
  refine g_starti (by decide) rfl (Nat.le_of_ble_eq_true rfl) ?_
  intro p e s m args below meth c A Q ls hx hb hml hown hts hin hK hP hD hA hS hZ hret hl
  obtain ⟨H, eH⟩ : ∃ H : Heap, H = s.heap := ⟨_, rfl⟩
  obtain ⟨locs, eL⟩ : ∃ L : List Loc, L = [] := ⟨_, rfl⟩
  have hS : va_S A s.heap H locs := by rw [eH, eL]; exact hS
  rw [← eH] at hP
  suffices hg : W p l e rmJ1_indexOf_4cfef s m args below meth c H locs 0 0 Q (F0 m 0 ls []) by rw [eH, eL] at hg; exact hg
  clear eH eL
  replace hl : lv_has ls 4 [(0, .ref sv), (1, .int p1), (2, .int p2), (3, .int p3)] := hl
  have ml92 := hts (.methodLink RJ1 92 Lib.Math.max.name) (by decide +kernel)
  have msmax := hts (.static Lib.Math.max.name) (by decide +kernel)
  have miMath := hts (.initialized "java/lang/Math") (by decide +kernel)
  have mcmax := hts (.code Lib.Math.max.name Lib.Math.max.code 2 (some .int)) (by decide +kernel)
  have ml38 := hts (.methodLink RJ1 38 Lib.Math.min.name) (by decide +kernel)
  have msmin := hts (.static Lib.Math.min.name) (by decide +kernel)
  have mcmin := hts (.code Lib.Math.min.name Lib.Math.min.code 2 (some .int)) (by decide +kernel)
  unfold w_J1_indexOf_4cfef at hw
  refine lv_iload_n hx hb dJ1_indexOf_4cfef_0 rfl (lv_at hl 1 rfl) ?_
  refine g_c0 (rest := []) (va_runS (As := [.int p1]) (rest := []) ⟨hx, hb, hml, hown, hts⟩ (t_J1_canEncode_9a6ad l  p1 _ hw) (va_cwS 1 hts gJ1_indexOf_4cfef_J1_canEncode_9a6ad rfl rfl rfl (by decide +kernel) ⟨Nat.le_of_ble_eq_true rfl, Nat.le_of_ble_eq_true rfl⟩) g_p0S rfl rfl hl.1 rfl (lv_room (Nat.le_of_ble_eq_true rfl)) dJ1_indexOf_4cfef_1 ⟨Nat.le_of_ble_eq_true rfl, Nat.le_of_ble_eq_true rfl⟩) (fun r1 hw => ?_)
  refine lv_if_ne (tgt := 9) hx hb dJ1_indexOf_4cfef_4 (by decide) (fun hc2 => ?_) (fun hc2 => ?_)
  · replace hw := hw.1 hc2
    refine lv_iload_n hx hb dJ1_indexOf_4cfef_9 rfl (lv_at hl 2 rfl) ?_
    refine lv_iconst (v := 0) hx hb dJ1_indexOf_4cfef_10 (by decide) ?_
    refine va_mmax hx hb (hml.trans hl.1.symm) hown ml92 msmax miMath mcmax (Nat.le_of_ble_eq_true rfl) (Nat.le_of_ble_eq_true rfl) (Nat.le_of_ble_eq_true rfl) (Nat.le_of_ble_eq_true rfl) dJ1_indexOf_4cfef_11 ?_
    refine lv_topi (fun x3 ex3 => ?_)
    replace hw := hw x3 ex3
    refine lv_istore_n (lv' := [(2, .int x3), (0, .ref sv), (1, .int p1), (3, .int p3)]) hx hb dJ1_indexOf_4cfef_14 rfl hl (by decide) rfl (fun ls hl => ?_)
    refine lv_iload_n hx hb dJ1_indexOf_4cfef_15 rfl (lv_at hl 3 rfl) ?_
    refine lv_aload_n hx hb dJ1_indexOf_4cfef_16 rfl (lv_at hl 1 rfl) ?_
    refine va_tlen hx hb hZ.2.2.2.2 hS (v := nI sm) rfl dJ1_indexOf_4cfef_17 ?_
    refine va_mmin hx hb (hml.trans hl.1.symm) hown ml38 msmin miMath mcmin (Nat.le_of_ble_eq_true rfl) (Nat.le_of_ble_eq_true rfl) (Nat.le_of_ble_eq_true rfl) (Nat.le_of_ble_eq_true rfl) dJ1_indexOf_4cfef_18 ?_
    refine lv_topi (fun x4 ex4 => ?_)
    replace hw := hw x4 ex4
    refine lv_istore_n (lv' := [(3, .int x4), (2, .int x3), (0, .ref sv), (1, .int p1)]) hx hb dJ1_indexOf_4cfef_21 rfl hl (by decide) rfl (fun ls hl => ?_)
    refine lv_iload_n hx hb dJ1_indexOf_4cfef_22 rfl (lv_at hl 1 rfl) ?_
    refine lv_iload_n hx hb dJ1_indexOf_4cfef_23 rfl (lv_at hl 0 rfl) ?_
    refine lv_icmp_lt (tgt := 29) hx hb dJ1_indexOf_4cfef_24 (by decide) (fun hc5 => ?_) (fun hc5 => ?_)
    · replace hw := hw.1 hc5
      refine lv_aload_n hx hb dJ1_indexOf_4cfef_29 rfl (lv_at hl 2 rfl) ?_
      refine lv_iload_n hx hb dJ1_indexOf_4cfef_30 rfl (lv_at hl 3 rfl) ?_
      refine lv_iload_n hx hb dJ1_indexOf_4cfef_31 rfl (lv_at hl 1 rfl) ?_
      refine lv_iload_n hx hb dJ1_indexOf_4cfef_32 rfl (lv_at hl 0 rfl) ?_
      refine g_ci (g_J.plain (W2 := fun u6 : Unit => (W_S adK adV sq sv sm sb )) [] [] [] [] rfl (by decide) rfl (by decide) (by decide) (fun _ => rfl) (by decide)) [] hK hP hD hS hA rfl (fun hPc hDc hKc hFc => va_runS (As := [.ref sv, .int p1, .int x3, .int x4]) (rest := []) ⟨hx, hb, hml, hown, hts⟩ (t_J1_indexOfChar_4cfef l dC dI adK adV sq sv sm sb H.size   p1 x3 x4 _ hw) (va_cwS 4 hts gJ1_indexOf_4cfef_J1_indexOfChar_4cfef rfl rfl rfl (by decide +kernel) ⟨Nat.le_of_ble_eq_true rfl, Nat.le_of_ble_eq_true rfl⟩) (g_pS czsb hPc hDc hKc (czsc hZ hS hFc)) rfl rfl hl.1 rfl (lv_room (Nat.le_of_ble_eq_true rfl)) dJ1_indexOf_4cfef_33 ⟨Nat.le_of_ble_eq_true rfl, Nat.le_of_ble_eq_true rfl⟩) (fun r7 u6 H locs hw hP hD hS => ?_)
      replace hP : va_P (dC, dI) vwCl (W_S adK adV sq sv sm sb ) H := hP
      replace hD : va_D A (W_S adK adV sq sv sm sb ) := hD
      exact hret dJ1_indexOf_4cfef_36 hK hP hD hS hw
    · replace hw := hw.2 hc5
      refine lv_iconst (v := -1) hx hb dJ1_indexOf_4cfef_27 (by decide) ?_
      exact hret dJ1_indexOf_4cfef_28 hK hP hD hS hw
  · replace hw := hw.2 hc2
    refine lv_iconst (v := -1) hx hb dJ1_indexOf_4cfef_7 (by decide) ?_
    exact hret dJ1_indexOf_4cfef_8 hK hP hD hS hw

def w_J0_indexOf_7cf53 (sm : Nat) (sb : Nat → Int32)   (p0 : Int32) (p1 : Int32) (Q : Int32 → Unit → Prop) : Prop := w_J0_isLatin1_aae02 sm sb   (fun (r2 : Int32) (u1 : Unit) => (((r2 = 0) → w_J0_length_8abf5 sm sb   (fun (r5 : Int32) (u4 : Unit) => False)) ∧ (¬ (r2 = 0) → w_J0_length_8abf5 sm sb   (fun (r7 : Int32) (u6 : Unit) => w_J1_indexOf_4cfef sm sb  p0 p1 r7 (fun (r9 : Int32) (u8 : Unit) => Q r9 ())))))
abbrev rmJ0_indexOf_7cf53 : Room := { frames := 2, cells := 0, slots := 0, locals := 63 }
set_option maxHeartbeats 4000000 in
set_option maxRecDepth 100000 in
theorem t_J0_indexOf_7cf53 (l : Launch) (dC : Nat → ClassId) (dI : Nat → Nat → Nat) (adK : Nat → Nat) (adV : Nat → Nat) (sq : Nat) (sv : Nat) (sm : Nat) (sb : Nat → Int32) (sz : Nat)    (p0 : Int32) (p1 : Int32) (Q0 : Int32 → Unit → Prop) (hw : w_J0_indexOf_7cf53 sm sb   p0 p1 Q0) : Met l yJ0_indexOf_7cf53 wsJ0_indexOf_7cf53 rmJ0_indexOf_7cf53 (g_pre (czs adK adV sq sv sm sb) (dC, dI) vwCl [] (W_S adK adV sq sv sm sb ) sz [.ref sq, .int p0, .int p1]) (g_qi (dC, dI) vwCl [] (fun u : Unit => (W_S adK adV sq sv sm sb )) Q0 (va_A (W_S adK adV sq sv sm sb ) sz)) 0 0 (va_A (W_S adK adV sq sv sm sb ) sz) := by
  refine g_starti (by decide) rfl (Nat.le_of_ble_eq_true rfl) ?_
  intro p e s m args below meth c A Q ls hx hb hml hown hts hin hK hP hD hA hS hZ hret hl
  obtain ⟨H, eH⟩ : ∃ H : Heap, H = s.heap := ⟨_, rfl⟩
  obtain ⟨locs, eL⟩ : ∃ L : List Loc, L = [] := ⟨_, rfl⟩
  have hS : va_S A s.heap H locs := by rw [eH, eL]; exact hS
  rw [← eH] at hP
  suffices hg : W p l e rmJ0_indexOf_7cf53 s m args below meth c H locs 0 0 Q (F0 m 0 ls []) by rw [eH, eL] at hg; exact hg
  clear eH eL
  replace hl : lv_has ls 3 [(0, .ref sq), (1, .int p0), (2, .int p1)] := hl
  have hf9 := hts (.fieldLink RJ0 9 "java/lang/String" "value" "[B") (by decide +kernel)
  unfold w_J0_indexOf_7cf53 at hw
  refine lv_aload_n hx hb dJ0_indexOf_7cf53_0 rfl (lv_at hl 0 rfl) ?_
  refine g_ci (g_J.plain (W2 := fun u1 : Unit => (W_S adK adV sq sv sm sb )) [] [] [] [] rfl (by decide) rfl (by decide) (by decide) (fun _ => rfl) (by decide)) [] hK hP hD hS hA rfl (fun hPc hDc hKc hFc => va_runV (As := []) (rest := []) ⟨hx, hb, hml, hown, hts⟩ (t_J0_isLatin1_aae02 l dC dI adK adV sq sv sm sb H.size    _ hw) (cwV 0 hts gJ0_indexOf_7cf53_J0_isLatin1_aae02 rfl rfl rfl (by decide +kernel) ⟨Nat.le_of_ble_eq_true rfl, Nat.le_of_ble_eq_true rfl⟩) (g_pVs czsb hZ.2 hS hPc hDc hKc (czsc hZ hS hFc)) rfl rfl hl.1 rfl (lv_room (Nat.le_of_ble_eq_true rfl)) dJ0_indexOf_7cf53_1 ⟨Nat.le_of_ble_eq_true rfl, Nat.le_of_ble_eq_true rfl⟩) (fun r2 u1 H locs hw hP hD hS => ?_)
  replace hP : va_P (dC, dI) vwCl (W_S adK adV sq sv sm sb ) H := hP
  replace hD : va_D A (W_S adK adV sq sv sm sb ) := hD
  refine lv_if_eq (tgt := 23) hx hb dJ0_indexOf_7cf53_4 (by decide) (fun hc3 => ?_) (fun hc3 => ?_)
  · replace hw := hw.1 hc3
    refine lv_aload_n hx hb dJ0_indexOf_7cf53_23 rfl (lv_at hl 0 rfl) ?_
    refine vk_getf hx hb (v := .ref sv) hZ.2.2.2.1 hS hown hf9 (fun _ h9 => h9) dJ0_indexOf_7cf53_24 ?_
    refine lv_iload_n hx hb dJ0_indexOf_7cf53_27 rfl (lv_at hl 1 rfl) ?_
    refine lv_iload_n hx hb dJ0_indexOf_7cf53_28 rfl (lv_at hl 2 rfl) ?_
    refine lv_aload_n hx hb dJ0_indexOf_7cf53_29 rfl (lv_at hl 0 rfl) ?_
    refine g_ci (g_J.plain (W2 := fun u4 : Unit => (W_S adK adV sq sv sm sb )) [] [] [] [] rfl (by decide) rfl (by decide) (by decide) (fun _ => rfl) (by decide)) [] hK hP hD hS hA rfl (fun hPc hDc hKc hFc => va_runV (As := []) (rest := [.int p1, .int p0, .ref sv]) ⟨hx, hb, hml, hown, hts⟩ (t_J0_length_8abf5 l dC dI adK adV sq sv sm sb H.size    _ hw) (cwV 0 hts gJ0_indexOf_7cf53_J0_length_8abf5 rfl rfl rfl (by decide +kernel) ⟨Nat.le_of_ble_eq_true rfl, Nat.le_of_ble_eq_true rfl⟩) (g_pVs czsb hZ.2 hS hPc hDc hKc (czsc hZ hS hFc)) rfl rfl hl.1 rfl (lv_room (Nat.le_of_ble_eq_true rfl)) dJ0_indexOf_7cf53_30 ⟨Nat.le_of_ble_eq_true rfl, Nat.le_of_ble_eq_true rfl⟩) (fun r5 u4 H locs hw hP hD hS => ?_)
    replace hP : va_P (dC, dI) vwCl (W_S adK adV sq sv sm sb ) H := hP
    replace hD : va_D A (W_S adK adV sq sv sm sb ) := hD
    exact hw.elim
  · replace hw := hw.2 hc3
    refine lv_aload_n hx hb dJ0_indexOf_7cf53_7 rfl (lv_at hl 0 rfl) ?_
    refine vk_getf hx hb (v := .ref sv) hZ.2.2.2.1 hS hown hf9 (fun _ h9 => h9) dJ0_indexOf_7cf53_8 ?_
    refine lv_iload_n hx hb dJ0_indexOf_7cf53_11 rfl (lv_at hl 1 rfl) ?_
    refine lv_iload_n hx hb dJ0_indexOf_7cf53_12 rfl (lv_at hl 2 rfl) ?_
    refine lv_aload_n hx hb dJ0_indexOf_7cf53_13 rfl (lv_at hl 0 rfl) ?_
    refine g_ci (g_J.plain (W2 := fun u6 : Unit => (W_S adK adV sq sv sm sb )) [] [] [] [] rfl (by decide) rfl (by decide) (by decide) (fun _ => rfl) (by decide)) [] hK hP hD hS hA rfl (fun hPc hDc hKc hFc => va_runV (As := []) (rest := [.int p1, .int p0, .ref sv]) ⟨hx, hb, hml, hown, hts⟩ (t_J0_length_8abf5 l dC dI adK adV sq sv sm sb H.size    _ hw) (cwV 0 hts gJ0_indexOf_7cf53_J0_length_8abf5 rfl rfl rfl (by decide +kernel) ⟨Nat.le_of_ble_eq_true rfl, Nat.le_of_ble_eq_true rfl⟩) (g_pVs czsb hZ.2 hS hPc hDc hKc (czsc hZ hS hFc)) rfl rfl hl.1 rfl (lv_room (Nat.le_of_ble_eq_true rfl)) dJ0_indexOf_7cf53_14 ⟨Nat.le_of_ble_eq_true rfl, Nat.le_of_ble_eq_true rfl⟩) (fun r7 u6 H locs hw hP hD hS => ?_)
    replace hP : va_P (dC, dI) vwCl (W_S adK adV sq sv sm sb ) H := hP
    replace hD : va_D A (W_S adK adV sq sv sm sb ) := hD
    refine g_ci (g_J.plain (W2 := fun u8 : Unit => (W_S adK adV sq sv sm sb )) [] [] [] [] rfl (by decide) rfl (by decide) (by decide) (fun _ => rfl) (by decide)) [] hK hP hD hS hA rfl (fun hPc hDc hKc hFc => va_runS (As := [.ref sv, .int p0, .int p1, .int r7]) (rest := []) ⟨hx, hb, hml, hown, hts⟩ (t_J1_indexOf_4cfef l dC dI adK adV sq sv sm sb H.size   p0 p1 r7 _ hw) (va_cwS 4 hts gJ0_indexOf_7cf53_J1_indexOf_4cfef rfl rfl rfl (by decide +kernel) ⟨Nat.le_of_ble_eq_true rfl, Nat.le_of_ble_eq_true rfl⟩) (g_pS czsb hPc hDc hKc (czsc hZ hS hFc)) rfl rfl hl.1 rfl (lv_room (Nat.le_of_ble_eq_true rfl)) dJ0_indexOf_7cf53_17 ⟨Nat.le_of_ble_eq_true rfl, Nat.le_of_ble_eq_true rfl⟩) (fun r9 u8 H locs hw hP hD hS => ?_)
    replace hP : va_P (dC, dI) vwCl (W_S adK adV sq sv sm sb ) H := hP
    replace hD : va_D A (W_S adK adV sq sv sm sb ) := hD
    refine lv_goto (tgt := 36) hx hb dJ0_indexOf_7cf53_20 (by decide) ?_
    exact hret dJ0_indexOf_7cf53_36 hK hP hD hS hw
