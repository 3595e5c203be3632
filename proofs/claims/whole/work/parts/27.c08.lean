def w_X5_nextTry (n : Nat) (k : Nat) (q : Nat → Nat) (f : Nat → Int32) (t : Nat) (a : Nat → Nat → Int32) (b : Nat → Nat → Option Nat) (sg : Nat → Nat → Option Nat) (sL : List Nat) (sf : Nat → Nat → Int32)  (p0 : Int32) (Q : Int32 → Unit → Prop) : Prop := w_X5_sorts n k q f t a b sg sL sf p0 (fun (r2 : Int32) (u1 : Unit) => (((¬ r2 = 0) → (∀ X7 : Int32 → Int32 → Int32 → Prop, (∀ (x4 : Int32) (x5 : Int32) (x6 : Int32), (((((100 : Int32) ≤ x6) → Q x4 ()) ∧ (¬ ((100 : Int32) ≤ x6) → (((x5 ≤ (1 : Int32)) → Q x4 ()) ∧ (¬ (x5 ≤ (1 : Int32)) → w_X5_mostAlike n k q f t a b sg sL sf r2 (x6 / (10 : Int32)) (x6 - x6 / (10 : Int32) * (10 : Int32)) (fun (r11 : Int32) (u10 : Unit) => ∀ J14 : Int32 → Int32 → Prop, (∀ (x12 : Int32) (x13 : Int32), (∀ x15 : Int32, x15 = x6 + (1 : Int32) → X7 x12 x13 x15) → J14 x12 x13) → (((x5 ≤ r11) → J14 x4 x5) ∧ (¬ (x5 ≤ r11) → J14 x6 r11)))))))) → X7 x4 x5 x6) → X7 (-1 : Int32) (6 : Int32) (0 : Int32))) ∧ (r2 = 0 → Q (-1 : Int32) ())))
abbrev rmX5_nextTry : Room := { frames := 5, cells := 0, slots := 0, locals := 130 }
set_option maxHeartbeats 4000000 in
set_option maxRecDepth 100000 in
theorem t_X5_nextTry (l : Launch) (dC : Nat → ClassId) (dI : Nat → Nat → Nat) (adK : Nat → Nat) (adV : Nat → Nat) (cI : ClassId) (cB : ClassId) (cS : ClassId) (q : Nat → Nat) (qb : Nat → Nat) (n : Nat) (k : Nat) (sz : Nat) (f : Nat → Int32) (t : Nat) (a : Nat → Nat → Int32) (b : Nat → Nat → Option Nat) (sg : Nat → Nat → Option Nat) (sL : List Nat) (sf : Nat → Nat → Int32)   (p0 : Int32) (Q0 : Int32 → Unit → Prop) (hw : w_X5_nextTry n k q f t a b sg sL sf  p0 Q0) : Met l yX5_nextTry wsX5_nextTry rmX5_nextTry (g_pre (cz adK adV) (dC, dI) vwCl [(cI, .int), (cB, .object RX0), (cS, .object RX7)] ((W_P adK adV cI cB cS q qb n k f t a b sg) ++ va_pl sL (sgF sf)) sz [.ref (q 0), .int p0]) (g_qi (dC, dI) vwCl [(cI, .int), (cB, .object RX0), (cS, .object RX7)] (fun u : Unit => ((W_P adK adV cI cB cS q qb n k f t a b sg) ++ va_pl sL (sgF sf))) Q0 (va_A ((W_P adK adV cI cB cS q qb n k f t a b sg) ++ va_pl sL (sgF sf)) sz)) 0 0 (va_A ((W_P adK adV cI cB cS q qb n k f t a b sg) ++ va_pl sL (sgF sf)) sz) := by
  refine g_starti (by decide) rfl (Nat.le_of_ble_eq_true rfl) ?_
  intro p e s m args below meth c A Q ls hx hb hml hown hts hin hK hP hD hA hS hZ hret hl
  obtain ⟨H, eH⟩ : ∃ H : Heap, H = s.heap := ⟨_, rfl⟩
  obtain ⟨locs, eL⟩ : ∃ L : List Loc, L = [] := ⟨_, rfl⟩
  have hS : va_S A s.heap H locs := by rw [eH, eL]; exact hS
  rw [← eH] at hP
  suffices hg : W p l e rmX5_nextTry s m args below meth c H locs 0 0 Q (F0 m 0 ls []) by rw [eH, eL] at hg; exact hg
  clear eH eL
  replace hl : lv_has ls 7 [(0, .ref (q 0)), (1, .int p0)] := hl
  unfold w_X5_nextTry at hw
  refine lv_aload_n hx hb dX5_nextTry_0 rfl (lv_at hl 0 rfl) ?_
  refine lv_iload_n hx hb dX5_nextTry_1 rfl (lv_at hl 1 rfl) ?_
  refine g_ci (g_J.poolP (W2 := fun u1 : Unit => (W_P adK adV cI cB cS q qb n k f t a b sg)) (pl := va_pl sL (sgF sf)) (PL := fun _ => va_pl sL (sgF sf)) (RX := fun u1 : Unit => (W_P adK adV cI cB cS q qb n k f t a b sg)) [] [0, 1, 2, 3, 4, 5, 6, 7, 8, 9, 10, 11, 12, 13, 14, 15, 16, 17, 18, 19, 20, 21, 22] [] [0, 1, 2, 3, 4, 5, 6, 7, 8, 9, 10, 11, 12, 13, 14, 15, 16, 17, 18, 19, 20, 21, 22] rfl (by decide) rfl (by decide) (by decide) (fun _ => rfl) (by decide)) [0, 1, 2] hK hP hD hS hA rfl (fun hPc hDc hKc hFc => va_runV (As := [.int p0]) (rest := []) ⟨hx, hb, hml, hown, hts⟩ (t_X5_sorts l dC dI adK adV cI cB cS q qb n k H.size f t a b sg sL sf p0 _ hw) (cwV 1 hts gX5_nextTry_X5_sorts rfl rfl rfl (by decide +kernel) ⟨Nat.le_of_ble_eq_true rfl, Nat.le_of_ble_eq_true rfl⟩) (g_pV czb (q0 := 0) rfl rfl hPc hDc hKc (czc hZ hS hFc)) rfl rfl hl.1 rfl (lv_room (Nat.le_of_ble_eq_true rfl)) dX5_nextTry_2 ⟨Nat.le_of_ble_eq_true rfl, Nat.le_of_ble_eq_true rfl⟩) (fun r2 u1 H locs hw hP hD hS => ?_)
  replace hP : va_P (dC, dI) vwCl ((W_P adK adV cI cB cS q qb n k f t a b sg) ++ va_pl sL (sgF sf)) H := hP
  replace hD : va_D A ((W_P adK adV cI cB cS q qb n k f t a b sg) ++ va_pl sL (sgF sf)) := hD
  refine lv_istore_n (lv' := [(2, .int r2), (0, .ref (q 0)), (1, .int p0)]) hx hb dX5_nextTry_5 rfl hl (by decide) rfl (fun ls hl => ?_)
  refine lv_iload_n hx hb dX5_nextTry_6 rfl (lv_at hl 0 rfl) ?_
  refine lv_if_ne (tgt := 12) hx hb dX5_nextTry_7 (by decide) (fun hc3 => ?_) (fun hc3 => ?_)
  · replace hw := hw.1 hc3
    refine lv_iconst (v := -1) hx hb dX5_nextTry_12 (by decide) ?_
    refine lv_istore_n (lv' := [(3, .int (-1 : Int32)), (2, .int r2), (0, .ref (q 0)), (1, .int p0)]) hx hb dX5_nextTry_13 rfl hl (by decide) rfl (fun ls hl => ?_)
    refine lv_bipush (v := 6) hx hb dX5_nextTry_14 (by decide) ?_
    refine lv_istore (lv' := [(4, .int (6 : Int32)), (3, .int (-1 : Int32)), (2, .int r2), (0, .ref (q 0)), (1, .int p0)]) hx hb dX5_nextTry_16 hl (by decide) rfl (fun ls hl => ?_)
    refine lv_iconst (v := 0) hx hb dX5_nextTry_18 (by decide) ?_
    refine lv_istore (lv' := [(5, .int (0 : Int32)), (4, .int (6 : Int32)), (3, .int (-1 : Int32)), (2, .int r2), (0, .ref (q 0)), (1, .int p0)]) hx hb dX5_nextTry_19 hl (by decide) rfl (fun ls hl => ?_)
    refine hw (fun (x4 : Int32) (x5 : Int32) (x6 : Int32) => ∀ (H : Heap) (locs : List Loc) (ls : Array Slot), va_P (dC, dI) vwCl ((W_P adK adV cI cB cS q qb n k f t a b sg) ++ va_pl sL (sgF sf)) H → va_D A ((W_P adK adV cI cB cS q qb n k f t a b sg) ++ va_pl sL (sgF sf)) → va_S A s.heap H locs → lv_has ls 7 [(0, .ref (q 0)), (2, .int r2), (3, .int x4), (4, .int x5), (5, .int x6)] → W p l e rmX5_nextTry s m args below meth c H locs 0 0 Q (F0 m 21 ls [])) ?_ H locs ls hP hD hS (lv_sub hl [4, 3, 2, 1, 0] rfl)
    · intro x4 x5 x6 hw H locs ls hP hD hS hl
      refine lv_iload hx hb dX5_nextTry_21 (lv_at hl 4 rfl) ?_
      refine lv_bipush (v := 100) hx hb dX5_nextTry_23 (by decide) ?_
      refine lv_icmp_ge (tgt := 71) hx hb dX5_nextTry_25 (by decide) (fun hc8 => ?_) (fun hc8 => ?_)
      · replace hw := hw.1 hc8
        refine lv_iload_n hx hb dX5_nextTry_71 rfl (lv_at hl 2 rfl) ?_
        exact hret dX5_nextTry_72 hK hP hD hS hw
      · replace hw := hw.2 hc8
        refine lv_iload hx hb dX5_nextTry_28 (lv_at hl 3 rfl) ?_
        refine lv_iconst (v := 1) hx hb dX5_nextTry_30 (by decide) ?_
        refine lv_icmp_le (tgt := 71) hx hb dX5_nextTry_31 (by decide) (fun hc9 => ?_) (fun hc9 => ?_)
        · replace hw := hw.1 hc9
          refine lv_iload_n hx hb dX5_nextTry_71 rfl (lv_at hl 2 rfl) ?_
          exact hret dX5_nextTry_72 hK hP hD hS hw
        · replace hw := hw.2 hc9
          refine lv_aload_n hx hb dX5_nextTry_34 rfl (lv_at hl 0 rfl) ?_
          refine lv_iload_n hx hb dX5_nextTry_35 rfl (lv_at hl 1 rfl) ?_
          refine lv_iload hx hb dX5_nextTry_36 (lv_at hl 4 rfl) ?_
          refine lv_bipush (v := 10) hx hb dX5_nextTry_38 (by decide) ?_
          refine lv_idiv hx hb dX5_nextTry_40 (by decide) ?_
          refine lv_iload hx hb dX5_nextTry_41 (lv_at hl 4 rfl) ?_
          refine lv_bipush (v := 10) hx hb dX5_nextTry_43 (by decide) ?_
          refine lv_irem hx hb dX5_nextTry_45 (by decide) ?_
          refine g_ci (g_J.poolP (W2 := fun u10 : Unit => (W_P adK adV cI cB cS q qb n k f t a b sg)) (pl := va_pl sL (sgF sf)) (PL := fun _ => va_pl sL (sgF sf)) (RX := fun u10 : Unit => (W_P adK adV cI cB cS q qb n k f t a b sg)) [] [0, 1, 2, 3, 4, 5, 6, 7, 8, 9, 10, 11, 12, 13, 14, 15, 16, 17, 18, 19, 20, 21, 22] [] [0, 1, 2, 3, 4, 5, 6, 7, 8, 9, 10, 11, 12, 13, 14, 15, 16, 17, 18, 19, 20, 21, 22] rfl (by decide) rfl (by decide) (by decide) (fun _ => rfl) (by decide)) [0, 1, 2] hK hP hD hS hA rfl (fun hPc hDc hKc hFc => va_runV (As := [.int r2, .int (x6 / (10 : Int32)), .int (x6 - x6 / (10 : Int32) * (10 : Int32))]) (rest := []) ⟨hx, hb, hml, hown, hts⟩ (t_X5_mostAlike l dC dI adK adV cI cB cS q qb n k H.size f t a b sg sL sf r2 (x6 / (10 : Int32)) (x6 - x6 / (10 : Int32) * (10 : Int32)) _ hw) (cwV 3 hts gX5_nextTry_X5_mostAlike rfl rfl rfl (by decide +kernel) ⟨Nat.le_of_ble_eq_true rfl, Nat.le_of_ble_eq_true rfl⟩) (g_pV czb (q0 := 0) rfl rfl hPc hDc hKc (czc hZ hS hFc)) rfl rfl hl.1 rfl (lv_room (Nat.le_of_ble_eq_true rfl)) dX5_nextTry_46 ⟨Nat.le_of_ble_eq_true rfl, Nat.le_of_ble_eq_true rfl⟩) (fun r11 u10 H locs hw hP hD hS => ?_)
          replace hP : va_P (dC, dI) vwCl ((W_P adK adV cI cB cS q qb n k f t a b sg) ++ va_pl sL (sgF sf)) H := hP
          replace hD : va_D A ((W_P adK adV cI cB cS q qb n k f t a b sg) ++ va_pl sL (sgF sf)) := hD
          refine lv_istore (lv' := [(6, .int r11), (0, .ref (q 0)), (2, .int r2), (3, .int x4), (4, .int x5), (5, .int x6)]) hx hb dX5_nextTry_49 hl (by decide) rfl (fun ls hl => ?_)
          refine lv_iload hx hb dX5_nextTry_51 (lv_at hl 0 rfl) ?_
          refine lv_iload hx hb dX5_nextTry_53 (lv_at hl 4 rfl) ?_
          replace hw := hw (fun (x12 : Int32) (x13 : Int32) => ∀ (H : Heap) (locs : List Loc) (ls : Array Slot), va_P (dC, dI) vwCl ((W_P adK adV cI cB cS q qb n k f t a b sg) ++ va_pl sL (sgF sf)) H → va_D A ((W_P adK adV cI cB cS q qb n k f t a b sg) ++ va_pl sL (sgF sf)) → va_S A s.heap H locs → lv_has ls 7 [(0, .ref (q 0)), (2, .int r2), (3, .int x12), (4, .int x13), (5, .int x6)] → W p l e rmX5_nextTry s m args below meth c H locs 0 0 Q (F0 m 65 ls [])) (by
            intro x12 x13 hw H locs ls hP hD hS hl
            obtain ⟨x15, ex15⟩ : ∃ y : Int32, y = x6 + (1 : Int32) := ⟨_, rfl⟩
            replace hw := hw x15 ex15
            refine lv_iinc (v := x15) (lv' := [(5, .int x15), (0, .ref (q 0)), (2, .int r2), (3, .int x12), (4, .int x13)]) hx hb dX5_nextTry_65 hl (k := 4) rfl (by rw [ex15]; rfl) (by decide) rfl (fun ls hl => ?_)
            refine lv_goto (tgt := 21) hx hb dX5_nextTry_68 (by decide) ?_
            exact hw H locs ls hP hD hS (lv_sub hl [1, 2, 3, 4, 0] rfl))
          refine lv_icmp_ge (tgt := 65) hx hb dX5_nextTry_55 (by decide) (fun hc16 => ?_) (fun hc16 => ?_)
          · replace hw := hw.1 hc16
            exact hw H locs ls hP hD hS (lv_sub hl [1, 2, 3, 4, 5] rfl)
          · replace hw := hw.2 hc16
            refine lv_iload hx hb dX5_nextTry_58 (lv_at hl 0 rfl) ?_
            refine lv_istore (lv' := [(4, .int r11), (6, .int r11), (0, .ref (q 0)), (2, .int r2), (3, .int x4), (5, .int x6)]) hx hb dX5_nextTry_60 hl (by decide) rfl (fun ls hl => ?_)
            refine lv_iload hx hb dX5_nextTry_62 (lv_at hl 5 rfl) ?_
            refine lv_istore_n (lv' := [(3, .int x6), (4, .int r11), (6, .int r11), (0, .ref (q 0)), (2, .int r2), (5, .int x6)]) hx hb dX5_nextTry_64 rfl hl (by decide) rfl (fun ls hl => ?_)
            exact hw H locs ls hP hD hS (lv_sub hl [3, 4, 0, 1, 5] rfl)
  · replace hw := hw.2 hc3
    refine lv_iconst (v := -1) hx hb dX5_nextTry_10 (by decide) ?_
    exact hret dX5_nextTry_11 hK hP hD hS hw

def w_X5_draw (n : Nat) (k : Nat) (q : Nat → Nat) (f : Nat → Int32) (t : Nat) (a : Nat → Nat → Int32) (b : Nat → Nat → Option Nat) (sg : Nat → Nat → Option Nat) (sL : List Nat) (sf : Nat → Nat → Int32)  (p0 : Int32) (Q : Int32 → ((Nat → Nat → Int32)) → Prop) : Prop := (∀ X4 : Int32 → Int32 → (Nat → Nat → Int32) → Prop, (∀ (x1 : Int32) (x2 : Int32) (av3 : (Nat → Nat → Int32)), (((((nI n) ≤ x2) → w_X5_raise_g n k q f t av3 b sg sL sf  (fun (u6 : ((Nat → Nat → Int32))) => Q x1 u6)) ∧ (¬ ((nI n) ≤ x2) → ∀ x7 : Int32, x7 = (((((1103515245 : Int64) * (x1.toInt64)) + (12345 : Int64)) &&& (2147483647 : Int64)).toInt32) → ∀ x9 : Int32, x9 = ((x7 / (65536 : Int32)) - (x7 / (65536 : Int32)) / (10 : Int32) * (10 : Int32)) → (vp_in x2 k) ∧ ∀ x10 : Int32, x10 = x2 + (1 : Int32) → X4 x7 x10 (va_up av3 6 (upd (av3 6) x2.toNatClampNeg x9))))) → X4 x1 x2 av3) → X4 p0 (0 : Int32) a)
abbrev rmX5_draw : Room := { frames := 3, cells := 0, slots := 0, locals := 85 }
set_option maxHeartbeats 4000000 in
set_option maxRecDepth 100000 in
theorem t_X5_draw (l : Launch) (dC : Nat → ClassId) (dI : Nat → Nat → Nat) (adK : Nat → Nat) (adV : Nat → Nat) (cI : ClassId) (cB : ClassId) (cS : ClassId) (q : Nat → Nat) (qb : Nat → Nat) (n : Nat) (k : Nat) (sz : Nat) (f : Nat → Int32) (t : Nat) (a : Nat → Nat → Int32) (b : Nat → Nat → Option Nat) (sg : Nat → Nat → Option Nat) (sL : List Nat) (sf : Nat → Nat → Int32)   (p0 : Int32) (Q0 : Int32 → ((Nat → Nat → Int32)) → Prop) (hw : w_X5_draw n k q f t a b sg sL sf  p0 Q0) : Met l yX5_draw wsX5_draw rmX5_draw (g_pre (cz adK adV) (dC, dI) vwCl [(cI, .int), (cB, .object RX0), (cS, .object RX7)] ((W_P adK adV cI cB cS q qb n k f t a b sg) ++ va_pl sL (sgF sf)) sz [.ref (q 0), .int p0]) (g_qi (dC, dI) vwCl [(cI, .int), (cB, .object RX0), (cS, .object RX7)] (fun u : ((Nat → Nat → Int32)) => ((W_P adK adV cI cB cS q qb n k f t u b sg) ++ va_pl sL (sgF sf))) Q0 (va_A ((W_P adK adV cI cB cS q qb n k f t a b sg) ++ va_pl sL (sgF sf)) sz)) 0 0 (va_A ((W_P adK adV cI cB cS q qb n k f t a b sg) ++ va_pl sL (sgF sf)) sz) := by
  refine g_starti (by decide) rfl (Nat.le_of_ble_eq_true rfl) ?_
  intro p e s m args below meth c A Q ls hx hb hml hown hts hin hK hP hD hA hS hZ hret hl
  obtain ⟨H, eH⟩ : ∃ H : Heap, H = s.heap := ⟨_, rfl⟩
  obtain ⟨locs, eL⟩ : ∃ L : List Loc, L = [] := ⟨_, rfl⟩
  have hS : va_S A s.heap H locs := by rw [eH, eL]; exact hS
  rw [← eH] at hP
  suffices hg : W p l e rmX5_draw s m args below meth c H locs 0 0 Q (F0 m 0 ls []) by rw [eH, eL] at hg; exact hg
  clear eH eL
  replace hl : lv_has ls 4 [(0, .ref (q 0)), (1, .int p0)] := hl
  have hf25 := hts (.fieldLink RX5 25 "NumberPile$Pile" "wide" "I") (by decide +kernel)
  have hiX5 : ∀ w ∈ u_ws RX5 TX5 13, w ∈ wsX5_draw := fun w h => List.mem_cons_of_mem _ (List.mem_append_left _ (List.mem_append_right _ h))
  have hf51 := hts (.fieldLink RX5 51 "NumberPile$Pile" "guess" "[I") (by decide +kernel)
  have kc220 := hts (.constantLong RX5 220 (1103515245)) (by decide +kernel)
  have kc222 := hts (.constantLong RX5 222 (12345)) (by decide +kernel)
  have kc226 := hts (.constantLong RX5 226 (2147483647)) (by decide +kernel)
  have kc228 := hts (.constant RX5 228 (65536)) (by decide +kernel)
  unfold w_X5_draw at hw
  refine lv_iload_n hx hb dX5_draw_0 rfl (lv_at hl 1 rfl) ?_
  refine lv_istore_n (lv' := [(2, .int p0), (0, .ref (q 0)), (1, .int p0)]) hx hb dX5_draw_1 rfl hl (by decide) rfl (fun ls hl => ?_)
  refine lv_iconst (v := 0) hx hb dX5_draw_2 (by decide) ?_
  refine lv_istore_n (lv' := [(3, .int (0 : Int32)), (2, .int p0), (0, .ref (q 0)), (1, .int p0)]) hx hb dX5_draw_3 rfl hl (by decide) rfl (fun ls hl => ?_)
  refine hw (fun (x1 : Int32) (x2 : Int32) (av3 : (Nat → Nat → Int32)) => ∀ (H : Heap) (locs : List Loc) (ls : Array Slot), va_P (dC, dI) vwCl ((W_P adK adV cI cB cS q qb n k f t av3 b sg) ++ va_pl sL (sgF sf)) H → va_D A ((W_P adK adV cI cB cS q qb n k f t av3 b sg) ++ va_pl sL (sgF sf)) → va_S A s.heap H locs → lv_has ls 4 [(0, .ref (q 0)), (2, .int x1), (3, .int x2)] → W p l e rmX5_draw s m args below meth c H locs 0 0 Q (F0 m 4 ls [])) ?_ H locs ls hP hD hS (lv_sub hl [2, 1, 0] rfl)
  · intro x1 x2 av3 hw H locs ls hP hD hS hl
    refine lv_iload_n hx hb dX5_draw_4 rfl (lv_at hl 2 rfl) ?_
    refine lv_aload_n hx hb dX5_draw_5 rfl (lv_at hl 0 rfl) ?_
    refine va_get (D := (dC, dI)) (ci := 7) (v := .int (nI n)) (C := RX5) (T := TX5) (N := 13) hx hb hts hiX5 hown hK hP 0 rfl rfl 0 (by decide) hf25 (fun _ h9 => h9) rfl dX5_draw_6 ?_
    refine lv_icmp_ge (tgt := 47) hx hb dX5_draw_9 (by decide) (fun hc5 => ?_) (fun hc5 => ?_)
    · replace hw := hw.1 hc5
      refine lv_aload_n hx hb dX5_draw_47 rfl (lv_at hl 0 rfl) ?_
      refine lv_aload_n hx hb dX5_draw_48 rfl (lv_at hl 0 rfl) ?_
      refine va_get (D := (dC, dI)) (ci := 7) (v := .ref (q 14)) (C := RX5) (T := TX5) (N := 13) hx hb hts hiX5 hown hK hP 0 rfl rfl 8 (by decide) hf51 (fun _ h9 => h9) rfl dX5_draw_49 ?_
      refine g_cv (g_J.poolP (W2 := fun u6 : ((Nat → Nat → Int32)) => (W_P adK adV cI cB cS q qb n k f t u6 b sg)) (pl := va_pl sL (sgF sf)) (PL := fun _ => va_pl sL (sgF sf)) (RX := fun u6 : ((Nat → Nat → Int32)) => (W_P adK adV cI cB cS q qb n k f t u6 b sg)) [] [0, 1, 2, 3, 4, 5, 6, 7, 8, 9, 10, 11, 12, 13, 14, 15, 16, 17, 18, 19, 20, 21, 22] [] [0, 1, 2, 3, 4, 5, 6, 7, 8, 9, 10, 11, 12, 13, 14, 15, 16, 17, 18, 19, 20, 21, 22] rfl (by decide) rfl (by decide) (by decide) (fun _ => rfl) (by decide)) [0, 1, 2] hK hP hD hS hA rfl (fun hPc hDc hKc hFc => va_runV (As := [.ref (q 14)]) (rest := []) ⟨hx, hb, hml, hown, hts⟩ (t_X5_raise_g l dC dI adK adV cI cB cS q qb n k H.size f t av3 b sg sL sf  _ hw) (cwV 1 hts gX5_draw_X5_raise rfl rfl rfl (by decide +kernel) ⟨Nat.le_of_ble_eq_true rfl, Nat.le_of_ble_eq_true rfl⟩) (g_pV czb (q0 := 0) rfl rfl hPc hDc hKc (czc hZ hS hFc)) rfl rfl hl.1 rfl (lv_room (Nat.le_of_ble_eq_true rfl)) dX5_draw_52 ⟨Nat.le_of_ble_eq_true rfl, Nat.le_of_ble_eq_true rfl⟩) (fun u6 H locs hw hP hD hS => ?_)
      replace hP : va_P (dC, dI) vwCl ((W_P adK adV cI cB cS q qb n k f t u6 b sg) ++ va_pl sL (sgF sf)) H := hP
      replace hD : va_D A ((W_P adK adV cI cB cS q qb n k f t u6 b sg) ++ va_pl sL (sgF sf)) := hD
      refine lv_iload_n hx hb dX5_draw_55 rfl (lv_at hl 1 rfl) ?_
      exact hret dX5_draw_56 hK hP hD hS hw
    · replace hw := hw.2 hc5
      refine lv_ldc2 hx hb hown kc220 dX5_draw_12 ?_
      refine lv_iload_n hx hb dX5_draw_15 rfl (lv_at hl 1 rfl) ?_
      refine lv_i2l hx hb dX5_draw_16 rfl ?_
      refine lv_lmul hx hb dX5_draw_17 ?_
      refine lv_ldc2 hx hb hown kc222 dX5_draw_18 ?_
      refine lv_ladd hx hb dX5_draw_21 ?_
      refine lv_ldc2 hx hb hown kc226 dX5_draw_22 ?_
      refine lv_land hx hb dX5_draw_25 ?_
      refine lv_l2i hx hb dX5_draw_26 rfl ?_
      refine lv_topi (fun x7 ex7 => ?_)
      replace hw := hw x7 ex7
      refine lv_istore_n (lv' := [(2, .int x7), (0, .ref (q 0)), (3, .int x2)]) hx hb dX5_draw_27 rfl hl (by decide) rfl (fun ls hl => ?_)
      refine lv_aload_n hx hb dX5_draw_28 rfl (lv_at hl 1 rfl) ?_
      refine va_get (D := (dC, dI)) (ci := 7) (v := .ref (q 14)) (C := RX5) (T := TX5) (N := 13) hx hb hts hiX5 hown hK hP 0 rfl rfl 8 (by decide) hf51 (fun _ h9 => h9) rfl dX5_draw_29 ?_
      refine lv_iload_n hx hb dX5_draw_32 rfl (lv_at hl 2 rfl) ?_
      refine lv_iload_n hx hb dX5_draw_33 rfl (lv_at hl 0 rfl) ?_
      refine lv_ldc hx hb hown kc228 dX5_draw_34 ?_
      refine lv_idiv hx hb dX5_draw_36 (by decide) ?_
      refine lv_bipush (v := 10) hx hb dX5_draw_37 (by decide) ?_
      refine lv_irem hx hb dX5_draw_39 (by decide) ?_
      refine lv_topi (fun x9 ex9 => ?_)
      replace hw := hw x9 ex9
      obtain ⟨hb8, hw⟩ := hw
      refine va_iast hx hb hK hP hD hS 14 0 rfl rfl hb8 dX5_draw_40 (fun H locs hP hD hS => ?_)
      replace hP : va_P (dC, dI) vwCl ((W_P adK adV cI cB cS q qb n k f t (va_up av3 6 (upd (av3 6) x2.toNatClampNeg x9)) b sg) ++ va_pl sL (sgF sf)) H := hP
      replace hD : va_D A ((W_P adK adV cI cB cS q qb n k f t (va_up av3 6 (upd (av3 6) x2.toNatClampNeg x9)) b sg) ++ va_pl sL (sgF sf)) := hD
      obtain ⟨x10, ex10⟩ : ∃ y : Int32, y = x2 + (1 : Int32) := ⟨_, rfl⟩
      replace hw := hw x10 ex10
      refine lv_iinc (v := x10) (lv' := [(3, .int x10), (2, .int x7), (0, .ref (q 0))]) hx hb dX5_draw_41 hl (k := 2) rfl (by rw [ex10]; rfl) (by decide) rfl (fun ls hl => ?_)
      refine lv_goto (tgt := 4) hx hb dX5_draw_44 (by decide) ?_
      exact hw H locs ls hP hD hS (lv_sub hl [2, 1, 0] rfl)
