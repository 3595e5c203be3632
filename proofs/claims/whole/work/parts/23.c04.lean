def w_X5_bestLaid_0 (n : Nat) (k : Nat) (q : Nat → Nat) (f : Nat → Int32) (t : Nat) (a : Nat → Nat → Int32) (b : Nat → Nat → Int32) (sg : Nat → Nat → Option Nat) (sL : List Nat) (sf : Nat → Nat → Int32)  (p1 : Int32) (p2 : Int32) (Q : Int32 → ((Nat → Nat → Int32)) → Prop) : Prop := (((p1 < (nI n)) → (∀ X5 : Int32 → Int32 → (Nat → Nat → Int32) → Prop, (∀ (x2 : Int32) (x3 : Int32) (av4 : (Nat → Nat → Int32)), (((((nI n) ≤ x3) → Q x2 av4) ∧ (¬ ((nI n) ≤ x3) → ∀ J9 : Int32 → (Nat → Nat → Int32) → Prop, (∀ (x7 : Int32) (av8 : (Nat → Nat → Int32)), (∀ x10 : Int32, x10 = x3 + (1 : Int32) → X5 x7 x10 av8) → J9 x7 av8) → (((¬ ((p2 >>> (x3 &&& 31)) &&& (1 : Int32)) = 0) → J9 x2 av4) ∧ (((p2 >>> (x3 &&& 31)) &&& (1 : Int32)) = 0 → (vp_in x3 n) ∧ ∀ x14 : Int32, x14 = ((av4 1) x3.toNatClampNeg) → (vp_in p1 k) ∧ False))))) → X5 x2 x3 av4) → X5 (0 : Int32) (0 : Int32) a)) ∧ (¬ (p1 < (nI n)) → w_X5_raise_g n k q f t a b sg sL sf  (fun (u15 : ((Nat → Nat → Int32))) => w_X5_guessedTop n k q f t u15 b sg sL sf  (fun (r17 : Int32) (u16 : Unit) => w_X10_asNumber k (u15 6)  (nI n) (fun (r19 : Int32) (u18 : Unit) => Q ((((r17 * (10000 : Int32)) + (10000 : Int32)) - (1 : Int32)) - r19) u15)))))
abbrev rmX5_bestLaid_0 : Room := { frames := 3, cells := 0, slots := 0, locals := 85 }
set_option maxHeartbeats 4000000 in
set_option maxRecDepth 100000 in
theorem t_X5_bestLaid_0 (l : Launch) (dC : Nat → ClassId) (dI : Nat → Nat → Nat) (adK : Nat → Nat) (adV : Nat → Nat) (cI : ClassId) (cB : ClassId) (cS : ClassId) (q : Nat → Nat) (qb : Nat → Nat) (n : Nat) (k : Nat) (sz : Nat) (f : Nat → Int32) (t : Nat) (a : Nat → Nat → Int32) (b : Nat → Nat → Int32) (sg : Nat → Nat → Option Nat) (sL : List Nat) (sf : Nat → Nat → Int32)   (p1 : Int32) (p2 : Int32) (Q0 : Int32 → ((Nat → Nat → Int32)) → Prop) (hw : w_X5_bestLaid_0 n k q f t a b sg sL sf  p1 p2 Q0) : Met l yX5_bestLaid wsX5_bestLaid rmX5_bestLaid_0 (g_pre (cz adK adV) (dC, dI) vwCl [(cI, .int), (cB, .object RX0), (cS, .object RX7)] ((W_P adK adV cI cB cS q qb n k f t a b sg) ++ va_pl sL (sgF sf)) sz [.ref (q 0), .int p1, .int p2]) (g_qi (dC, dI) vwCl [(cI, .int), (cB, .object RX0), (cS, .object RX7)] (fun u : ((Nat → Nat → Int32)) => ((W_P adK adV cI cB cS q qb n k f t u b sg) ++ va_pl sL (sgF sf))) Q0 (va_A ((W_P adK adV cI cB cS q qb n k f t a b sg) ++ va_pl sL (sgF sf)) sz)) 0 0 (va_A ((W_P adK adV cI cB cS q qb n k f t a b sg) ++ va_pl sL (sgF sf)) sz) := by
  refine g_starti (by decide) rfl (Nat.le_of_ble_eq_true rfl) ?_
  intro p e s m args below meth c A Q ls hx hb hml hown hts hin hK hP hD hA hS hZ hret hl
  obtain ⟨H, eH⟩ : ∃ H : Heap, H = s.heap := ⟨_, rfl⟩
  obtain ⟨locs, eL⟩ : ∃ L : List Loc, L = [] := ⟨_, rfl⟩
  have hS : va_S A s.heap H locs := by rw [eH, eL]; exact hS
  rw [← eH] at hP
  suffices hg : W p l e rmX5_bestLaid_0 s m args below meth c H locs 0 0 Q (F0 m 0 ls []) by rw [eH, eL] at hg; exact hg
  clear eH eL
  replace hl : lv_has ls 5 [(0, .ref (q 0)), (1, .int p1), (2, .int p2)] := hl
  have hf15 := hts (.fieldLink RX5 15 "NumberPile$Pile" "wide" "I") (by decide +kernel)
  have hiX5 : ∀ w ∈ u_ws RX5 TX5 15, w ∈ wsX5_bestLaid := fun w h => List.mem_cons_of_mem _ (List.mem_append_left _ (List.mem_append_right _ h))
  have hf41 := hts (.fieldLink RX5 41 "NumberPile$Pile" "guess" "[I") (by decide +kernel)
  have hf31 := hts (.fieldLink RX5 31 "NumberPile$Pile" "now" "LNumberPile$State;") (by decide +kernel)
  have nf98 := va_Nw.use (A := args) rfl (hZ.1 _ (List.mem_of_getElem? (i := 25) (rfl : cz_nest[25]? = some (.fieldLinkNest RX5 98 "NumberPile$State" "figures" "[I" "NumberPile"))))
  have hiX8 : ∀ w ∈ u_ws RX8 TX8 6, w ∈ wsX5_bestLaid := fun w h => List.mem_cons_of_mem _ (List.mem_append_right _ h)
  have nm145 := hZ.1 _ (List.mem_of_getElem? (i := 29) (rfl : cz_nest[29]? = some (.methodLinkNest RX5 145 yX10_asNumber "NumberPile")))
  have iniRX10 := hts (.initialized RX10) (by decide +kernel)
  have st145 := hts (.static yX10_asNumber) (by decide +kernel)
  unfold w_X5_bestLaid_0 at hw
  refine lv_iload_n hx hb dX5_bestLaid_0 rfl (lv_at hl 1 rfl) ?_
  refine lv_aload_n hx hb dX5_bestLaid_1 rfl (lv_at hl 0 rfl) ?_
  refine va_get (D := (dC, dI)) (ci := 7) (v := .int (nI n)) (C := RX5) (T := TX5) (N := 15) hx hb hts hiX5 hown hK hP 0 rfl rfl 0 (by decide) hf15 (fun _ h9 => h9) rfl dX5_bestLaid_2 ?_
  refine lv_icmp_lt (tgt := 43) hx hb dX5_bestLaid_5 (by decide) (fun hc1 => ?_) (fun hc1 => ?_)
  · replace hw := hw.1 hc1
    refine lv_iconst (v := 0) hx hb dX5_bestLaid_43 (by decide) ?_
    refine lv_istore_n (lv' := [(3, .int (0 : Int32)), (0, .ref (q 0)), (1, .int p1), (2, .int p2)]) hx hb dX5_bestLaid_44 rfl hl (by decide) rfl (fun ls hl => ?_)
    refine lv_iconst (v := 0) hx hb dX5_bestLaid_45 (by decide) ?_
    refine lv_istore (lv' := [(4, .int (0 : Int32)), (3, .int (0 : Int32)), (0, .ref (q 0)), (1, .int p1), (2, .int p2)]) hx hb dX5_bestLaid_46 hl (by decide) rfl (fun ls hl => ?_)
    refine hw (fun (x2 : Int32) (x3 : Int32) (av4 : (Nat → Nat → Int32)) => ∀ (H : Heap) (locs : List Loc) (ls : Array Slot), va_P (dC, dI) vwCl ((W_P adK adV cI cB cS q qb n k f t av4 b sg) ++ va_pl sL (sgF sf)) H → va_D A ((W_P adK adV cI cB cS q qb n k f t av4 b sg) ++ va_pl sL (sgF sf)) → va_S A s.heap H locs → lv_has ls 5 [(0, .ref (q 0)), (1, .int p1), (2, .int p2), (3, .int x2), (4, .int x3)] → W p l e rmX5_bestLaid_0 s m args below meth c H locs 0 0 Q (F0 m 48 ls [])) ?_ H locs ls hP hD hS (lv_sub hl [2, 3, 4, 1, 0] rfl)
    · intro x2 x3 av4 hw H locs ls hP hD hS hl
      refine lv_iload hx hb dX5_bestLaid_48 (lv_at hl 4 rfl) ?_
      refine lv_aload_n hx hb dX5_bestLaid_50 rfl (lv_at hl 0 rfl) ?_
      refine va_get (D := (dC, dI)) (ci := 7) (v := .int (nI n)) (C := RX5) (T := TX5) (N := 15) hx hb hts hiX5 hown hK hP 0 rfl rfl 0 (by decide) hf15 (fun _ h9 => h9) rfl dX5_bestLaid_51 ?_
      refine lv_icmp_ge (tgt := 106) hx hb dX5_bestLaid_54 (by decide) (fun hc6 => ?_) (fun hc6 => ?_)
      · replace hw := hw.1 hc6
        refine lv_iload_n hx hb dX5_bestLaid_106 rfl (lv_at hl 3 rfl) ?_
        exact hret dX5_bestLaid_107 hK hP hD hS hw
      · replace hw := hw.2 hc6
        refine lv_iload_n hx hb dX5_bestLaid_57 rfl (lv_at hl 2 rfl) ?_
        refine lv_iload hx hb dX5_bestLaid_58 (lv_at hl 4 rfl) ?_
        refine lv_ishr hx hb dX5_bestLaid_60 ?_
        refine lv_iconst (v := 1) hx hb dX5_bestLaid_61 (by decide) ?_
        refine lv_iand hx hb dX5_bestLaid_62 ?_
        replace hw := hw (fun (x7 : Int32) (av8 : (Nat → Nat → Int32)) => ∀ (H : Heap) (locs : List Loc) (ls : Array Slot), va_P (dC, dI) vwCl ((W_P adK adV cI cB cS q qb n k f t av8 b sg) ++ va_pl sL (sgF sf)) H → va_D A ((W_P adK adV cI cB cS q qb n k f t av8 b sg) ++ va_pl sL (sgF sf)) → va_S A s.heap H locs → lv_has ls 5 [(0, .ref (q 0)), (1, .int p1), (2, .int p2), (3, .int x7), (4, .int x3)] → W p l e rmX5_bestLaid_0 s m args below meth c H locs 0 0 Q (F0 m 100 ls [])) (by
          intro x7 av8 hw H locs ls hP hD hS hl
          obtain ⟨x10, ex10⟩ : ∃ y : Int32, y = x3 + (1 : Int32) := ⟨_, rfl⟩
          replace hw := hw x10 ex10
          refine lv_iinc (v := x10) (lv' := [(4, .int x10), (0, .ref (q 0)), (1, .int p1), (2, .int p2), (3, .int x7)]) hx hb dX5_bestLaid_100 hl (k := 4) rfl (by rw [ex10]; rfl) (by decide) rfl (fun ls hl => ?_)
          refine lv_goto (tgt := 48) hx hb dX5_bestLaid_103 (by decide) ?_
          exact hw H locs ls hP hD hS (lv_sub hl [1, 2, 3, 4, 0] rfl))
        refine lv_if_ne (tgt := 100) hx hb dX5_bestLaid_63 (by decide) (fun hc11 => ?_) (fun hc11 => ?_)
        · replace hw := hw.1 hc11
          exact hw H locs ls hP hD hS (lv_sub hl [0, 1, 2, 3, 4] rfl)
        · replace hw := hw.2 hc11
          refine lv_aload_n hx hb dX5_bestLaid_66 rfl (lv_at hl 0 rfl) ?_
          refine va_get (D := (dC, dI)) (ci := 7) (v := .ref (q 14)) (C := RX5) (T := TX5) (N := 15) hx hb hts hiX5 hown hK hP 0 rfl rfl 8 (by decide) hf41 (fun _ h9 => h9) rfl dX5_bestLaid_67 ?_
          refine lv_iload_n hx hb dX5_bestLaid_70 rfl (lv_at hl 1 rfl) ?_
          refine lv_aload_n hx hb dX5_bestLaid_71 rfl (lv_at hl 0 rfl) ?_
          refine va_get (D := (dC, dI)) (ci := 7) (v := .ref (q 3)) (C := RX5) (T := TX5) (N := 15) hx hb hts hiX5 hown hK hP 0 rfl rfl 4 (by decide) hf31 (fun _ h9 => h9) rfl dX5_bestLaid_72 ?_
          refine va_getN (D := (dC, dI)) (ci := 10) (v := .ref (q 5)) (C := RX8) (T := TX8) (N := 6) hx hb hts hiX8 hown hK hP 3 rfl rfl 1 (by decide) nf98 (fun _ h9 => h9) rfl dX5_bestLaid_75 ?_
          refine lv_iload hx hb dX5_bestLaid_78 (lv_at hl 4 rfl) ?_
          obtain ⟨hb12, hw⟩ := hw
          refine va_iald hx hb hK hP 5 0 rfl rfl hb12 dX5_bestLaid_80 ?_
          refine lv_topi (fun x14 ex14 => ?_)
          replace hw := hw x14 ex14
          obtain ⟨hb13, hw⟩ := hw
          refine va_iast hx hb hK hP hD hS 14 0 rfl rfl hb13 dX5_bestLaid_81 (fun H locs hP hD hS => ?_)
          replace hP : va_P (dC, dI) vwCl ((W_P adK adV cI cB cS q qb n k f t (va_up av4 6 (upd (av4 6) p1.toNatClampNeg x14)) b sg) ++ va_pl sL (sgF sf)) H := hP
          replace hD : va_D A ((W_P adK adV cI cB cS q qb n k f t (va_up av4 6 (upd (av4 6) p1.toNatClampNeg x14)) b sg) ++ va_pl sL (sgF sf)) := hD
          refine lv_iload_n hx hb dX5_bestLaid_82 rfl (lv_at hl 3 rfl) ?_
          refine lv_aload_n hx hb dX5_bestLaid_83 rfl (lv_at hl 0 rfl) ?_
          refine lv_iload_n hx hb dX5_bestLaid_84 rfl (lv_at hl 1 rfl) ?_
          refine lv_iconst (v := 1) hx hb dX5_bestLaid_85 (by decide) ?_
          refine lv_iadd hx hb dX5_bestLaid_86 ?_
          refine lv_iload_n hx hb dX5_bestLaid_87 rfl (lv_at hl 2 rfl) ?_
          refine lv_iconst (v := 1) hx hb dX5_bestLaid_88 (by decide) ?_
          refine lv_iload hx hb dX5_bestLaid_89 (lv_at hl 4 rfl) ?_
          refine lv_ishl hx hb dX5_bestLaid_91 ?_
          refine lv_ior hx hb dX5_bestLaid_92 ?_
          exact hw.elim
  · replace hw := hw.2 hc1
    refine lv_aload_n hx hb dX5_bestLaid_8 rfl (lv_at hl 0 rfl) ?_
    refine lv_aload_n hx hb dX5_bestLaid_9 rfl (lv_at hl 0 rfl) ?_
    refine va_get (D := (dC, dI)) (ci := 7) (v := .ref (q 14)) (C := RX5) (T := TX5) (N := 15) hx hb hts hiX5 hown hK hP 0 rfl rfl 8 (by decide) hf41 (fun _ h9 => h9) rfl dX5_bestLaid_10 ?_
    refine g_cv (g_J.poolP (W2 := fun u15 : ((Nat → Nat → Int32)) => (W_P adK adV cI cB cS q qb n k f t u15 b sg)) (pl := va_pl sL (sgF sf)) (PL := fun u15 : ((Nat → Nat → Int32)) => va_pl sL (sgF sf)) (RX := fun u15 : ((Nat → Nat → Int32)) => (W_P adK adV cI cB cS q qb n k f t u15 b sg)) [] [0, 1, 2, 3, 4, 5, 6, 7, 8, 9, 10, 11, 12, 13, 14, 15, 16, 17, 18, 19, 20, 21, 22, 23, 24, 25, 26] [] [0, 1, 2, 3, 4, 5, 6, 7, 8, 9, 10, 11, 12, 13, 14, 15, 16, 17, 18, 19, 20, 21, 22, 23, 24, 25, 26] rfl (by decide) rfl (by decide) (by decide) (fun _ => rfl) (by decide)) [0, 1, 2] hK hP hD hS hA rfl (fun hPc hDc hKc hFc => va_runV (As := [.ref (q 14)]) (rest := []) ⟨hx, hb, hml, hown, hts⟩ (t_X5_raise_g l dC dI adK adV cI cB cS q qb n k H.size f t a b sg sL sf  _ hw) (cwV 1 hts gX5_bestLaid_X5_raise rfl rfl rfl (by decide +kernel) ⟨Nat.le_of_ble_eq_true rfl, Nat.le_of_ble_eq_true rfl⟩) (g_pV czb (q0 := 0) rfl rfl hPc hDc hKc (czc hZ hS hFc)) rfl rfl hl.1 rfl (lv_room (Nat.le_of_ble_eq_true rfl)) dX5_bestLaid_13 ⟨Nat.le_of_ble_eq_true rfl, Nat.le_of_ble_eq_true rfl⟩) (fun u15 H locs hw hP hD hS => ?_)
    replace hP : va_P (dC, dI) vwCl ((W_P adK adV cI cB cS q qb n k f t u15 b sg) ++ va_pl sL (sgF sf)) H := hP
    replace hD : va_D A ((W_P adK adV cI cB cS q qb n k f t u15 b sg) ++ va_pl sL (sgF sf)) := hD
    refine lv_aload_n hx hb dX5_bestLaid_16 rfl (lv_at hl 0 rfl) ?_
    refine g_ci (g_J.poolP (W2 := fun u16 : Unit => (W_P adK adV cI cB cS q qb n k f t u15 b sg)) (pl := va_pl sL (sgF sf)) (PL := fun u16 : Unit => va_pl sL (sgF sf)) (RX := fun u16 : Unit => (W_P adK adV cI cB cS q qb n k f t u15 b sg)) [] [0, 1, 2, 3, 4, 5, 6, 7, 8, 9, 10, 11, 12, 13, 14, 15, 16, 17, 18, 19, 20, 21, 22, 23, 24, 25, 26] [] [0, 1, 2, 3, 4, 5, 6, 7, 8, 9, 10, 11, 12, 13, 14, 15, 16, 17, 18, 19, 20, 21, 22, 23, 24, 25, 26] rfl (by decide) rfl (by decide) (by decide) (fun _ => rfl) (by decide)) [0, 1, 2] hK hP hD hS hA rfl (fun hPc hDc hKc hFc => va_runV (As := []) (rest := []) ⟨hx, hb, hml, hown, hts⟩ (t_X5_guessedTop l dC dI adK adV cI cB cS q qb n k H.size f t u15 b sg sL sf  _ hw) (cwV 0 hts gX5_bestLaid_X5_guessedTop rfl rfl rfl (by decide +kernel) ⟨Nat.le_of_ble_eq_true rfl, Nat.le_of_ble_eq_true rfl⟩) (g_pV czb (q0 := 0) rfl rfl hPc hDc hKc (czc hZ hS hFc)) rfl rfl hl.1 rfl (lv_room (Nat.le_of_ble_eq_true rfl)) dX5_bestLaid_17 ⟨Nat.le_of_ble_eq_true rfl, Nat.le_of_ble_eq_true rfl⟩) (fun r17 u16 H locs hw hP hD hS => ?_)
    replace hP : va_P (dC, dI) vwCl ((W_P adK adV cI cB cS q qb n k f t u15 b sg) ++ va_pl sL (sgF sf)) H := hP
    replace hD : va_D A ((W_P adK adV cI cB cS q qb n k f t u15 b sg) ++ va_pl sL (sgF sf)) := hD
    refine lv_sipush (v := 10000) hx hb dX5_bestLaid_20 (by decide) ?_
    refine lv_imul hx hb dX5_bestLaid_23 ?_
    refine lv_sipush (v := 10000) hx hb dX5_bestLaid_24 (by decide) ?_
    refine lv_iadd hx hb dX5_bestLaid_27 ?_
    refine lv_iconst (v := 1) hx hb dX5_bestLaid_28 (by decide) ?_
    refine lv_isub hx hb dX5_bestLaid_29 ?_
    refine lv_aload_n hx hb dX5_bestLaid_30 rfl (lv_at hl 0 rfl) ?_
    refine va_get (D := (dC, dI)) (ci := 7) (v := .ref (q 14)) (C := RX5) (T := TX5) (N := 15) hx hb hts hiX5 hown hK hP 0 rfl rfl 8 (by decide) hf41 (fun _ h9 => h9) rfl dX5_bestLaid_31 ?_
    refine lv_aload_n hx hb dX5_bestLaid_34 rfl (lv_at hl 0 rfl) ?_
    refine va_get (D := (dC, dI)) (ci := 7) (v := .int (nI n)) (C := RX5) (T := TX5) (N := 15) hx hb hts hiX5 hown hK hP 0 rfl rfl 0 (by decide) hf15 (fun _ h9 => h9) rfl dX5_bestLaid_35 ?_
    refine g_ci (g_J.poolQ (W2 := fun u18 : Unit => (W_P adK adV cI cB cS q qb n k f t u15 b sg)) (pl := va_pl sL (sgF sf)) [((q 0), .inr (7, [.int (nI n), .int (nI k), .ref (q 1), .ref (q 2), .ref (q 3), .ref (q 8), .int (f 0), .ref (q 13), .ref (q 14), .ref (q 15), .ref (q 18), .ref (q 21), .int (f 1), .ref (q 17), .int (f 2)])), ((q 1), .inl (cB, (5), .inr (.inr (.inr (.inr (fun i => (kAll i).map qb)))))), ((q 2), .inl (cI, k, .inl (u15 0))), ((q 3), .inr (10, [.ref (q 4), .ref (q 5), .ref (q 6), .ref (q 7), .int (f 3), .int (f 4)])), ((q 4), .inl (cI, (k - n), .inl (b 0))), ((q 5), .inl (cI, n, .inl (u15 1))), ((q 6), .inl (cI, k, .inl (u15 2))), ((q 7), .inl (cS, (6), .inr (.inr (.inr (.inr (sg 0)))))), ((q 8), .inr (10, [.ref (q 9), .ref (q 10), .ref (q 11), .ref (q 12), .int (f 5), .int (f 6)])), ((q 9), .inl (cI, (k - n), .inl (b 1))), ((q 10), .inl (cI, n, .inl (u15 3))), ((q 11), .inl (cI, k, .inl (u15 4))), ((q 12), .inl (cS, (6), .inr (.inr (.inr (.inr (sg 1)))))), ((q 13), .inl (cI, k, .inl (u15 5))), ((q 15), .inr (8, [.int (nI n), .ref (q 1), .ref (q 4), .ref (q 16), .ref t, .int (f 7)])), ((q 16), .inl (cI, k, .inl (u15 8))), ((q 17), .inl (cI, (10 * n), .inl (u15 7))), ((q 18), .inr (14, [.ref (q 19), .ref (q 20)])), ((q 19), .inl (cI, (k + 1), .inl (b 2))), ((q 20), .inl (cI, (toL n), .inl (b 3))), ((q 21), .inl (cI, k, .inl (b 4))), ((qb 0), .inr (2, [])), ((qb 1), .inr (3, [])), ((qb 2), .inr (5, [])), ((qb 3), .inr (11, [])), ((qb 4), .inr (4, []))] [14] [0, 1, 2, 3, 4, 5, 6, 7, 8, 9, 10, 11, 12, 13, 15, 16, 17, 18, 19, 20, 21, 22, 23, 24, 25, 26] [0, 1, 2, 3, 4, 5, 6, 7, 8, 9, 10, 11, 12, 13, 26, 14, 15, 16, 17, 18, 19, 20, 21, 22, 23, 24, 25] rfl (by decide) rfl (by decide) (by decide) (fun _ => rfl) (by decide)) [0] hK hP hD hS hA rfl (fun hPc hDc hKc hFc => va_runSN (As := [.ref (q 14), .int (nI n)]) (rest := [.int (((r17 * (10000 : Int32)) + (10000 : Int32)) - (1 : Int32))]) ⟨hx, hb, hml, hown, hts⟩ (t_X10_asNumber l dC dI cI (q 14) k H.size (u15 6)  (nI n) _ hw) ⟨va_cnB 2 hts gX5_bestLaid_X10_asNumber_n145 rfl rfl rfl nm145 iniRX10 (by decide +kernel) ⟨Nat.le_of_ble_eq_true rfl, Nat.le_of_ble_eq_true rfl⟩, st145, trivial⟩ (g_pS g_Tb hPc hDc hKc (fun _ _ _ => trivial)) rfl rfl hl.1 rfl (lv_room (Nat.le_of_ble_eq_true rfl)) dX5_bestLaid_38 ⟨Nat.le_of_ble_eq_true rfl, Nat.le_of_ble_eq_true rfl⟩) (fun r19 u18 H locs hw hP hD hS => ?_)
    replace hP : va_P (dC, dI) vwCl ((W_P adK adV cI cB cS q qb n k f t u15 b sg) ++ va_pl sL (sgF sf)) H := hP
    replace hD : va_D A ((W_P adK adV cI cB cS q qb n k f t u15 b sg) ++ va_pl sL (sgF sf)) := hD
    refine lv_isub hx hb dX5_bestLaid_41 ?_
    exact hret dX5_bestLaid_42 hK hP hD hS hw

def w_X5_bestLaid_1 (n : Nat) (k : Nat) (q : Nat → Nat) (f : Nat → Int32) (t : Nat) (a : Nat → Nat → Int32) (b : Nat → Nat → Int32) (sg : Nat → Nat → Option Nat) (sL : List Nat) (sf : Nat → Nat → Int32)  (p1 : Int32) (p2 : Int32) (Q : Int32 → ((Nat → Nat → Int32)) → Prop) : Prop := (((p1 < (nI n)) → (∀ X5 : Int32 → Int32 → (Nat → Nat → Int32) → Prop, (∀ (x2 : Int32) (x3 : Int32) (av4 : (Nat → Nat → Int32)), (((((nI n) ≤ x3) → Q x2 av4) ∧ (¬ ((nI n) ≤ x3) → ∀ J9 : Int32 → (Nat → Nat → Int32) → Prop, (∀ (x7 : Int32) (av8 : (Nat → Nat → Int32)), (∀ x10 : Int32, x10 = x3 + (1 : Int32) → X5 x7 x10 av8) → J9 x7 av8) → (((¬ ((p2 >>> (x3 &&& 31)) &&& (1 : Int32)) = 0) → J9 x2 av4) ∧ (((p2 >>> (x3 &&& 31)) &&& (1 : Int32)) = 0 → (vp_in x3 n) ∧ ∀ x14 : Int32, x14 = ((av4 1) x3.toNatClampNeg) → (vp_in p1 k) ∧ w_X5_bestLaid_0 n k q f t (va_up av4 6 (upd (av4 6) p1.toNatClampNeg x14)) b sg sL sf (p1 + (1 : Int32)) (p2 ||| ((1 : Int32) <<< (x3 &&& 31))) (fun (r16 : Int32) (u15 : ((Nat → Nat → Int32))) => ∀ x17 : Int32, x17 = (if x2 < r16 then r16 else x2) → J9 x17 u15)))))) → X5 x2 x3 av4) → X5 (0 : Int32) (0 : Int32) a)) ∧ (¬ (p1 < (nI n)) → w_X5_raise_g n k q f t a b sg sL sf  (fun (u18 : ((Nat → Nat → Int32))) => w_X5_guessedTop n k q f t u18 b sg sL sf  (fun (r20 : Int32) (u19 : Unit) => w_X10_asNumber k (u18 6)  (nI n) (fun (r22 : Int32) (u21 : Unit) => Q ((((r20 * (10000 : Int32)) + (10000 : Int32)) - (1 : Int32)) - r22) u18)))))
abbrev rmX5_bestLaid_1 : Room := { frames := 4, cells := 0, slots := 0, locals := 109 }
set_option maxHeartbeats 4000000 in
set_option maxRecDepth 100000 in
theorem t_X5_bestLaid_1 (l : Launch) (dC : Nat → ClassId) (dI : Nat → Nat → Nat) (adK : Nat → Nat) (adV : Nat → Nat) (cI : ClassId) (cB : ClassId) (cS : ClassId) (q : Nat → Nat) (qb : Nat → Nat) (n : Nat) (k : Nat) (sz : Nat) (f : Nat → Int32) (t : Nat) (a : Nat → Nat → Int32) (b : Nat → Nat → Int32) (sg : Nat → Nat → Option Nat) (sL : List Nat) (sf : Nat → Nat → Int32)   (p1 : Int32) (p2 : Int32) (Q0 : Int32 → ((Nat → Nat → Int32)) → Prop) (hw : w_X5_bestLaid_1 n k q f t a b sg sL sf  p1 p2 Q0) : Met l yX5_bestLaid wsX5_bestLaid rmX5_bestLaid_1 (g_pre (cz adK adV) (dC, dI) vwCl [(cI, .int), (cB, .object RX0), (cS, .object RX7)] ((W_P adK adV cI cB cS q qb n k f t a b sg) ++ va_pl sL (sgF sf)) sz [.ref (q 0), .int p1, .int p2]) (g_qi (dC, dI) vwCl [(cI, .int), (cB, .object RX0), (cS, .object RX7)] (fun u : ((Nat → Nat → Int32)) => ((W_P adK adV cI cB cS q qb n k f t u b sg) ++ va_pl sL (sgF sf))) Q0 (va_A ((W_P adK adV cI cB cS q qb n k f t a b sg) ++ va_pl sL (sgF sf)) sz)) 0 0 (va_A ((W_P adK adV cI cB cS q qb n k f t a b sg) ++ va_pl sL (sgF sf)) sz) := by
  refine g_starti (by decide) rfl (Nat.le_of_ble_eq_true rfl) ?_
  intro p e s m args below meth c A Q ls hx hb hml hown hts hin hK hP hD hA hS hZ hret hl
  obtain ⟨H, eH⟩ : ∃ H : Heap, H = s.heap := ⟨_, rfl⟩
  obtain ⟨locs, eL⟩ : ∃ L : List Loc, L = [] := ⟨_, rfl⟩
  have hS : va_S A s.heap H locs := by rw [eH, eL]; exact hS
  rw [← eH] at hP
  suffices hg : W p l e rmX5_bestLaid_1 s m args below meth c H locs 0 0 Q (F0 m 0 ls []) by rw [eH, eL] at hg; exact hg
  clear eH eL
  replace hl : lv_has ls 5 [(0, .ref (q 0)), (1, .int p1), (2, .int p2)] := hl
  have hf15 := hts (.fieldLink RX5 15 "NumberPile$Pile" "wide" "I") (by decide +kernel)
  have hiX5 : ∀ w ∈ u_ws RX5 TX5 15, w ∈ wsX5_bestLaid := fun w h => List.mem_cons_of_mem _ (List.mem_append_left _ (List.mem_append_right _ h))
  have hf41 := hts (.fieldLink RX5 41 "NumberPile$Pile" "guess" "[I") (by decide +kernel)
  have hf31 := hts (.fieldLink RX5 31 "NumberPile$Pile" "now" "LNumberPile$State;") (by decide +kernel)
  have nf98 := va_Nw.use (A := args) rfl (hZ.1 _ (List.mem_of_getElem? (i := 25) (rfl : cz_nest[25]? = some (.fieldLinkNest RX5 98 "NumberPile$State" "figures" "[I" "NumberPile"))))
  have hiX8 : ∀ w ∈ u_ws RX8 TX8 6, w ∈ wsX5_bestLaid := fun w h => List.mem_cons_of_mem _ (List.mem_append_right _ h)
  have ml149 := hts (.methodLink RX5 149 Lib.Math.max.name) (by decide +kernel)
  have msmax := hts (.static Lib.Math.max.name) (by decide +kernel)
  have miMath := hts (.initialized "java/lang/Math") (by decide +kernel)
  have mcmax := hts (.code Lib.Math.max.name Lib.Math.max.code 2 (some .int)) (by decide +kernel)
  have nm145 := hZ.1 _ (List.mem_of_getElem? (i := 29) (rfl : cz_nest[29]? = some (.methodLinkNest RX5 145 yX10_asNumber "NumberPile")))
  have iniRX10 := hts (.initialized RX10) (by decide +kernel)
  have st145 := hts (.static yX10_asNumber) (by decide +kernel)
  unfold w_X5_bestLaid_1 at hw
  refine lv_iload_n hx hb dX5_bestLaid_0 rfl (lv_at hl 1 rfl) ?_
  refine lv_aload_n hx hb dX5_bestLaid_1 rfl (lv_at hl 0 rfl) ?_
  refine va_get (D := (dC, dI)) (ci := 7) (v := .int (nI n)) (C := RX5) (T := TX5) (N := 15) hx hb hts hiX5 hown hK hP 0 rfl rfl 0 (by decide) hf15 (fun _ h9 => h9) rfl dX5_bestLaid_2 ?_
  refine lv_icmp_lt (tgt := 43) hx hb dX5_bestLaid_5 (by decide) (fun hc1 => ?_) (fun hc1 => ?_)
  · replace hw := hw.1 hc1
    refine lv_iconst (v := 0) hx hb dX5_bestLaid_43 (by decide) ?_
    refine lv_istore_n (lv' := [(3, .int (0 : Int32)), (0, .ref (q 0)), (1, .int p1), (2, .int p2)]) hx hb dX5_bestLaid_44 rfl hl (by decide) rfl (fun ls hl => ?_)
    refine lv_iconst (v := 0) hx hb dX5_bestLaid_45 (by decide) ?_
    refine lv_istore (lv' := [(4, .int (0 : Int32)), (3, .int (0 : Int32)), (0, .ref (q 0)), (1, .int p1), (2, .int p2)]) hx hb dX5_bestLaid_46 hl (by decide) rfl (fun ls hl => ?_)
    refine hw (fun (x2 : Int32) (x3 : Int32) (av4 : (Nat → Nat → Int32)) => ∀ (H : Heap) (locs : List Loc) (ls : Array Slot), va_P (dC, dI) vwCl ((W_P adK adV cI cB cS q qb n k f t av4 b sg) ++ va_pl sL (sgF sf)) H → va_D A ((W_P adK adV cI cB cS q qb n k f t av4 b sg) ++ va_pl sL (sgF sf)) → va_S A s.heap H locs → lv_has ls 5 [(0, .ref (q 0)), (1, .int p1), (2, .int p2), (3, .int x2), (4, .int x3)] → W p l e rmX5_bestLaid_1 s m args below meth c H locs 0 0 Q (F0 m 48 ls [])) ?_ H locs ls hP hD hS (lv_sub hl [2, 3, 4, 1, 0] rfl)
    · intro x2 x3 av4 hw H locs ls hP hD hS hl
      refine lv_iload hx hb dX5_bestLaid_48 (lv_at hl 4 rfl) ?_
      refine lv_aload_n hx hb dX5_bestLaid_50 rfl (lv_at hl 0 rfl) ?_
      refine va_get (D := (dC, dI)) (ci := 7) (v := .int (nI n)) (C := RX5) (T := TX5) (N := 15) hx hb hts hiX5 hown hK hP 0 rfl rfl 0 (by decide) hf15 (fun _ h9 => h9) rfl dX5_bestLaid_51 ?_
      refine lv_icmp_ge (tgt := 106) hx hb dX5_bestLaid_54 (by decide) (fun hc6 => ?_) (fun hc6 => ?_)
      · replace hw := hw.1 hc6
        refine lv_iload_n hx hb dX5_bestLaid_106 rfl (lv_at hl 3 rfl) ?_
        exact hret dX5_bestLaid_107 hK hP hD hS hw
      · replace hw := hw.2 hc6
        refine lv_iload_n hx hb dX5_bestLaid_57 rfl (lv_at hl 2 rfl) ?_
        refine lv_iload hx hb dX5_bestLaid_58 (lv_at hl 4 rfl) ?_
        refine lv_ishr hx hb dX5_bestLaid_60 ?_
        refine lv_iconst (v := 1) hx hb dX5_bestLaid_61 (by decide) ?_
        refine lv_iand hx hb dX5_bestLaid_62 ?_
        replace hw := hw (fun (x7 : Int32) (av8 : (Nat → Nat → Int32)) => ∀ (H : Heap) (locs : List Loc) (ls : Array Slot), va_P (dC, dI) vwCl ((W_P adK adV cI cB cS q qb n k f t av8 b sg) ++ va_pl sL (sgF sf)) H → va_D A ((W_P adK adV cI cB cS q qb n k f t av8 b sg) ++ va_pl sL (sgF sf)) → va_S A s.heap H locs → lv_has ls 5 [(0, .ref (q 0)), (1, .int p1), (2, .int p2), (3, .int x7), (4, .int x3)] → W p l e rmX5_bestLaid_1 s m args below meth c H locs 0 0 Q (F0 m 100 ls [])) (by
          intro x7 av8 hw H locs ls hP hD hS hl
          obtain ⟨x10, ex10⟩ : ∃ y : Int32, y = x3 + (1 : Int32) := ⟨_, rfl⟩
          replace hw := hw x10 ex10
          refine lv_iinc (v := x10) (lv' := [(4, .int x10), (0, .ref (q 0)), (1, .int p1), (2, .int p2), (3, .int x7)]) hx hb dX5_bestLaid_100 hl (k := 4) rfl (by rw [ex10]; rfl) (by decide) rfl (fun ls hl => ?_)
          refine lv_goto (tgt := 48) hx hb dX5_bestLaid_103 (by decide) ?_
          exact hw H locs ls hP hD hS (lv_sub hl [1, 2, 3, 4, 0] rfl))
        refine lv_if_ne (tgt := 100) hx hb dX5_bestLaid_63 (by decide) (fun hc11 => ?_) (fun hc11 => ?_)
        · replace hw := hw.1 hc11
          exact hw H locs ls hP hD hS (lv_sub hl [0, 1, 2, 3, 4] rfl)
        · replace hw := hw.2 hc11
          refine lv_aload_n hx hb dX5_bestLaid_66 rfl (lv_at hl 0 rfl) ?_
          refine va_get (D := (dC, dI)) (ci := 7) (v := .ref (q 14)) (C := RX5) (T := TX5) (N := 15) hx hb hts hiX5 hown hK hP 0 rfl rfl 8 (by decide) hf41 (fun _ h9 => h9) rfl dX5_bestLaid_67 ?_
          refine lv_iload_n hx hb dX5_bestLaid_70 rfl (lv_at hl 1 rfl) ?_
          refine lv_aload_n hx hb dX5_bestLaid_71 rfl (lv_at hl 0 rfl) ?_
          refine va_get (D := (dC, dI)) (ci := 7) (v := .ref (q 3)) (C := RX5) (T := TX5) (N := 15) hx hb hts hiX5 hown hK hP 0 rfl rfl 4 (by decide) hf31 (fun _ h9 => h9) rfl dX5_bestLaid_72 ?_
          refine va_getN (D := (dC, dI)) (ci := 10) (v := .ref (q 5)) (C := RX8) (T := TX8) (N := 6) hx hb hts hiX8 hown hK hP 3 rfl rfl 1 (by decide) nf98 (fun _ h9 => h9) rfl dX5_bestLaid_75 ?_
          refine lv_iload hx hb dX5_bestLaid_78 (lv_at hl 4 rfl) ?_
          obtain ⟨hb12, hw⟩ := hw
          refine va_iald hx hb hK hP 5 0 rfl rfl hb12 dX5_bestLaid_80 ?_
          refine lv_topi (fun x14 ex14 => ?_)
          replace hw := hw x14 ex14
          obtain ⟨hb13, hw⟩ := hw
          refine va_iast hx hb hK hP hD hS 14 0 rfl rfl hb13 dX5_bestLaid_81 (fun H locs hP hD hS => ?_)
          replace hP : va_P (dC, dI) vwCl ((W_P adK adV cI cB cS q qb n k f t (va_up av4 6 (upd (av4 6) p1.toNatClampNeg x14)) b sg) ++ va_pl sL (sgF sf)) H := hP
          replace hD : va_D A ((W_P adK adV cI cB cS q qb n k f t (va_up av4 6 (upd (av4 6) p1.toNatClampNeg x14)) b sg) ++ va_pl sL (sgF sf)) := hD
          refine lv_iload_n hx hb dX5_bestLaid_82 rfl (lv_at hl 3 rfl) ?_
          refine lv_aload_n hx hb dX5_bestLaid_83 rfl (lv_at hl 0 rfl) ?_
          refine lv_iload_n hx hb dX5_bestLaid_84 rfl (lv_at hl 1 rfl) ?_
          refine lv_iconst (v := 1) hx hb dX5_bestLaid_85 (by decide) ?_
          refine lv_iadd hx hb dX5_bestLaid_86 ?_
          refine lv_iload_n hx hb dX5_bestLaid_87 rfl (lv_at hl 2 rfl) ?_
          refine lv_iconst (v := 1) hx hb dX5_bestLaid_88 (by decide) ?_
          refine lv_iload hx hb dX5_bestLaid_89 (lv_at hl 4 rfl) ?_
          refine lv_ishl hx hb dX5_bestLaid_91 ?_
          refine lv_ior hx hb dX5_bestLaid_92 ?_
          refine g_ci (g_J.poolP (W2 := fun u15 : ((Nat → Nat → Int32)) => (W_P adK adV cI cB cS q qb n k f t u15 b sg)) (pl := va_pl sL (sgF sf)) (PL := fun u15 : ((Nat → Nat → Int32)) => va_pl sL (sgF sf)) (RX := fun u15 : ((Nat → Nat → Int32)) => (W_P adK adV cI cB cS q qb n k f t u15 b sg)) [] [0, 1, 2, 3, 4, 5, 6, 7, 8, 9, 10, 11, 12, 13, 14, 15, 16, 17, 18, 19, 20, 21, 22, 23, 24, 25, 26] [] [0, 1, 2, 3, 4, 5, 6, 7, 8, 9, 10, 11, 12, 13, 14, 15, 16, 17, 18, 19, 20, 21, 22, 23, 24, 25, 26] rfl (by decide) rfl (by decide) (by decide) (fun _ => rfl) (by decide)) [0, 1, 2] hK hP hD hS hA rfl (fun hPc hDc hKc hFc => va_runS (As := [.ref (q 0), .int (p1 + (1 : Int32)), .int (p2 ||| ((1 : Int32) <<< (x3 &&& 31)))]) (rest := [.int x2]) ⟨hx, hb, hml, hown, hts⟩ (t_X5_bestLaid_0 l dC dI adK adV cI cB cS q qb n k H.size f t (va_up av4 6 (upd (av4 6) p1.toNatClampNeg x14)) b sg sL sf (p1 + (1 : Int32)) (p2 ||| ((1 : Int32) <<< (x3 &&& 31))) _ hw) (va_cwS 3 hts gX5_bestLaid_X5_bestLaid rfl rfl rfl (by decide +kernel) ⟨Nat.le_of_ble_eq_true rfl, Nat.le_of_ble_eq_true rfl⟩) (g_pS czb hPc hDc hKc (czc hZ hS hFc)) rfl rfl hl.1 rfl (lv_room (Nat.le_of_ble_eq_true rfl)) dX5_bestLaid_93 ⟨Nat.le_of_ble_eq_true rfl, Nat.le_of_ble_eq_true rfl⟩) (fun r16 u15 H locs hw hP hD hS => ?_)
          replace hP : va_P (dC, dI) vwCl ((W_P adK adV cI cB cS q qb n k f t u15 b sg) ++ va_pl sL (sgF sf)) H := hP
          replace hD : va_D A ((W_P adK adV cI cB cS q qb n k f t u15 b sg) ++ va_pl sL (sgF sf)) := hD
          refine va_mmax hx hb (hml.trans hl.1.symm) hown ml149 msmax miMath mcmax (Nat.le_of_ble_eq_true rfl) (Nat.le_of_ble_eq_true rfl) (Nat.le_of_ble_eq_true rfl) (Nat.le_of_ble_eq_true rfl) dX5_bestLaid_96 ?_
          refine lv_topi (fun x17 ex17 => ?_)
          replace hw := hw x17 ex17
          refine lv_istore_n (lv' := [(3, .int x17), (0, .ref (q 0)), (1, .int p1), (2, .int p2), (4, .int x3)]) hx hb dX5_bestLaid_99 rfl hl (by decide) rfl (fun ls hl => ?_)
          exact hw H locs ls hP hD hS (lv_sub hl [1, 2, 3, 0, 4] rfl)
  · replace hw := hw.2 hc1
    refine lv_aload_n hx hb dX5_bestLaid_8 rfl (lv_at hl 0 rfl) ?_
    refine lv_aload_n hx hb dX5_bestLaid_9 rfl (lv_at hl 0 rfl) ?_
    refine va_get (D := (dC, dI)) (ci := 7) (v := .ref (q 14)) (C := RX5) (T := TX5) (N := 15) hx hb hts hiX5 hown hK hP 0 rfl rfl 8 (by decide) hf41 (fun _ h9 => h9) rfl dX5_bestLaid_10 ?_
    refine g_cv (g_J.poolP (W2 := fun u18 : ((Nat → Nat → Int32)) => (W_P adK adV cI cB cS q qb n k f t u18 b sg)) (pl := va_pl sL (sgF sf)) (PL := fun u18 : ((Nat → Nat → Int32)) => va_pl sL (sgF sf)) (RX := fun u18 : ((Nat → Nat → Int32)) => (W_P adK adV cI cB cS q qb n k f t u18 b sg)) [] [0, 1, 2, 3, 4, 5, 6, 7, 8, 9, 10, 11, 12, 13, 14, 15, 16, 17, 18, 19, 20, 21, 22, 23, 24, 25, 26] [] [0, 1, 2, 3, 4, 5, 6, 7, 8, 9, 10, 11, 12, 13, 14, 15, 16, 17, 18, 19, 20, 21, 22, 23, 24, 25, 26] rfl (by decide) rfl (by decide) (by decide) (fun _ => rfl) (by decide)) [0, 1, 2] hK hP hD hS hA rfl (fun hPc hDc hKc hFc => va_runV (As := [.ref (q 14)]) (rest := []) ⟨hx, hb, hml, hown, hts⟩ (t_X5_raise_g l dC dI adK adV cI cB cS q qb n k H.size f t a b sg sL sf  _ hw) (cwV 1 hts gX5_bestLaid_X5_raise rfl rfl rfl (by decide +kernel) ⟨Nat.le_of_ble_eq_true rfl, Nat.le_of_ble_eq_true rfl⟩) (g_pV czb (q0 := 0) rfl rfl hPc hDc hKc (czc hZ hS hFc)) rfl rfl hl.1 rfl (lv_room (Nat.le_of_ble_eq_true rfl)) dX5_bestLaid_13 ⟨Nat.le_of_ble_eq_true rfl, Nat.le_of_ble_eq_true rfl⟩) (fun u18 H locs hw hP hD hS => ?_)
    replace hP : va_P (dC, dI) vwCl ((W_P adK adV cI cB cS q qb n k f t u18 b sg) ++ va_pl sL (sgF sf)) H := hP
    replace hD : va_D A ((W_P adK adV cI cB cS q qb n k f t u18 b sg) ++ va_pl sL (sgF sf)) := hD
    refine lv_aload_n hx hb dX5_bestLaid_16 rfl (lv_at hl 0 rfl) ?_
    refine g_ci (g_J.poolP (W2 := fun u19 : Unit => (W_P adK adV cI cB cS q qb n k f t u18 b sg)) (pl := va_pl sL (sgF sf)) (PL := fun u19 : Unit => va_pl sL (sgF sf)) (RX := fun u19 : Unit => (W_P adK adV cI cB cS q qb n k f t u18 b sg)) [] [0, 1, 2, 3, 4, 5, 6, 7, 8, 9, 10, 11, 12, 13, 14, 15, 16, 17, 18, 19, 20, 21, 22, 23, 24, 25, 26] [] [0, 1, 2, 3, 4, 5, 6, 7, 8, 9, 10, 11, 12, 13, 14, 15, 16, 17, 18, 19, 20, 21, 22, 23, 24, 25, 26] rfl (by decide) rfl (by decide) (by decide) (fun _ => rfl) (by decide)) [0, 1, 2] hK hP hD hS hA rfl (fun hPc hDc hKc hFc => va_runV (As := []) (rest := []) ⟨hx, hb, hml, hown, hts⟩ (t_X5_guessedTop l dC dI adK adV cI cB cS q qb n k H.size f t u18 b sg sL sf  _ hw) (cwV 0 hts gX5_bestLaid_X5_guessedTop rfl rfl rfl (by decide +kernel) ⟨Nat.le_of_ble_eq_true rfl, Nat.le_of_ble_eq_true rfl⟩) (g_pV czb (q0 := 0) rfl rfl hPc hDc hKc (czc hZ hS hFc)) rfl rfl hl.1 rfl (lv_room (Nat.le_of_ble_eq_true rfl)) dX5_bestLaid_17 ⟨Nat.le_of_ble_eq_true rfl, Nat.le_of_ble_eq_true rfl⟩) (fun r20 u19 H locs hw hP hD hS => ?_)
    replace hP : va_P (dC, dI) vwCl ((W_P adK adV cI cB cS q qb n k f t u18 b sg) ++ va_pl sL (sgF sf)) H := hP
    replace hD : va_D A ((W_P adK adV cI cB cS q qb n k f t u18 b sg) ++ va_pl sL (sgF sf)) := hD
    refine lv_sipush (v := 10000) hx hb dX5_bestLaid_20 (by decide) ?_
    refine lv_imul hx hb dX5_bestLaid_23 ?_
    refine lv_sipush (v := 10000) hx hb dX5_bestLaid_24 (by decide) ?_
    refine lv_iadd hx hb dX5_bestLaid_27 ?_
    refine lv_iconst (v := 1) hx hb dX5_bestLaid_28 (by decide) ?_
    refine lv_isub hx hb dX5_bestLaid_29 ?_
    refine lv_aload_n hx hb dX5_bestLaid_30 rfl (lv_at hl 0 rfl) ?_
    refine va_get (D := (dC, dI)) (ci := 7) (v := .ref (q 14)) (C := RX5) (T := TX5) (N := 15) hx hb hts hiX5 hown hK hP 0 rfl rfl 8 (by decide) hf41 (fun _ h9 => h9) rfl dX5_bestLaid_31 ?_
    refine lv_aload_n hx hb dX5_bestLaid_34 rfl (lv_at hl 0 rfl) ?_
    refine va_get (D := (dC, dI)) (ci := 7) (v := .int (nI n)) (C := RX5) (T := TX5) (N := 15) hx hb hts hiX5 hown hK hP 0 rfl rfl 0 (by decide) hf15 (fun _ h9 => h9) rfl dX5_bestLaid_35 ?_
    refine g_ci (g_J.poolQ (W2 := fun u21 : Unit => (W_P adK adV cI cB cS q qb n k f t u18 b sg)) (pl := va_pl sL (sgF sf)) [((q 0), .inr (7, [.int (nI n), .int (nI k), .ref (q 1), .ref (q 2), .ref (q 3), .ref (q 8), .int (f 0), .ref (q 13), .ref (q 14), .ref (q 15), .ref (q 18), .ref (q 21), .int (f 1), .ref (q 17), .int (f 2)])), ((q 1), .inl (cB, (5), .inr (.inr (.inr (.inr (fun i => (kAll i).map qb)))))), ((q 2), .inl (cI, k, .inl (u18 0))), ((q 3), .inr (10, [.ref (q 4), .ref (q 5), .ref (q 6), .ref (q 7), .int (f 3), .int (f 4)])), ((q 4), .inl (cI, (k - n), .inl (b 0))), ((q 5), .inl (cI, n, .inl (u18 1))), ((q 6), .inl (cI, k, .inl (u18 2))), ((q 7), .inl (cS, (6), .inr (.inr (.inr (.inr (sg 0)))))), ((q 8), .inr (10, [.ref (q 9), .ref (q 10), .ref (q 11), .ref (q 12), .int (f 5), .int (f 6)])), ((q 9), .inl (cI, (k - n), .inl (b 1))), ((q 10), .inl (cI, n, .inl (u18 3))), ((q 11), .inl (cI, k, .inl (u18 4))), ((q 12), .inl (cS, (6), .inr (.inr (.inr (.inr (sg 1)))))), ((q 13), .inl (cI, k, .inl (u18 5))), ((q 15), .inr (8, [.int (nI n), .ref (q 1), .ref (q 4), .ref (q 16), .ref t, .int (f 7)])), ((q 16), .inl (cI, k, .inl (u18 8))), ((q 17), .inl (cI, (10 * n), .inl (u18 7))), ((q 18), .inr (14, [.ref (q 19), .ref (q 20)])), ((q 19), .inl (cI, (k + 1), .inl (b 2))), ((q 20), .inl (cI, (toL n), .inl (b 3))), ((q 21), .inl (cI, k, .inl (b 4))), ((qb 0), .inr (2, [])), ((qb 1), .inr (3, [])), ((qb 2), .inr (5, [])), ((qb 3), .inr (11, [])), ((qb 4), .inr (4, []))] [14] [0, 1, 2, 3, 4, 5, 6, 7, 8, 9, 10, 11, 12, 13, 15, 16, 17, 18, 19, 20, 21, 22, 23, 24, 25, 26] [0, 1, 2, 3, 4, 5, 6, 7, 8, 9, 10, 11, 12, 13, 26, 14, 15, 16, 17, 18, 19, 20, 21, 22, 23, 24, 25] rfl (by decide) rfl (by decide) (by decide) (fun _ => rfl) (by decide)) [0] hK hP hD hS hA rfl (fun hPc hDc hKc hFc => va_runSN (As := [.ref (q 14), .int (nI n)]) (rest := [.int (((r20 * (10000 : Int32)) + (10000 : Int32)) - (1 : Int32))]) ⟨hx, hb, hml, hown, hts⟩ (t_X10_asNumber l dC dI cI (q 14) k H.size (u18 6)  (nI n) _ hw) ⟨va_cnB 2 hts gX5_bestLaid_X10_asNumber_n145 rfl rfl rfl nm145 iniRX10 (by decide +kernel) ⟨Nat.le_of_ble_eq_true rfl, Nat.le_of_ble_eq_true rfl⟩, st145, trivial⟩ (g_pS g_Tb hPc hDc hKc (fun _ _ _ => trivial)) rfl rfl hl.1 rfl (lv_room (Nat.le_of_ble_eq_true rfl)) dX5_bestLaid_38 ⟨Nat.le_of_ble_eq_true rfl, Nat.le_of_ble_eq_true rfl⟩) (fun r22 u21 H locs hw hP hD hS => ?_)
    replace hP : va_P (dC, dI) vwCl ((W_P adK adV cI cB cS q qb n k f t u18 b sg) ++ va_pl sL (sgF sf)) H := hP
    replace hD : va_D A ((W_P adK adV cI cB cS q qb n k f t u18 b sg) ++ va_pl sL (sgF sf)) := hD
    refine lv_isub hx hb dX5_bestLaid_41 ?_
    exact hret dX5_bestLaid_42 hK hP hD hS hw

def w_X5_bestLaid_2 (n : Nat) (k : Nat) (q : Nat → Nat) (f : Nat → Int32) (t : Nat) (a : Nat → Nat → Int32) (b : Nat → Nat → Int32) (sg : Nat → Nat → Option Nat) (sL : List Nat) (sf : Nat → Nat → Int32)  (p1 : Int32) (p2 : Int32) (Q : Int32 → ((Nat → Nat → Int32)) → Prop) : Prop := (((p1 < (nI n)) → (∀ X5 : Int32 → Int32 → (Nat → Nat → Int32) → Prop, (∀ (x2 : Int32) (x3 : Int32) (av4 : (Nat → Nat → Int32)), (((((nI n) ≤ x3) → Q x2 av4) ∧ (¬ ((nI n) ≤ x3) → ∀ J9 : Int32 → (Nat → Nat → Int32) → Prop, (∀ (x7 : Int32) (av8 : (Nat → Nat → Int32)), (∀ x10 : Int32, x10 = x3 + (1 : Int32) → X5 x7 x10 av8) → J9 x7 av8) → (((¬ ((p2 >>> (x3 &&& 31)) &&& (1 : Int32)) = 0) → J9 x2 av4) ∧ (((p2 >>> (x3 &&& 31)) &&& (1 : Int32)) = 0 → (vp_in x3 n) ∧ ∀ x14 : Int32, x14 = ((av4 1) x3.toNatClampNeg) → (vp_in p1 k) ∧ w_X5_bestLaid_1 n k q f t (va_up av4 6 (upd (av4 6) p1.toNatClampNeg x14)) b sg sL sf (p1 + (1 : Int32)) (p2 ||| ((1 : Int32) <<< (x3 &&& 31))) (fun (r16 : Int32) (u15 : ((Nat → Nat → Int32))) => ∀ x17 : Int32, x17 = (if x2 < r16 then r16 else x2) → J9 x17 u15)))))) → X5 x2 x3 av4) → X5 (0 : Int32) (0 : Int32) a)) ∧ (¬ (p1 < (nI n)) → w_X5_raise_g n k q f t a b sg sL sf  (fun (u18 : ((Nat → Nat → Int32))) => w_X5_guessedTop n k q f t u18 b sg sL sf  (fun (r20 : Int32) (u19 : Unit) => w_X10_asNumber k (u18 6)  (nI n) (fun (r22 : Int32) (u21 : Unit) => Q ((((r20 * (10000 : Int32)) + (10000 : Int32)) - (1 : Int32)) - r22) u18)))))
abbrev rmX5_bestLaid_2 : Room := { frames := 5, cells := 0, slots := 0, locals := 133 }
set_option maxHeartbeats 4000000 in
set_option maxRecDepth 100000 in
theorem t_X5_bestLaid_2 (l : Launch) (dC : Nat → ClassId) (dI : Nat → Nat → Nat) (adK : Nat → Nat) (adV : Nat → Nat) (cI : ClassId) (cB : ClassId) (cS : ClassId) (q : Nat → Nat) (qb : Nat → Nat) (n : Nat) (k : Nat) (sz : Nat) (f : Nat → Int32) (t : Nat) (a : Nat → Nat → Int32) (b : Nat → Nat → Int32) (sg : Nat → Nat → Option Nat) (sL : List Nat) (sf : Nat → Nat → Int32)   (p1 : Int32) (p2 : Int32) (Q0 : Int32 → ((Nat → Nat → Int32)) → Prop) (hw : w_X5_bestLaid_2 n k q f t a b sg sL sf  p1 p2 Q0) : Met l yX5_bestLaid wsX5_bestLaid rmX5_bestLaid_2 (g_pre (cz adK adV) (dC, dI) vwCl [(cI, .int), (cB, .object RX0), (cS, .object RX7)] ((W_P adK adV cI cB cS q qb n k f t a b sg) ++ va_pl sL (sgF sf)) sz [.ref (q 0), .int p1, .int p2]) (g_qi (dC, dI) vwCl [(cI, .int), (cB, .object RX0), (cS, .object RX7)] (fun u : ((Nat → Nat → Int32)) => ((W_P adK adV cI cB cS q qb n k f t u b sg) ++ va_pl sL (sgF sf))) Q0 (va_A ((W_P adK adV cI cB cS q qb n k f t a b sg) ++ va_pl sL (sgF sf)) sz)) 0 0 (va_A ((W_P adK adV cI cB cS q qb n k f t a b sg) ++ va_pl sL (sgF sf)) sz) := by
  refine g_starti (by decide) rfl (Nat.le_of_ble_eq_true rfl) ?_
  intro p e s m args below meth c A Q ls hx hb hml hown hts hin hK hP hD hA hS hZ hret hl
  obtain ⟨H, eH⟩ : ∃ H : Heap, H = s.heap := ⟨_, rfl⟩
  obtain ⟨locs, eL⟩ : ∃ L : List Loc, L = [] := ⟨_, rfl⟩
  have hS : va_S A s.heap H locs := by rw [eH, eL]; exact hS
  rw [← eH] at hP
  suffices hg : W p l e rmX5_bestLaid_2 s m args below meth c H locs 0 0 Q (F0 m 0 ls []) by rw [eH, eL] at hg; exact hg
  clear eH eL
  replace hl : lv_has ls 5 [(0, .ref (q 0)), (1, .int p1), (2, .int p2)] := hl
  have hf15 := hts (.fieldLink RX5 15 "NumberPile$Pile" "wide" "I") (by decide +kernel)
  have hiX5 : ∀ w ∈ u_ws RX5 TX5 15, w ∈ wsX5_bestLaid := fun w h => List.mem_cons_of_mem _ (List.mem_append_left _ (List.mem_append_right _ h))
  have hf41 := hts (.fieldLink RX5 41 "NumberPile$Pile" "guess" "[I") (by decide +kernel)
  have hf31 := hts (.fieldLink RX5 31 "NumberPile$Pile" "now" "LNumberPile$State;") (by decide +kernel)
  have nf98 := va_Nw.use (A := args) rfl (hZ.1 _ (List.mem_of_getElem? (i := 25) (rfl : cz_nest[25]? = some (.fieldLinkNest RX5 98 "NumberPile$State" "figures" "[I" "NumberPile"))))
  have hiX8 : ∀ w ∈ u_ws RX8 TX8 6, w ∈ wsX5_bestLaid := fun w h => List.mem_cons_of_mem _ (List.mem_append_right _ h)
  have ml149 := hts (.methodLink RX5 149 Lib.Math.max.name) (by decide +kernel)
  have msmax := hts (.static Lib.Math.max.name) (by decide +kernel)
  have miMath := hts (.initialized "java/lang/Math") (by decide +kernel)
  have mcmax := hts (.code Lib.Math.max.name Lib.Math.max.code 2 (some .int)) (by decide +kernel)
  have nm145 := hZ.1 _ (List.mem_of_getElem? (i := 29) (rfl : cz_nest[29]? = some (.methodLinkNest RX5 145 yX10_asNumber "NumberPile")))
  have iniRX10 := hts (.initialized RX10) (by decide +kernel)
  have st145 := hts (.static yX10_asNumber) (by decide +kernel)
  unfold w_X5_bestLaid_2 at hw
  refine lv_iload_n hx hb dX5_bestLaid_0 rfl (lv_at hl 1 rfl) ?_
  refine lv_aload_n hx hb dX5_bestLaid_1 rfl (lv_at hl 0 rfl) ?_
  refine va_get (D := (dC, dI)) (ci := 7) (v := .int (nI n)) (C := RX5) (T := TX5) (N := 15) hx hb hts hiX5 hown hK hP 0 rfl rfl 0 (by decide) hf15 (fun _ h9 => h9) rfl dX5_bestLaid_2 ?_
  refine lv_icmp_lt (tgt := 43) hx hb dX5_bestLaid_5 (by decide) (fun hc1 => ?_) (fun hc1 => ?_)
  · replace hw := hw.1 hc1
    refine lv_iconst (v := 0) hx hb dX5_bestLaid_43 (by decide) ?_
    refine lv_istore_n (lv' := [(3, .int (0 : Int32)), (0, .ref (q 0)), (1, .int p1), (2, .int p2)]) hx hb dX5_bestLaid_44 rfl hl (by decide) rfl (fun ls hl => ?_)
    refine lv_iconst (v := 0) hx hb dX5_bestLaid_45 (by decide) ?_
    refine lv_istore (lv' := [(4, .int (0 : Int32)), (3, .int (0 : Int32)), (0, .ref (q 0)), (1, .int p1), (2, .int p2)]) hx hb dX5_bestLaid_46 hl (by decide) rfl (fun ls hl => ?_)
    refine hw (fun (x2 : Int32) (x3 : Int32) (av4 : (Nat → Nat → Int32)) => ∀ (H : Heap) (locs : List Loc) (ls : Array Slot), va_P (dC, dI) vwCl ((W_P adK adV cI cB cS q qb n k f t av4 b sg) ++ va_pl sL (sgF sf)) H → va_D A ((W_P adK adV cI cB cS q qb n k f t av4 b sg) ++ va_pl sL (sgF sf)) → va_S A s.heap H locs → lv_has ls 5 [(0, .ref (q 0)), (1, .int p1), (2, .int p2), (3, .int x2), (4, .int x3)] → W p l e rmX5_bestLaid_2 s m args below meth c H locs 0 0 Q (F0 m 48 ls [])) ?_ H locs ls hP hD hS (lv_sub hl [2, 3, 4, 1, 0] rfl)
    · intro x2 x3 av4 hw H locs ls hP hD hS hl
      refine lv_iload hx hb dX5_bestLaid_48 (lv_at hl 4 rfl) ?_
      refine lv_aload_n hx hb dX5_bestLaid_50 rfl (lv_at hl 0 rfl) ?_
      refine va_get (D := (dC, dI)) (ci := 7) (v := .int (nI n)) (C := RX5) (T := TX5) (N := 15) hx hb hts hiX5 hown hK hP 0 rfl rfl 0 (by decide) hf15 (fun _ h9 => h9) rfl dX5_bestLaid_51 ?_
      refine lv_icmp_ge (tgt := 106) hx hb dX5_bestLaid_54 (by decide) (fun hc6 => ?_) (fun hc6 => ?_)
      · replace hw := hw.1 hc6
        refine lv_iload_n hx hb dX5_bestLaid_106 rfl (lv_at hl 3 rfl) ?_
        exact hret dX5_bestLaid_107 hK hP hD hS hw
      · replace hw := hw.2 hc6
        refine lv_iload_n hx hb dX5_bestLaid_57 rfl (lv_at hl 2 rfl) ?_
        refine lv_iload hx hb dX5_bestLaid_58 (lv_at hl 4 rfl) ?_
        refine lv_ishr hx hb dX5_bestLaid_60 ?_
        refine lv_iconst (v := 1) hx hb dX5_bestLaid_61 (by decide) ?_
        refine lv_iand hx hb dX5_bestLaid_62 ?_
        replace hw := hw (fun (x7 : Int32) (av8 : (Nat → Nat → Int32)) => ∀ (H : Heap) (locs : List Loc) (ls : Array Slot), va_P (dC, dI) vwCl ((W_P adK adV cI cB cS q qb n k f t av8 b sg) ++ va_pl sL (sgF sf)) H → va_D A ((W_P adK adV cI cB cS q qb n k f t av8 b sg) ++ va_pl sL (sgF sf)) → va_S A s.heap H locs → lv_has ls 5 [(0, .ref (q 0)), (1, .int p1), (2, .int p2), (3, .int x7), (4, .int x3)] → W p l e rmX5_bestLaid_2 s m args below meth c H locs 0 0 Q (F0 m 100 ls [])) (by
          intro x7 av8 hw H locs ls hP hD hS hl
          obtain ⟨x10, ex10⟩ : ∃ y : Int32, y = x3 + (1 : Int32) := ⟨_, rfl⟩
          replace hw := hw x10 ex10
          refine lv_iinc (v := x10) (lv' := [(4, .int x10), (0, .ref (q 0)), (1, .int p1), (2, .int p2), (3, .int x7)]) hx hb dX5_bestLaid_100 hl (k := 4) rfl (by rw [ex10]; rfl) (by decide) rfl (fun ls hl => ?_)
          refine lv_goto (tgt := 48) hx hb dX5_bestLaid_103 (by decide) ?_
          exact hw H locs ls hP hD hS (lv_sub hl [1, 2, 3, 4, 0] rfl))
        refine lv_if_ne (tgt := 100) hx hb dX5_bestLaid_63 (by decide) (fun hc11 => ?_) (fun hc11 => ?_)
        · replace hw := hw.1 hc11
          exact hw H locs ls hP hD hS (lv_sub hl [0, 1, 2, 3, 4] rfl)
        · replace hw := hw.2 hc11
          refine lv_aload_n hx hb dX5_bestLaid_66 rfl (lv_at hl 0 rfl) ?_
          refine va_get (D := (dC, dI)) (ci := 7) (v := .ref (q 14)) (C := RX5) (T := TX5) (N := 15) hx hb hts hiX5 hown hK hP 0 rfl rfl 8 (by decide) hf41 (fun _ h9 => h9) rfl dX5_bestLaid_67 ?_
          refine lv_iload_n hx hb dX5_bestLaid_70 rfl (lv_at hl 1 rfl) ?_
          refine lv_aload_n hx hb dX5_bestLaid_71 rfl (lv_at hl 0 rfl) ?_
          refine va_get (D := (dC, dI)) (ci := 7) (v := .ref (q 3)) (C := RX5) (T := TX5) (N := 15) hx hb hts hiX5 hown hK hP 0 rfl rfl 4 (by decide) hf31 (fun _ h9 => h9) rfl dX5_bestLaid_72 ?_
          refine va_getN (D := (dC, dI)) (ci := 10) (v := .ref (q 5)) (C := RX8) (T := TX8) (N := 6) hx hb hts hiX8 hown hK hP 3 rfl rfl 1 (by decide) nf98 (fun _ h9 => h9) rfl dX5_bestLaid_75 ?_
          refine lv_iload hx hb dX5_bestLaid_78 (lv_at hl 4 rfl) ?_
          obtain ⟨hb12, hw⟩ := hw
          refine va_iald hx hb hK hP 5 0 rfl rfl hb12 dX5_bestLaid_80 ?_
          refine lv_topi (fun x14 ex14 => ?_)
          replace hw := hw x14 ex14
          obtain ⟨hb13, hw⟩ := hw
          refine va_iast hx hb hK hP hD hS 14 0 rfl rfl hb13 dX5_bestLaid_81 (fun H locs hP hD hS => ?_)
          replace hP : va_P (dC, dI) vwCl ((W_P adK adV cI cB cS q qb n k f t (va_up av4 6 (upd (av4 6) p1.toNatClampNeg x14)) b sg) ++ va_pl sL (sgF sf)) H := hP
          replace hD : va_D A ((W_P adK adV cI cB cS q qb n k f t (va_up av4 6 (upd (av4 6) p1.toNatClampNeg x14)) b sg) ++ va_pl sL (sgF sf)) := hD
          refine lv_iload_n hx hb dX5_bestLaid_82 rfl (lv_at hl 3 rfl) ?_
          refine lv_aload_n hx hb dX5_bestLaid_83 rfl (lv_at hl 0 rfl) ?_
          refine lv_iload_n hx hb dX5_bestLaid_84 rfl (lv_at hl 1 rfl) ?_
          refine lv_iconst (v := 1) hx hb dX5_bestLaid_85 (by decide) ?_
          refine lv_iadd hx hb dX5_bestLaid_86 ?_
          refine lv_iload_n hx hb dX5_bestLaid_87 rfl (lv_at hl 2 rfl) ?_
          refine lv_iconst (v := 1) hx hb dX5_bestLaid_88 (by decide) ?_
          refine lv_iload hx hb dX5_bestLaid_89 (lv_at hl 4 rfl) ?_
          refine lv_ishl hx hb dX5_bestLaid_91 ?_
          refine lv_ior hx hb dX5_bestLaid_92 ?_
          refine g_ci (g_J.poolP (W2 := fun u15 : ((Nat → Nat → Int32)) => (W_P adK adV cI cB cS q qb n k f t u15 b sg)) (pl := va_pl sL (sgF sf)) (PL := fun u15 : ((Nat → Nat → Int32)) => va_pl sL (sgF sf)) (RX := fun u15 : ((Nat → Nat → Int32)) => (W_P adK adV cI cB cS q qb n k f t u15 b sg)) [] [0, 1, 2, 3, 4, 5, 6, 7, 8, 9, 10, 11, 12, 13, 14, 15, 16, 17, 18, 19, 20, 21, 22, 23, 24, 25, 26] [] [0, 1, 2, 3, 4, 5, 6, 7, 8, 9, 10, 11, 12, 13, 14, 15, 16, 17, 18, 19, 20, 21, 22, 23, 24, 25, 26] rfl (by decide) rfl (by decide) (by decide) (fun _ => rfl) (by decide)) [0, 1, 2] hK hP hD hS hA rfl (fun hPc hDc hKc hFc => va_runS (As := [.ref (q 0), .int (p1 + (1 : Int32)), .int (p2 ||| ((1 : Int32) <<< (x3 &&& 31)))]) (rest := [.int x2]) ⟨hx, hb, hml, hown, hts⟩ (t_X5_bestLaid_1 l dC dI adK adV cI cB cS q qb n k H.size f t (va_up av4 6 (upd (av4 6) p1.toNatClampNeg x14)) b sg sL sf (p1 + (1 : Int32)) (p2 ||| ((1 : Int32) <<< (x3 &&& 31))) _ hw) (va_cwS 3 hts gX5_bestLaid_X5_bestLaid rfl rfl rfl (by decide +kernel) ⟨Nat.le_of_ble_eq_true rfl, Nat.le_of_ble_eq_true rfl⟩) (g_pS czb hPc hDc hKc (czc hZ hS hFc)) rfl rfl hl.1 rfl (lv_room (Nat.le_of_ble_eq_true rfl)) dX5_bestLaid_93 ⟨Nat.le_of_ble_eq_true rfl, Nat.le_of_ble_eq_true rfl⟩) (fun r16 u15 H locs hw hP hD hS => ?_)
          replace hP : va_P (dC, dI) vwCl ((W_P adK adV cI cB cS q qb n k f t u15 b sg) ++ va_pl sL (sgF sf)) H := hP
          replace hD : va_D A ((W_P adK adV cI cB cS q qb n k f t u15 b sg) ++ va_pl sL (sgF sf)) := hD
          refine va_mmax hx hb (hml.trans hl.1.symm) hown ml149 msmax miMath mcmax (Nat.le_of_ble_eq_true rfl) (Nat.le_of_ble_eq_true rfl) (Nat.le_of_ble_eq_true rfl) (Nat.le_of_ble_eq_true rfl) dX5_bestLaid_96 ?_
          refine lv_topi (fun x17 ex17 => ?_)
          replace hw := hw x17 ex17
          refine lv_istore_n (lv' := [(3, .int x17), (0, .ref (q 0)), (1, .int p1), (2, .int p2), (4, .int x3)]) hx hb dX5_bestLaid_99 rfl hl (by decide) rfl (fun ls hl => ?_)
          exact hw H locs ls hP hD hS (lv_sub hl [1, 2, 3, 0, 4] rfl)
  · replace hw := hw.2 hc1
    refine lv_aload_n hx hb dX5_bestLaid_8 rfl (lv_at hl 0 rfl) ?_
    refine lv_aload_n hx hb dX5_bestLaid_9 rfl (lv_at hl 0 rfl) ?_
    refine va_get (D := (dC, dI)) (ci := 7) (v := .ref (q 14)) (C := RX5) (T := TX5) (N := 15) hx hb hts hiX5 hown hK hP 0 rfl rfl 8 (by decide) hf41 (fun _ h9 => h9) rfl dX5_bestLaid_10 ?_
    refine g_cv (g_J.poolP (W2 := fun u18 : ((Nat → Nat → Int32)) => (W_P adK adV cI cB cS q qb n k f t u18 b sg)) (pl := va_pl sL (sgF sf)) (PL := fun u18 : ((Nat → Nat → Int32)) => va_pl sL (sgF sf)) (RX := fun u18 : ((Nat → Nat → Int32)) => (W_P adK adV cI cB cS q qb n k f t u18 b sg)) [] [0, 1, 2, 3, 4, 5, 6, 7, 8, 9, 10, 11, 12, 13, 14, 15, 16, 17, 18, 19, 20, 21, 22, 23, 24, 25, 26] [] [0, 1, 2, 3, 4, 5, 6, 7, 8, 9, 10, 11, 12, 13, 14, 15, 16, 17, 18, 19, 20, 21, 22, 23, 24, 25, 26] rfl (by decide) rfl (by decide) (by decide) (fun _ => rfl) (by decide)) [0, 1, 2] hK hP hD hS hA rfl (fun hPc hDc hKc hFc => va_runV (As := [.ref (q 14)]) (rest := []) ⟨hx, hb, hml, hown, hts⟩ (t_X5_raise_g l dC dI adK adV cI cB cS q qb n k H.size f t a b sg sL sf  _ hw) (cwV 1 hts gX5_bestLaid_X5_raise rfl rfl rfl (by decide +kernel) ⟨Nat.le_of_ble_eq_true rfl, Nat.le_of_ble_eq_true rfl⟩) (g_pV czb (q0 := 0) rfl rfl hPc hDc hKc (czc hZ hS hFc)) rfl rfl hl.1 rfl (lv_room (Nat.le_of_ble_eq_true rfl)) dX5_bestLaid_13 ⟨Nat.le_of_ble_eq_true rfl, Nat.le_of_ble_eq_true rfl⟩) (fun u18 H locs hw hP hD hS => ?_)
    replace hP : va_P (dC, dI) vwCl ((W_P adK adV cI cB cS q qb n k f t u18 b sg) ++ va_pl sL (sgF sf)) H := hP
    replace hD : va_D A ((W_P adK adV cI cB cS q qb n k f t u18 b sg) ++ va_pl sL (sgF sf)) := hD
    refine lv_aload_n hx hb dX5_bestLaid_16 rfl (lv_at hl 0 rfl) ?_
    refine g_ci (g_J.poolP (W2 := fun u19 : Unit => (W_P adK adV cI cB cS q qb n k f t u18 b sg)) (pl := va_pl sL (sgF sf)) (PL := fun u19 : Unit => va_pl sL (sgF sf)) (RX := fun u19 : Unit => (W_P adK adV cI cB cS q qb n k f t u18 b sg)) [] [0, 1, 2, 3, 4, 5, 6, 7, 8, 9, 10, 11, 12, 13, 14, 15, 16, 17, 18, 19, 20, 21, 22, 23, 24, 25, 26] [] [0, 1, 2, 3, 4, 5, 6, 7, 8, 9, 10, 11, 12, 13, 14, 15, 16, 17, 18, 19, 20, 21, 22, 23, 24, 25, 26] rfl (by decide) rfl (by decide) (by decide) (fun _ => rfl) (by decide)) [0, 1, 2] hK hP hD hS hA rfl (fun hPc hDc hKc hFc => va_runV (As := []) (rest := []) ⟨hx, hb, hml, hown, hts⟩ (t_X5_guessedTop l dC dI adK adV cI cB cS q qb n k H.size f t u18 b sg sL sf  _ hw) (cwV 0 hts gX5_bestLaid_X5_guessedTop rfl rfl rfl (by decide +kernel) ⟨Nat.le_of_ble_eq_true rfl, Nat.le_of_ble_eq_true rfl⟩) (g_pV czb (q0 := 0) rfl rfl hPc hDc hKc (czc hZ hS hFc)) rfl rfl hl.1 rfl (lv_room (Nat.le_of_ble_eq_true rfl)) dX5_bestLaid_17 ⟨Nat.le_of_ble_eq_true rfl, Nat.le_of_ble_eq_true rfl⟩) (fun r20 u19 H locs hw hP hD hS => ?_)
    replace hP : va_P (dC, dI) vwCl ((W_P adK adV cI cB cS q qb n k f t u18 b sg) ++ va_pl sL (sgF sf)) H := hP
    replace hD : va_D A ((W_P adK adV cI cB cS q qb n k f t u18 b sg) ++ va_pl sL (sgF sf)) := hD
    refine lv_sipush (v := 10000) hx hb dX5_bestLaid_20 (by decide) ?_
    refine lv_imul hx hb dX5_bestLaid_23 ?_
    refine lv_sipush (v := 10000) hx hb dX5_bestLaid_24 (by decide) ?_
    refine lv_iadd hx hb dX5_bestLaid_27 ?_
    refine lv_iconst (v := 1) hx hb dX5_bestLaid_28 (by decide) ?_
    refine lv_isub hx hb dX5_bestLaid_29 ?_
    refine lv_aload_n hx hb dX5_bestLaid_30 rfl (lv_at hl 0 rfl) ?_
    refine va_get (D := (dC, dI)) (ci := 7) (v := .ref (q 14)) (C := RX5) (T := TX5) (N := 15) hx hb hts hiX5 hown hK hP 0 rfl rfl 8 (by decide) hf41 (fun _ h9 => h9) rfl dX5_bestLaid_31 ?_
    refine lv_aload_n hx hb dX5_bestLaid_34 rfl (lv_at hl 0 rfl) ?_
    refine va_get (D := (dC, dI)) (ci := 7) (v := .int (nI n)) (C := RX5) (T := TX5) (N := 15) hx hb hts hiX5 hown hK hP 0 rfl rfl 0 (by decide) hf15 (fun _ h9 => h9) rfl dX5_bestLaid_35 ?_
    refine g_ci (g_J.poolQ (W2 := fun u21 : Unit => (W_P adK adV cI cB cS q qb n k f t u18 b sg)) (pl := va_pl sL (sgF sf)) [((q 0), .inr (7, [.int (nI n), .int (nI k), .ref (q 1), .ref (q 2), .ref (q 3), .ref (q 8), .int (f 0), .ref (q 13), .ref (q 14), .ref (q 15), .ref (q 18), .ref (q 21), .int (f 1), .ref (q 17), .int (f 2)])), ((q 1), .inl (cB, (5), .inr (.inr (.inr (.inr (fun i => (kAll i).map qb)))))), ((q 2), .inl (cI, k, .inl (u18 0))), ((q 3), .inr (10, [.ref (q 4), .ref (q 5), .ref (q 6), .ref (q 7), .int (f 3), .int (f 4)])), ((q 4), .inl (cI, (k - n), .inl (b 0))), ((q 5), .inl (cI, n, .inl (u18 1))), ((q 6), .inl (cI, k, .inl (u18 2))), ((q 7), .inl (cS, (6), .inr (.inr (.inr (.inr (sg 0)))))), ((q 8), .inr (10, [.ref (q 9), .ref (q 10), .ref (q 11), .ref (q 12), .int (f 5), .int (f 6)])), ((q 9), .inl (cI, (k - n), .inl (b 1))), ((q 10), .inl (cI, n, .inl (u18 3))), ((q 11), .inl (cI, k, .inl (u18 4))), ((q 12), .inl (cS, (6), .inr (.inr (.inr (.inr (sg 1)))))), ((q 13), .inl (cI, k, .inl (u18 5))), ((q 15), .inr (8, [.int (nI n), .ref (q 1), .ref (q 4), .ref (q 16), .ref t, .int (f 7)])), ((q 16), .inl (cI, k, .inl (u18 8))), ((q 17), .inl (cI, (10 * n), .inl (u18 7))), ((q 18), .inr (14, [.ref (q 19), .ref (q 20)])), ((q 19), .inl (cI, (k + 1), .inl (b 2))), ((q 20), .inl (cI, (toL n), .inl (b 3))), ((q 21), .inl (cI, k, .inl (b 4))), ((qb 0), .inr (2, [])), ((qb 1), .inr (3, [])), ((qb 2), .inr (5, [])), ((qb 3), .inr (11, [])), ((qb 4), .inr (4, []))] [14] [0, 1, 2, 3, 4, 5, 6, 7, 8, 9, 10, 11, 12, 13, 15, 16, 17, 18, 19, 20, 21, 22, 23, 24, 25, 26] [0, 1, 2, 3, 4, 5, 6, 7, 8, 9, 10, 11, 12, 13, 26, 14, 15, 16, 17, 18, 19, 20, 21, 22, 23, 24, 25] rfl (by decide) rfl (by decide) (by decide) (fun _ => rfl) (by decide)) [0] hK hP hD hS hA rfl (fun hPc hDc hKc hFc => va_runSN (As := [.ref (q 14), .int (nI n)]) (rest := [.int (((r20 * (10000 : Int32)) + (10000 : Int32)) - (1 : Int32))]) ⟨hx, hb, hml, hown, hts⟩ (t_X10_asNumber l dC dI cI (q 14) k H.size (u18 6)  (nI n) _ hw) ⟨va_cnB 2 hts gX5_bestLaid_X10_asNumber_n145 rfl rfl rfl nm145 iniRX10 (by decide +kernel) ⟨Nat.le_of_ble_eq_true rfl, Nat.le_of_ble_eq_true rfl⟩, st145, trivial⟩ (g_pS g_Tb hPc hDc hKc (fun _ _ _ => trivial)) rfl rfl hl.1 rfl (lv_room (Nat.le_of_ble_eq_true rfl)) dX5_bestLaid_38 ⟨Nat.le_of_ble_eq_true rfl, Nat.le_of_ble_eq_true rfl⟩) (fun r22 u21 H locs hw hP hD hS => ?_)
    replace hP : va_P (dC, dI) vwCl ((W_P adK adV cI cB cS q qb n k f t u18 b sg) ++ va_pl sL (sgF sf)) H := hP
    replace hD : va_D A ((W_P adK adV cI cB cS q qb n k f t u18 b sg) ++ va_pl sL (sgF sf)) := hD
    refine lv_isub hx hb dX5_bestLaid_41 ?_
    exact hret dX5_bestLaid_42 hK hP hD hS hw

def w_X5_bestLaid_3 (n : Nat) (k : Nat) (q : Nat → Nat) (f : Nat → Int32) (t : Nat) (a : Nat → Nat → Int32) (b : Nat → Nat → Int32) (sg : Nat → Nat → Option Nat) (sL : List Nat) (sf : Nat → Nat → Int32)  (p1 : Int32) (p2 : Int32) (Q : Int32 → ((Nat → Nat → Int32)) → Prop) : Prop := (((p1 < (nI n)) → (∀ X5 : Int32 → Int32 → (Nat → Nat → Int32) → Prop, (∀ (x2 : Int32) (x3 : Int32) (av4 : (Nat → Nat → Int32)), (((((nI n) ≤ x3) → Q x2 av4) ∧ (¬ ((nI n) ≤ x3) → ∀ J9 : Int32 → (Nat → Nat → Int32) → Prop, (∀ (x7 : Int32) (av8 : (Nat → Nat → Int32)), (∀ x10 : Int32, x10 = x3 + (1 : Int32) → X5 x7 x10 av8) → J9 x7 av8) → (((¬ ((p2 >>> (x3 &&& 31)) &&& (1 : Int32)) = 0) → J9 x2 av4) ∧ (((p2 >>> (x3 &&& 31)) &&& (1 : Int32)) = 0 → (vp_in x3 n) ∧ ∀ x14 : Int32, x14 = ((av4 1) x3.toNatClampNeg) → (vp_in p1 k) ∧ w_X5_bestLaid_2 n k q f t (va_up av4 6 (upd (av4 6) p1.toNatClampNeg x14)) b sg sL sf (p1 + (1 : Int32)) (p2 ||| ((1 : Int32) <<< (x3 &&& 31))) (fun (r16 : Int32) (u15 : ((Nat → Nat → Int32))) => ∀ x17 : Int32, x17 = (if x2 < r16 then r16 else x2) → J9 x17 u15)))))) → X5 x2 x3 av4) → X5 (0 : Int32) (0 : Int32) a)) ∧ (¬ (p1 < (nI n)) → w_X5_raise_g n k q f t a b sg sL sf  (fun (u18 : ((Nat → Nat → Int32))) => w_X5_guessedTop n k q f t u18 b sg sL sf  (fun (r20 : Int32) (u19 : Unit) => w_X10_asNumber k (u18 6)  (nI n) (fun (r22 : Int32) (u21 : Unit) => Q ((((r20 * (10000 : Int32)) + (10000 : Int32)) - (1 : Int32)) - r22) u18)))))
abbrev rmX5_bestLaid_3 : Room := { frames := 6, cells := 0, slots := 0, locals := 157 }
set_option maxHeartbeats 4000000 in
set_option maxRecDepth 100000 in
theorem t_X5_bestLaid_3 (l : Launch) (dC : Nat → ClassId) (dI : Nat → Nat → Nat) (adK : Nat → Nat) (adV : Nat → Nat) (cI : ClassId) (cB : ClassId) (cS : ClassId) (q : Nat → Nat) (qb : Nat → Nat) (n : Nat) (k : Nat) (sz : Nat) (f : Nat → Int32) (t : Nat) (a : Nat → Nat → Int32) (b : Nat → Nat → Int32) (sg : Nat → Nat → Option Nat) (sL : List Nat) (sf : Nat → Nat → Int32)   (p1 : Int32) (p2 : Int32) (Q0 : Int32 → ((Nat → Nat → Int32)) → Prop) (hw : w_X5_bestLaid_3 n k q f t a b sg sL sf  p1 p2 Q0) : Met l yX5_bestLaid wsX5_bestLaid rmX5_bestLaid_3 (g_pre (cz adK adV) (dC, dI) vwCl [(cI, .int), (cB, .object RX0), (cS, .object RX7)] ((W_P adK adV cI cB cS q qb n k f t a b sg) ++ va_pl sL (sgF sf)) sz [.ref (q 0), .int p1, .int p2]) (g_qi (dC, dI) vwCl [(cI, .int), (cB, .object RX0), (cS, .object RX7)] (fun u : ((Nat → Nat → Int32)) => ((W_P adK adV cI cB cS q qb n k f t u b sg) ++ va_pl sL (sgF sf))) Q0 (va_A ((W_P adK adV cI cB cS q qb n k f t a b sg) ++ va_pl sL (sgF sf)) sz)) 0 0 (va_A ((W_P adK adV cI cB cS q qb n k f t a b sg) ++ va_pl sL (sgF sf)) sz) := by
  refine g_starti (by decide) rfl (Nat.le_of_ble_eq_true rfl) ?_
  intro p e s m args below meth c A Q ls hx hb hml hown hts hin hK hP hD hA hS hZ hret hl
  obtain ⟨H, eH⟩ : ∃ H : Heap, H = s.heap := ⟨_, rfl⟩
  obtain ⟨locs, eL⟩ : ∃ L : List Loc, L = [] := ⟨_, rfl⟩
  have hS : va_S A s.heap H locs := by rw [eH, eL]; exact hS
  rw [← eH] at hP
  suffices hg : W p l e rmX5_bestLaid_3 s m args below meth c H locs 0 0 Q (F0 m 0 ls []) by rw [eH, eL] at hg; exact hg
  clear eH eL
  replace hl : lv_has ls 5 [(0, .ref (q 0)), (1, .int p1), (2, .int p2)] := hl
  have hf15 := hts (.fieldLink RX5 15 "NumberPile$Pile" "wide" "I") (by decide +kernel)
  have hiX5 : ∀ w ∈ u_ws RX5 TX5 15, w ∈ wsX5_bestLaid := fun w h => List.mem_cons_of_mem _ (List.mem_append_left _ (List.mem_append_right _ h))
  have hf41 := hts (.fieldLink RX5 41 "NumberPile$Pile" "guess" "[I") (by decide +kernel)
  have hf31 := hts (.fieldLink RX5 31 "NumberPile$Pile" "now" "LNumberPile$State;") (by decide +kernel)
  have nf98 := va_Nw.use (A := args) rfl (hZ.1 _ (List.mem_of_getElem? (i := 25) (rfl : cz_nest[25]? = some (.fieldLinkNest RX5 98 "NumberPile$State" "figures" "[I" "NumberPile"))))
  have hiX8 : ∀ w ∈ u_ws RX8 TX8 6, w ∈ wsX5_bestLaid := fun w h => List.mem_cons_of_mem _ (List.mem_append_right _ h)
  have ml149 := hts (.methodLink RX5 149 Lib.Math.max.name) (by decide +kernel)
  have msmax := hts (.static Lib.Math.max.name) (by decide +kernel)
  have miMath := hts (.initialized "java/lang/Math") (by decide +kernel)
  have mcmax := hts (.code Lib.Math.max.name Lib.Math.max.code 2 (some .int)) (by decide +kernel)
  have nm145 := hZ.1 _ (List.mem_of_getElem? (i := 29) (rfl : cz_nest[29]? = some (.methodLinkNest RX5 145 yX10_asNumber "NumberPile")))
  have iniRX10 := hts (.initialized RX10) (by decide +kernel)
  have st145 := hts (.static yX10_asNumber) (by decide +kernel)
  unfold w_X5_bestLaid_3 at hw
  refine lv_iload_n hx hb dX5_bestLaid_0 rfl (lv_at hl 1 rfl) ?_
  refine lv_aload_n hx hb dX5_bestLaid_1 rfl (lv_at hl 0 rfl) ?_
  refine va_get (D := (dC, dI)) (ci := 7) (v := .int (nI n)) (C := RX5) (T := TX5) (N := 15) hx hb hts hiX5 hown hK hP 0 rfl rfl 0 (by decide) hf15 (fun _ h9 => h9) rfl dX5_bestLaid_2 ?_
  refine lv_icmp_lt (tgt := 43) hx hb dX5_bestLaid_5 (by decide) (fun hc1 => ?_) (fun hc1 => ?_)
  · replace hw := hw.1 hc1
    refine lv_iconst (v := 0) hx hb dX5_bestLaid_43 (by decide) ?_
    refine lv_istore_n (lv' := [(3, .int (0 : Int32)), (0, .ref (q 0)), (1, .int p1), (2, .int p2)]) hx hb dX5_bestLaid_44 rfl hl (by decide) rfl (fun ls hl => ?_)
    refine lv_iconst (v := 0) hx hb dX5_bestLaid_45 (by decide) ?_
    refine lv_istore (lv' := [(4, .int (0 : Int32)), (3, .int (0 : Int32)), (0, .ref (q 0)), (1, .int p1), (2, .int p2)]) hx hb dX5_bestLaid_46 hl (by decide) rfl (fun ls hl => ?_)
    refine hw (fun (x2 : Int32) (x3 : Int32) (av4 : (Nat → Nat → Int32)) => ∀ (H : Heap) (locs : List Loc) (ls : Array Slot), va_P (dC, dI) vwCl ((W_P adK adV cI cB cS q qb n k f t av4 b sg) ++ va_pl sL (sgF sf)) H → va_D A ((W_P adK adV cI cB cS q qb n k f t av4 b sg) ++ va_pl sL (sgF sf)) → va_S A s.heap H locs → lv_has ls 5 [(0, .ref (q 0)), (1, .int p1), (2, .int p2), (3, .int x2), (4, .int x3)] → W p l e rmX5_bestLaid_3 s m args below meth c H locs 0 0 Q (F0 m 48 ls [])) ?_ H locs ls hP hD hS (lv_sub hl [2, 3, 4, 1, 0] rfl)
    · intro x2 x3 av4 hw H locs ls hP hD hS hl
      refine lv_iload hx hb dX5_bestLaid_48 (lv_at hl 4 rfl) ?_
      refine lv_aload_n hx hb dX5_bestLaid_50 rfl (lv_at hl 0 rfl) ?_
      refine va_get (D := (dC, dI)) (ci := 7) (v := .int (nI n)) (C := RX5) (T := TX5) (N := 15) hx hb hts hiX5 hown hK hP 0 rfl rfl 0 (by decide) hf15 (fun _ h9 => h9) rfl dX5_bestLaid_51 ?_
      refine lv_icmp_ge (tgt := 106) hx hb dX5_bestLaid_54 (by decide) (fun hc6 => ?_) (fun hc6 => ?_)
      · replace hw := hw.1 hc6
        refine lv_iload_n hx hb dX5_bestLaid_106 rfl (lv_at hl 3 rfl) ?_
        exact hret dX5_bestLaid_107 hK hP hD hS hw
      · replace hw := hw.2 hc6
        refine lv_iload_n hx hb dX5_bestLaid_57 rfl (lv_at hl 2 rfl) ?_
        refine lv_iload hx hb dX5_bestLaid_58 (lv_at hl 4 rfl) ?_
        refine lv_ishr hx hb dX5_bestLaid_60 ?_
        refine lv_iconst (v := 1) hx hb dX5_bestLaid_61 (by decide) ?_
        refine lv_iand hx hb dX5_bestLaid_62 ?_
        replace hw := hw (fun (x7 : Int32) (av8 : (Nat → Nat → Int32)) => ∀ (H : Heap) (locs : List Loc) (ls : Array Slot), va_P (dC, dI) vwCl ((W_P adK adV cI cB cS q qb n k f t av8 b sg) ++ va_pl sL (sgF sf)) H → va_D A ((W_P adK adV cI cB cS q qb n k f t av8 b sg) ++ va_pl sL (sgF sf)) → va_S A s.heap H locs → lv_has ls 5 [(0, .ref (q 0)), (1, .int p1), (2, .int p2), (3, .int x7), (4, .int x3)] → W p l e rmX5_bestLaid_3 s m args below meth c H locs 0 0 Q (F0 m 100 ls [])) (by
          intro x7 av8 hw H locs ls hP hD hS hl
          obtain ⟨x10, ex10⟩ : ∃ y : Int32, y = x3 + (1 : Int32) := ⟨_, rfl⟩
          replace hw := hw x10 ex10
          refine lv_iinc (v := x10) (lv' := [(4, .int x10), (0, .ref (q 0)), (1, .int p1), (2, .int p2), (3, .int x7)]) hx hb dX5_bestLaid_100 hl (k := 4) rfl (by rw [ex10]; rfl) (by decide) rfl (fun ls hl => ?_)
          refine lv_goto (tgt := 48) hx hb dX5_bestLaid_103 (by decide) ?_
          exact hw H locs ls hP hD hS (lv_sub hl [1, 2, 3, 4, 0] rfl))
        refine lv_if_ne (tgt := 100) hx hb dX5_bestLaid_63 (by decide) (fun hc11 => ?_) (fun hc11 => ?_)
        · replace hw := hw.1 hc11
          exact hw H locs ls hP hD hS (lv_sub hl [0, 1, 2, 3, 4] rfl)
        · replace hw := hw.2 hc11
          refine lv_aload_n hx hb dX5_bestLaid_66 rfl (lv_at hl 0 rfl) ?_
          refine va_get (D := (dC, dI)) (ci := 7) (v := .ref (q 14)) (C := RX5) (T := TX5) (N := 15) hx hb hts hiX5 hown hK hP 0 rfl rfl 8 (by decide) hf41 (fun _ h9 => h9) rfl dX5_bestLaid_67 ?_
          refine lv_iload_n hx hb dX5_bestLaid_70 rfl (lv_at hl 1 rfl) ?_
          refine lv_aload_n hx hb dX5_bestLaid_71 rfl (lv_at hl 0 rfl) ?_
          refine va_get (D := (dC, dI)) (ci := 7) (v := .ref (q 3)) (C := RX5) (T := TX5) (N := 15) hx hb hts hiX5 hown hK hP 0 rfl rfl 4 (by decide) hf31 (fun _ h9 => h9) rfl dX5_bestLaid_72 ?_
          refine va_getN (D := (dC, dI)) (ci := 10) (v := .ref (q 5)) (C := RX8) (T := TX8) (N := 6) hx hb hts hiX8 hown hK hP 3 rfl rfl 1 (by decide) nf98 (fun _ h9 => h9) rfl dX5_bestLaid_75 ?_
          refine lv_iload hx hb dX5_bestLaid_78 (lv_at hl 4 rfl) ?_
          obtain ⟨hb12, hw⟩ := hw
          refine va_iald hx hb hK hP 5 0 rfl rfl hb12 dX5_bestLaid_80 ?_
          refine lv_topi (fun x14 ex14 => ?_)
          replace hw := hw x14 ex14
          obtain ⟨hb13, hw⟩ := hw
          refine va_iast hx hb hK hP hD hS 14 0 rfl rfl hb13 dX5_bestLaid_81 (fun H locs hP hD hS => ?_)
          replace hP : va_P (dC, dI) vwCl ((W_P adK adV cI cB cS q qb n k f t (va_up av4 6 (upd (av4 6) p1.toNatClampNeg x14)) b sg) ++ va_pl sL (sgF sf)) H := hP
          replace hD : va_D A ((W_P adK adV cI cB cS q qb n k f t (va_up av4 6 (upd (av4 6) p1.toNatClampNeg x14)) b sg) ++ va_pl sL (sgF sf)) := hD
          refine lv_iload_n hx hb dX5_bestLaid_82 rfl (lv_at hl 3 rfl) ?_
          refine lv_aload_n hx hb dX5_bestLaid_83 rfl (lv_at hl 0 rfl) ?_
          refine lv_iload_n hx hb dX5_bestLaid_84 rfl (lv_at hl 1 rfl) ?_
          refine lv_iconst (v := 1) hx hb dX5_bestLaid_85 (by decide) ?_
          refine lv_iadd hx hb dX5_bestLaid_86 ?_
          refine lv_iload_n hx hb dX5_bestLaid_87 rfl (lv_at hl 2 rfl) ?_
          refine lv_iconst (v := 1) hx hb dX5_bestLaid_88 (by decide) ?_
          refine lv_iload hx hb dX5_bestLaid_89 (lv_at hl 4 rfl) ?_
          refine lv_ishl hx hb dX5_bestLaid_91 ?_
          refine lv_ior hx hb dX5_bestLaid_92 ?_
          refine g_ci (g_J.poolP (W2 := fun u15 : ((Nat → Nat → Int32)) => (W_P adK adV cI cB cS q qb n k f t u15 b sg)) (pl := va_pl sL (sgF sf)) (PL := fun u15 : ((Nat → Nat → Int32)) => va_pl sL (sgF sf)) (RX := fun u15 : ((Nat → Nat → Int32)) => (W_P adK adV cI cB cS q qb n k f t u15 b sg)) [] [0, 1, 2, 3, 4, 5, 6, 7, 8, 9, 10, 11, 12, 13, 14, 15, 16, 17, 18, 19, 20, 21, 22, 23, 24, 25, 26] [] [0, 1, 2, 3, 4, 5, 6, 7, 8, 9, 10, 11, 12, 13, 14, 15, 16, 17, 18, 19, 20, 21, 22, 23, 24, 25, 26] rfl (by decide) rfl (by decide) (by decide) (fun _ => rfl) (by decide)) [0, 1, 2] hK hP hD hS hA rfl (fun hPc hDc hKc hFc => va_runS (As := [.ref (q 0), .int (p1 + (1 : Int32)), .int (p2 ||| ((1 : Int32) <<< (x3 &&& 31)))]) (rest := [.int x2]) ⟨hx, hb, hml, hown, hts⟩ (t_X5_bestLaid_2 l dC dI adK adV cI cB cS q qb n k H.size f t (va_up av4 6 (upd (av4 6) p1.toNatClampNeg x14)) b sg sL sf (p1 + (1 : Int32)) (p2 ||| ((1 : Int32) <<< (x3 &&& 31))) _ hw) (va_cwS 3 hts gX5_bestLaid_X5_bestLaid rfl rfl rfl (by decide +kernel) ⟨Nat.le_of_ble_eq_true rfl, Nat.le_of_ble_eq_true rfl⟩) (g_pS czb hPc hDc hKc (czc hZ hS hFc)) rfl rfl hl.1 rfl (lv_room (Nat.le_of_ble_eq_true rfl)) dX5_bestLaid_93 ⟨Nat.le_of_ble_eq_true rfl, Nat.le_of_ble_eq_true rfl⟩) (fun r16 u15 H locs hw hP hD hS => ?_)
          replace hP : va_P (dC, dI) vwCl ((W_P adK adV cI cB cS q qb n k f t u15 b sg) ++ va_pl sL (sgF sf)) H := hP
          replace hD : va_D A ((W_P adK adV cI cB cS q qb n k f t u15 b sg) ++ va_pl sL (sgF sf)) := hD
          refine va_mmax hx hb (hml.trans hl.1.symm) hown ml149 msmax miMath mcmax (Nat.le_of_ble_eq_true rfl) (Nat.le_of_ble_eq_true rfl) (Nat.le_of_ble_eq_true rfl) (Nat.le_of_ble_eq_true rfl) dX5_bestLaid_96 ?_
          refine lv_topi (fun x17 ex17 => ?_)
          replace hw := hw x17 ex17
          refine lv_istore_n (lv' := [(3, .int x17), (0, .ref (q 0)), (1, .int p1), (2, .int p2), (4, .int x3)]) hx hb dX5_bestLaid_99 rfl hl (by decide) rfl (fun ls hl => ?_)
          exact hw H locs ls hP hD hS (lv_sub hl [1, 2, 3, 0, 4] rfl)
  · replace hw := hw.2 hc1
    refine lv_aload_n hx hb dX5_bestLaid_8 rfl (lv_at hl 0 rfl) ?_
    refine lv_aload_n hx hb dX5_bestLaid_9 rfl (lv_at hl 0 rfl) ?_
    refine va_get (D := (dC, dI)) (ci := 7) (v := .ref (q 14)) (C := RX5) (T := TX5) (N := 15) hx hb hts hiX5 hown hK hP 0 rfl rfl 8 (by decide) hf41 (fun _ h9 => h9) rfl dX5_bestLaid_10 ?_
    refine g_cv (g_J.poolP (W2 := fun u18 : ((Nat → Nat → Int32)) => (W_P adK adV cI cB cS q qb n k f t u18 b sg)) (pl := va_pl sL (sgF sf)) (PL := fun u18 : ((Nat → Nat → Int32)) => va_pl sL (sgF sf)) (RX := fun u18 : ((Nat → Nat → Int32)) => (W_P adK adV cI cB cS q qb n k f t u18 b sg)) [] [0, 1, 2, 3, 4, 5, 6, 7, 8, 9, 10, 11, 12, 13, 14, 15, 16, 17, 18, 19, 20, 21, 22, 23, 24, 25, 26] [] [0, 1, 2, 3, 4, 5, 6, 7, 8, 9, 10, 11, 12, 13, 14, 15, 16, 17, 18, 19, 20, 21, 22, 23, 24, 25, 26] rfl (by decide) rfl (by decide) (by decide) (fun _ => rfl) (by decide)) [0, 1, 2] hK hP hD hS hA rfl (fun hPc hDc hKc hFc => va_runV (As := [.ref (q 14)]) (rest := []) ⟨hx, hb, hml, hown, hts⟩ (t_X5_raise_g l dC dI adK adV cI cB cS q qb n k H.size f t a b sg sL sf  _ hw) (cwV 1 hts gX5_bestLaid_X5_raise rfl rfl rfl (by decide +kernel) ⟨Nat.le_of_ble_eq_true rfl, Nat.le_of_ble_eq_true rfl⟩) (g_pV czb (q0 := 0) rfl rfl hPc hDc hKc (czc hZ hS hFc)) rfl rfl hl.1 rfl (lv_room (Nat.le_of_ble_eq_true rfl)) dX5_bestLaid_13 ⟨Nat.le_of_ble_eq_true rfl, Nat.le_of_ble_eq_true rfl⟩) (fun u18 H locs hw hP hD hS => ?_)
    replace hP : va_P (dC, dI) vwCl ((W_P adK adV cI cB cS q qb n k f t u18 b sg) ++ va_pl sL (sgF sf)) H := hP
    replace hD : va_D A ((W_P adK adV cI cB cS q qb n k f t u18 b sg) ++ va_pl sL (sgF sf)) := hD
    refine lv_aload_n hx hb dX5_bestLaid_16 rfl (lv_at hl 0 rfl) ?_
    refine g_ci (g_J.poolP (W2 := fun u19 : Unit => (W_P adK adV cI cB cS q qb n k f t u18 b sg)) (pl := va_pl sL (sgF sf)) (PL := fun u19 : Unit => va_pl sL (sgF sf)) (RX := fun u19 : Unit => (W_P adK adV cI cB cS q qb n k f t u18 b sg)) [] [0, 1, 2, 3, 4, 5, 6, 7, 8, 9, 10, 11, 12, 13, 14, 15, 16, 17, 18, 19, 20, 21, 22, 23, 24, 25, 26] [] [0, 1, 2, 3, 4, 5, 6, 7, 8, 9, 10, 11, 12, 13, 14, 15, 16, 17, 18, 19, 20, 21, 22, 23, 24, 25, 26] rfl (by decide) rfl (by decide) (by decide) (fun _ => rfl) (by decide)) [0, 1, 2] hK hP hD hS hA rfl (fun hPc hDc hKc hFc => va_runV (As := []) (rest := []) ⟨hx, hb, hml, hown, hts⟩ (t_X5_guessedTop l dC dI adK adV cI cB cS q qb n k H.size f t u18 b sg sL sf  _ hw) (cwV 0 hts gX5_bestLaid_X5_guessedTop rfl rfl rfl (by decide +kernel) ⟨Nat.le_of_ble_eq_true rfl, Nat.le_of_ble_eq_true rfl⟩) (g_pV czb (q0 := 0) rfl rfl hPc hDc hKc (czc hZ hS hFc)) rfl rfl hl.1 rfl (lv_room (Nat.le_of_ble_eq_true rfl)) dX5_bestLaid_17 ⟨Nat.le_of_ble_eq_true rfl, Nat.le_of_ble_eq_true rfl⟩) (fun r20 u19 H locs hw hP hD hS => ?_)
    replace hP : va_P (dC, dI) vwCl ((W_P adK adV cI cB cS q qb n k f t u18 b sg) ++ va_pl sL (sgF sf)) H := hP
    replace hD : va_D A ((W_P adK adV cI cB cS q qb n k f t u18 b sg) ++ va_pl sL (sgF sf)) := hD
    refine lv_sipush (v := 10000) hx hb dX5_bestLaid_20 (by decide) ?_
    refine lv_imul hx hb dX5_bestLaid_23 ?_
    refine lv_sipush (v := 10000) hx hb dX5_bestLaid_24 (by decide) ?_
    refine lv_iadd hx hb dX5_bestLaid_27 ?_
    refine lv_iconst (v := 1) hx hb dX5_bestLaid_28 (by decide) ?_
    refine lv_isub hx hb dX5_bestLaid_29 ?_
    refine lv_aload_n hx hb dX5_bestLaid_30 rfl (lv_at hl 0 rfl) ?_
    refine va_get (D := (dC, dI)) (ci := 7) (v := .ref (q 14)) (C := RX5) (T := TX5) (N := 15) hx hb hts hiX5 hown hK hP 0 rfl rfl 8 (by decide) hf41 (fun _ h9 => h9) rfl dX5_bestLaid_31 ?_
    refine lv_aload_n hx hb dX5_bestLaid_34 rfl (lv_at hl 0 rfl) ?_
    refine va_get (D := (dC, dI)) (ci := 7) (v := .int (nI n)) (C := RX5) (T := TX5) (N := 15) hx hb hts hiX5 hown hK hP 0 rfl rfl 0 (by decide) hf15 (fun _ h9 => h9) rfl dX5_bestLaid_35 ?_
    refine g_ci (g_J.poolQ (W2 := fun u21 : Unit => (W_P adK adV cI cB cS q qb n k f t u18 b sg)) (pl := va_pl sL (sgF sf)) [((q 0), .inr (7, [.int (nI n), .int (nI k), .ref (q 1), .ref (q 2), .ref (q 3), .ref (q 8), .int (f 0), .ref (q 13), .ref (q 14), .ref (q 15), .ref (q 18), .ref (q 21), .int (f 1), .ref (q 17), .int (f 2)])), ((q 1), .inl (cB, (5), .inr (.inr (.inr (.inr (fun i => (kAll i).map qb)))))), ((q 2), .inl (cI, k, .inl (u18 0))), ((q 3), .inr (10, [.ref (q 4), .ref (q 5), .ref (q 6), .ref (q 7), .int (f 3), .int (f 4)])), ((q 4), .inl (cI, (k - n), .inl (b 0))), ((q 5), .inl (cI, n, .inl (u18 1))), ((q 6), .inl (cI, k, .inl (u18 2))), ((q 7), .inl (cS, (6), .inr (.inr (.inr (.inr (sg 0)))))), ((q 8), .inr (10, [.ref (q 9), .ref (q 10), .ref (q 11), .ref (q 12), .int (f 5), .int (f 6)])), ((q 9), .inl (cI, (k - n), .inl (b 1))), ((q 10), .inl (cI, n, .inl (u18 3))), ((q 11), .inl (cI, k, .inl (u18 4))), ((q 12), .inl (cS, (6), .inr (.inr (.inr (.inr (sg 1)))))), ((q 13), .inl (cI, k, .inl (u18 5))), ((q 15), .inr (8, [.int (nI n), .ref (q 1), .ref (q 4), .ref (q 16), .ref t, .int (f 7)])), ((q 16), .inl (cI, k, .inl (u18 8))), ((q 17), .inl (cI, (10 * n), .inl (u18 7))), ((q 18), .inr (14, [.ref (q 19), .ref (q 20)])), ((q 19), .inl (cI, (k + 1), .inl (b 2))), ((q 20), .inl (cI, (toL n), .inl (b 3))), ((q 21), .inl (cI, k, .inl (b 4))), ((qb 0), .inr (2, [])), ((qb 1), .inr (3, [])), ((qb 2), .inr (5, [])), ((qb 3), .inr (11, [])), ((qb 4), .inr (4, []))] [14] [0, 1, 2, 3, 4, 5, 6, 7, 8, 9, 10, 11, 12, 13, 15, 16, 17, 18, 19, 20, 21, 22, 23, 24, 25, 26] [0, 1, 2, 3, 4, 5, 6, 7, 8, 9, 10, 11, 12, 13, 26, 14, 15, 16, 17, 18, 19, 20, 21, 22, 23, 24, 25] rfl (by decide) rfl (by decide) (by decide) (fun _ => rfl) (by decide)) [0] hK hP hD hS hA rfl (fun hPc hDc hKc hFc => va_runSN (As := [.ref (q 14), .int (nI n)]) (rest := [.int (((r20 * (10000 : Int32)) + (10000 : Int32)) - (1 : Int32))]) ⟨hx, hb, hml, hown, hts⟩ (t_X10_asNumber l dC dI cI (q 14) k H.size (u18 6)  (nI n) _ hw) ⟨va_cnB 2 hts gX5_bestLaid_X10_asNumber_n145 rfl rfl rfl nm145 iniRX10 (by decide +kernel) ⟨Nat.le_of_ble_eq_true rfl, Nat.le_of_ble_eq_true rfl⟩, st145, trivial⟩ (g_pS g_Tb hPc hDc hKc (fun _ _ _ => trivial)) rfl rfl hl.1 rfl (lv_room (Nat.le_of_ble_eq_true rfl)) dX5_bestLaid_38 ⟨Nat.le_of_ble_eq_true rfl, Nat.le_of_ble_eq_true rfl⟩) (fun r22 u21 H locs hw hP hD hS => ?_)
    replace hP : va_P (dC, dI) vwCl ((W_P adK adV cI cB cS q qb n k f t u18 b sg) ++ va_pl sL (sgF sf)) H := hP
    replace hD : va_D A ((W_P adK adV cI cB cS q qb n k f t u18 b sg) ++ va_pl sL (sgF sf)) := hD
    refine lv_isub hx hb dX5_bestLaid_41 ?_
    exact hret dX5_bestLaid_42 hK hP hD hS hw
