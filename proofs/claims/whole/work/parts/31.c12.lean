def w_X10_blank (n : Nat) (k : Nat) (q : Nat → Nat) (ni : Nat → Int32) (bv : Nat) (bm : Nat) (ml : Int32) (cn : Int32) (bt : Nat → Int32) (f : Nat → Int32) (t : Nat) (a : Nat → Nat → Int32) (b : Nat → Nat → Int32) (sg : Nat → Nat → Option Nat) (sL : List Nat) (sf : Nat → Nat → Int32)   (Q : Int32 → ((Nat) × (Nat) × (Int32) × (Int32) × (Nat → Int32)) → Prop) : Prop := w_X4_length bv bm ml cn bt   (fun (r2 : Int32) (u1 : Unit) => w_X4_clear bv bm ml cn bt   (fun (u3 : ((Nat) × (Nat) × (Int32) × (Int32) × (Nat → Int32))) => Q r2 (u3.1, u3.2.1, u3.2.2.1, u3.2.2.2.1, u3.2.2.2.2)))
abbrev rmX10_blank : Room := { frames := 7, cells := 1, slots := 40, locals := 172 }
set_option maxHeartbeats 4000000 in
set_option maxRecDepth 100000 in
theorem t_X10_blank (l : Launch) (dC : Nat → ClassId) (dI : Nat → Nat → Nat) (adK : Nat → Nat) (adV : Nat → Nat) (cI : ClassId) (cB : ClassId) (cS : ClassId) (cY : ClassId) (np : Nat) (pg : Nat) (g : Nat) (q : Nat → Nat) (qb : Nat → Nat) (n : Nat) (k : Nat) (sz : Nat) (ni : Nat → Int32) (bv : Nat) (bm : Nat) (ml : Int32) (cn : Int32) (bt : Nat → Int32) (f : Nat → Int32) (t : Nat) (a : Nat → Nat → Int32) (b : Nat → Nat → Int32) (sg : Nat → Nat → Option Nat) (sL : List Nat) (sf : Nat → Nat → Int32)    (Q0 : Int32 → ((Nat) × (Nat) × (Int32) × (Int32) × (Nat → Int32)) → Prop) (hw : w_X10_blank n k q ni bv bm ml cn bt f t a b sg sL sf   Q0) : Met l yX10_blank wsX10_blank rmX10_blank (g_pre (cz adK adV) (dC, dI) vwCl [(cI, .int), (cB, .object RX0), (cS, .object RX7), (cY, .byte)] ((W_N adK adV cI cB cS cY np pg g q qb n k ni bv bm ml cn bt f t a b sg) ++ va_pl sL (sgF sf)) sz [.ref np]) (g_qi (dC, dI) vwCl [(cI, .int), (cB, .object RX0), (cS, .object RX7), (cY, .byte)] (fun u : ((Nat) × (Nat) × (Int32) × (Int32) × (Nat → Int32)) => ((W_N adK adV cI cB cS cY np pg g q qb n k ni (u.1) (u.2.1) (u.2.2.1) (u.2.2.2.1) (u.2.2.2.2) f t a b sg) ++ va_pl sL (sgF sf))) Q0 (va_A ((W_N adK adV cI cB cS cY np pg g q qb n k ni bv bm ml cn bt f t a b sg) ++ va_pl sL (sgF sf)) sz)) 1 40 (va_A ((W_N adK adV cI cB cS cY np pg g q qb n k ni bv bm ml cn bt f t a b sg) ++ va_pl sL (sgF sf)) sz) := by
  refine g_starti (by decide) rfl (Nat.le_of_ble_eq_true rfl) ?_
  intro p e s m args below meth c A Q ls hx hb hml hown hts hin hK hP hD hA hS hZ hret hl
  obtain ⟨H, eH⟩ : ∃ H : Heap, H = s.heap := ⟨_, rfl⟩
  obtain ⟨locs, eL⟩ : ∃ L : List Loc, L = [] := ⟨_, rfl⟩
  have hS : va_S A s.heap H locs := by rw [eH, eL]; exact hS
  rw [← eH] at hP
  suffices hg : W p l e rmX10_blank s m args below meth c H locs 0 0 Q (F0 m 0 ls []) by rw [eH, eL] at hg; exact hg
  clear eH eL
  replace hl : lv_has ls 2 [(0, .ref np)] := hl
  have hf31 := hts (.fieldLink RX10 31 "NumberPile" "page" "LNumberPile$Page;") (by decide +kernel)
  have hiX10 : ∀ w ∈ u_ws RX10 TX10 6, w ∈ wsX10_blank := fun w h => List.mem_cons_of_mem _ (List.mem_append_left _ (List.mem_append_left _ (List.mem_append_right _ h)))
  unfold w_X10_blank at hw
  refine lv_aload_n hx hb dX10_blank_0 rfl (lv_at hl 0 rfl) ?_
  refine va_get (D := (dC, dI)) (ci := 12) (v := .ref pg) (C := RX10) (T := TX10) (N := 6) hx hb hts hiX10 hown hK hP 0 rfl rfl 1 (by decide) hf31 (fun _ h9 => h9) rfl dX10_blank_1 ?_
  refine g_ci (g_J.poolQ (W2 := fun u1 : Unit => (W_N adK adV cI cB cS cY np pg g q qb n k ni bv bm ml cn bt f t a b sg)) (pl := va_pl sL (sgF sf)) [(np, .inr (12, [.ref (q 1), .ref pg, .ref (q 0), .int (ni 0), .int (ni 1), .int (ni 2)])), ((q 0), .inr (7, [.int (nI n), .int (nI k), .ref (q 1), .ref (q 2), .ref (q 3), .ref (q 8), .int (f 0), .ref (q 13), .ref (q 14), .ref (q 15), .ref (q 18), .ref (q 21), .int (f 1), .ref (q 17), .int (f 2)])), ((q 1), .inl (cB, (5), .inr (.inr (.inr (.inr (fun i => (kAll i).map qb)))))), ((q 2), .inl (cI, k, .inl (a 0))), ((q 3), .inr (10, [.ref (q 4), .ref (q 5), .ref (q 6), .ref (q 7), .int (f 3), .int (f 4)])), ((q 4), .inl (cI, (k - n), .inl (b 0))), ((q 5), .inl (cI, n, .inl (a 1))), ((q 6), .inl (cI, k, .inl (a 2))), ((q 7), .inl (cS, (6), .inr (.inr (.inr (.inr (sg 0)))))), ((q 8), .inr (10, [.ref (q 9), .ref (q 10), .ref (q 11), .ref (q 12), .int (f 5), .int (f 6)])), ((q 9), .inl (cI, (k - n), .inl (b 1))), ((q 10), .inl (cI, n, .inl (a 3))), ((q 11), .inl (cI, k, .inl (a 4))), ((q 12), .inl (cS, (6), .inr (.inr (.inr (.inr (sg 1)))))), ((q 13), .inl (cI, k, .inl (a 5))), ((q 14), .inl (cI, k, .inl (a 6))), ((q 15), .inr (8, [.int (nI n), .ref (q 1), .ref (q 4), .ref (q 16), .ref t, .int (f 7)])), ((q 16), .inl (cI, k, .inl (a 8))), ((q 17), .inl (cI, (10 * n), .inl (a 7))), ((q 18), .inr (14, [.ref (q 19), .ref (q 20)])), ((q 19), .inl (cI, (k + 1), .inl (b 2))), ((q 20), .inl (cI, (toL n), .inl (b 3))), ((q 21), .inl (cI, k, .inl (b 4))), ((qb 0), .inr (2, [])), ((qb 1), .inr (3, [])), ((qb 2), .inr (5, [])), ((qb 3), .inr (11, [])), ((qb 4), .inr (4, []))] [1, 2, 3] [0, 4, 5, 6, 7, 8, 9, 10, 11, 12, 13, 14, 15, 16, 17, 18, 19, 20, 21, 22, 23, 24, 25, 26, 27, 28, 29, 30] [0, 28, 29, 30, 1, 2, 3, 4, 5, 6, 7, 8, 9, 10, 11, 12, 13, 14, 15, 16, 17, 18, 19, 20, 21, 22, 23, 24, 25, 26, 27] rfl (by decide) rfl (by decide) (by decide) (fun _ => rfl) (by decide)) [3] hK hP hD hS hA rfl (fun hPc hDc hKc hFc => va_runV (As := []) (rest := []) ⟨hx, hb, hml, hown, hts⟩ (t_X4_length l dC dI adK adV cY pg g H.size bv bm ml cn bt   _ hw) (cwV 0 hts gX10_blank_X4_length rfl rfl rfl (by decide +kernel) ⟨Nat.le_of_ble_eq_true rfl, Nat.le_of_ble_eq_true rfl⟩) (g_pV czb (q0 := 0) rfl rfl hPc hDc hKc (czc hZ hS hFc)) rfl rfl hl.1 rfl (lv_room (Nat.le_of_ble_eq_true rfl)) dX10_blank_4 ⟨Nat.le_of_ble_eq_true rfl, Nat.le_of_ble_eq_true rfl⟩) (fun r2 u1 H locs hw hP hD hS => ?_)
  replace hP : va_P (dC, dI) vwCl ((W_N adK adV cI cB cS cY np pg g q qb n k ni bv bm ml cn bt f t a b sg) ++ va_pl sL (sgF sf)) H := hP
  replace hD : va_D A ((W_N adK adV cI cB cS cY np pg g q qb n k ni bv bm ml cn bt f t a b sg) ++ va_pl sL (sgF sf)) := hD
  refine lv_istore_n (lv' := [(1, .int r2), (0, .ref np)]) hx hb dX10_blank_7 rfl hl (by decide) rfl (fun ls hl => ?_)
  refine lv_aload_n hx hb dX10_blank_8 rfl (lv_at hl 1 rfl) ?_
  refine va_get (D := (dC, dI)) (ci := 12) (v := .ref pg) (C := RX10) (T := TX10) (N := 6) hx hb hts hiX10 hown hK hP 0 rfl rfl 1 (by decide) hf31 (fun _ h9 => h9) rfl dX10_blank_9 ?_
  refine g_cv (g_J.poolQ (W2 := fun u3 : ((Nat) × (Nat) × (Int32) × (Int32) × (Nat → Int32)) => (W_N adK adV cI cB cS cY np pg g q qb n k ni (u3.1) (u3.2.1) (u3.2.2.1) (u3.2.2.2.1) (u3.2.2.2.2) f t a b sg)) (pl := va_pl sL (sgF sf)) [(np, .inr (12, [.ref (q 1), .ref pg, .ref (q 0), .int (ni 0), .int (ni 1), .int (ni 2)])), ((q 0), .inr (7, [.int (nI n), .int (nI k), .ref (q 1), .ref (q 2), .ref (q 3), .ref (q 8), .int (f 0), .ref (q 13), .ref (q 14), .ref (q 15), .ref (q 18), .ref (q 21), .int (f 1), .ref (q 17), .int (f 2)])), ((q 1), .inl (cB, (5), .inr (.inr (.inr (.inr (fun i => (kAll i).map qb)))))), ((q 2), .inl (cI, k, .inl (a 0))), ((q 3), .inr (10, [.ref (q 4), .ref (q 5), .ref (q 6), .ref (q 7), .int (f 3), .int (f 4)])), ((q 4), .inl (cI, (k - n), .inl (b 0))), ((q 5), .inl (cI, n, .inl (a 1))), ((q 6), .inl (cI, k, .inl (a 2))), ((q 7), .inl (cS, (6), .inr (.inr (.inr (.inr (sg 0)))))), ((q 8), .inr (10, [.ref (q 9), .ref (q 10), .ref (q 11), .ref (q 12), .int (f 5), .int (f 6)])), ((q 9), .inl (cI, (k - n), .inl (b 1))), ((q 10), .inl (cI, n, .inl (a 3))), ((q 11), .inl (cI, k, .inl (a 4))), ((q 12), .inl (cS, (6), .inr (.inr (.inr (.inr (sg 1)))))), ((q 13), .inl (cI, k, .inl (a 5))), ((q 14), .inl (cI, k, .inl (a 6))), ((q 15), .inr (8, [.int (nI n), .ref (q 1), .ref (q 4), .ref (q 16), .ref t, .int (f 7)])), ((q 16), .inl (cI, k, .inl (a 8))), ((q 17), .inl (cI, (10 * n), .inl (a 7))), ((q 18), .inr (14, [.ref (q 19), .ref (q 20)])), ((q 19), .inl (cI, (k + 1), .inl (b 2))), ((q 20), .inl (cI, (toL n), .inl (b 3))), ((q 21), .inl (cI, k, .inl (b 4))), ((qb 0), .inr (2, [])), ((qb 1), .inr (3, [])), ((qb 2), .inr (5, [])), ((qb 3), .inr (11, [])), ((qb 4), .inr (4, []))] [1, 2, 3] [0, 4, 5, 6, 7, 8, 9, 10, 11, 12, 13, 14, 15, 16, 17, 18, 19, 20, 21, 22, 23, 24, 25, 26, 27, 28, 29, 30] [0, 28, 29, 30, 1, 2, 3, 4, 5, 6, 7, 8, 9, 10, 11, 12, 13, 14, 15, 16, 17, 18, 19, 20, 21, 22, 23, 24, 25, 26, 27] rfl (by decide) rfl (by decide) (by decide) (fun _ => rfl) (by decide)) [3] hK hP hD hS hA rfl (fun hPc hDc hKc hFc => va_runV (As := []) (rest := []) ⟨hx, hb, hml, hown, hts⟩ (t_X4_clear l dC dI adK adV cY pg g H.size bv bm ml cn bt   _ hw) (cwV 0 hts gX10_blank_X4_clear rfl rfl rfl (by decide +kernel) ⟨Nat.le_of_ble_eq_true rfl, Nat.le_of_ble_eq_true rfl⟩) (g_pV czb (q0 := 0) rfl rfl hPc hDc hKc (czc hZ hS hFc)) rfl rfl hl.1 rfl (lv_room (Nat.le_of_ble_eq_true rfl)) dX10_blank_12 ⟨Nat.le_of_ble_eq_true rfl, Nat.le_of_ble_eq_true rfl⟩) (fun u3 H locs hw hP hD hS => ?_)
  refine W.widen (k := 1) (n := 40) (Nat.le_of_ble_eq_true rfl) (Nat.le_of_ble_eq_true rfl) ?_
  replace hP : va_P (dC, dI) vwCl ((W_N adK adV cI cB cS cY np pg g q qb n k ni (u3.1) (u3.2.1) (u3.2.2.1) (u3.2.2.2.1) (u3.2.2.2.2) f t a b sg) ++ va_pl sL (sgF sf)) H := hP
  replace hD : va_D A ((W_N adK adV cI cB cS cY np pg g q qb n k ni (u3.1) (u3.2.1) (u3.2.2.1) (u3.2.2.2.1) (u3.2.2.2.2) f t a b sg) ++ va_pl sL (sgF sf)) := hD
  refine lv_iload_n hx hb dX10_blank_15 rfl (lv_at hl 0 rfl) ?_
  exact hret dX10_blank_16 hK hP hD hS hw

def w_X10_fault (n : Nat) (k : Nat) (q : Nat → Nat) (ni : Nat → Int32) (bv : Nat) (bm : Nat) (ml : Int32) (cn : Int32) (bt : Nat → Int32) (f : Nat → Int32) (t : Nat) (a : Nat → Nat → Int32) (b : Nat → Nat → Int32) (sg : Nat → Nat → Option Nat) (sL : List Nat) (sf : Nat → Nat → Int32)   (Q : Int32 → Unit → Prop) : Prop := w_X4_firstFault bv bm ml cn bt   (fun (r2 : Int32) (u1 : Unit) => Q r2 ())
abbrev rmX10_fault : Room := { frames := 7, cells := 0, slots := 0, locals := 151 }
set_option maxHeartbeats 4000000 in
set_option maxRecDepth 100000 in
theorem t_X10_fault (l : Launch) (dC : Nat → ClassId) (dI : Nat → Nat → Nat) (adK : Nat → Nat) (adV : Nat → Nat) (cI : ClassId) (cB : ClassId) (cS : ClassId) (cY : ClassId) (np : Nat) (pg : Nat) (g : Nat) (q : Nat → Nat) (qb : Nat → Nat) (n : Nat) (k : Nat) (sz : Nat) (ni : Nat → Int32) (bv : Nat) (bm : Nat) (ml : Int32) (cn : Int32) (bt : Nat → Int32) (f : Nat → Int32) (t : Nat) (a : Nat → Nat → Int32) (b : Nat → Nat → Int32) (sg : Nat → Nat → Option Nat) (sL : List Nat) (sf : Nat → Nat → Int32)    (Q0 : Int32 → Unit → Prop) (hw : w_X10_fault n k q ni bv bm ml cn bt f t a b sg sL sf   Q0) : Met l yX10_fault wsX10_fault rmX10_fault (g_pre (cz adK adV) (dC, dI) vwCl [(cI, .int), (cB, .object RX0), (cS, .object RX7), (cY, .byte)] ((W_N adK adV cI cB cS cY np pg g q qb n k ni bv bm ml cn bt f t a b sg) ++ va_pl sL (sgF sf)) sz [.ref np]) (g_qi (dC, dI) vwCl [(cI, .int), (cB, .object RX0), (cS, .object RX7), (cY, .byte)] (fun u : Unit => ((W_N adK adV cI cB cS cY np pg g q qb n k ni bv bm ml cn bt f t a b sg) ++ va_pl sL (sgF sf))) Q0 (va_A ((W_N adK adV cI cB cS cY np pg g q qb n k ni bv bm ml cn bt f t a b sg) ++ va_pl sL (sgF sf)) sz)) 0 0 (va_A ((W_N adK adV cI cB cS cY np pg g q qb n k ni bv bm ml cn bt f t a b sg) ++ va_pl sL (sgF sf)) sz) := by
  refine g_starti (by decide) rfl (Nat.le_of_ble_eq_true rfl) ?_
  intro p e s m args below meth c A Q ls hx hb hml hown hts hin hK hP hD hA hS hZ hret hl
  obtain ⟨H, eH⟩ : ∃ H : Heap, H = s.heap := ⟨_, rfl⟩
  obtain ⟨locs, eL⟩ : ∃ L : List Loc, L = [] := ⟨_, rfl⟩
  have hS : va_S A s.heap H locs := by rw [eH, eL]; exact hS
  rw [← eH] at hP
  suffices hg : W p l e rmX10_fault s m args below meth c H locs 0 0 Q (F0 m 0 ls []) by rw [eH, eL] at hg; exact hg
  clear eH eL
  replace hl : lv_has ls 1 [(0, .ref np)] := hl
  have hf31 := hts (.fieldLink RX10 31 "NumberPile" "page" "LNumberPile$Page;") (by decide +kernel)
  have hiX10 : ∀ w ∈ u_ws RX10 TX10 6, w ∈ wsX10_fault := fun w h => List.mem_cons_of_mem _ (List.mem_append_left _ (List.mem_append_left _ (List.mem_append_left _ (List.mem_append_right _ h))))
  unfold w_X10_fault at hw
  refine lv_aload_n hx hb dX10_fault_0 rfl (lv_at hl 0 rfl) ?_
  refine va_get (D := (dC, dI)) (ci := 12) (v := .ref pg) (C := RX10) (T := TX10) (N := 6) hx hb hts hiX10 hown hK hP 0 rfl rfl 1 (by decide) hf31 (fun _ h9 => h9) rfl dX10_fault_1 ?_
  refine g_ci (g_J.poolQ (W2 := fun u1 : Unit => (W_N adK adV cI cB cS cY np pg g q qb n k ni bv bm ml cn bt f t a b sg)) (pl := va_pl sL (sgF sf)) [(np, .inr (12, [.ref (q 1), .ref pg, .ref (q 0), .int (ni 0), .int (ni 1), .int (ni 2)])), ((q 0), .inr (7, [.int (nI n), .int (nI k), .ref (q 1), .ref (q 2), .ref (q 3), .ref (q 8), .int (f 0), .ref (q 13), .ref (q 14), .ref (q 15), .ref (q 18), .ref (q 21), .int (f 1), .ref (q 17), .int (f 2)])), ((q 1), .inl (cB, (5), .inr (.inr (.inr (.inr (fun i => (kAll i).map qb)))))), ((q 2), .inl (cI, k, .inl (a 0))), ((q 3), .inr (10, [.ref (q 4), .ref (q 5), .ref (q 6), .ref (q 7), .int (f 3), .int (f 4)])), ((q 4), .inl (cI, (k - n), .inl (b 0))), ((q 5), .inl (cI, n, .inl (a 1))), ((q 6), .inl (cI, k, .inl (a 2))), ((q 7), .inl (cS, (6), .inr (.inr (.inr (.inr (sg 0)))))), ((q 8), .inr (10, [.ref (q 9), .ref (q 10), .ref (q 11), .ref (q 12), .int (f 5), .int (f 6)])), ((q 9), .inl (cI, (k - n), .inl (b 1))), ((q 10), .inl (cI, n, .inl (a 3))), ((q 11), .inl (cI, k, .inl (a 4))), ((q 12), .inl (cS, (6), .inr (.inr (.inr (.inr (sg 1)))))), ((q 13), .inl (cI, k, .inl (a 5))), ((q 14), .inl (cI, k, .inl (a 6))), ((q 15), .inr (8, [.int (nI n), .ref (q 1), .ref (q 4), .ref (q 16), .ref t, .int (f 7)])), ((q 16), .inl (cI, k, .inl (a 8))), ((q 17), .inl (cI, (10 * n), .inl (a 7))), ((q 18), .inr (14, [.ref (q 19), .ref (q 20)])), ((q 19), .inl (cI, (k + 1), .inl (b 2))), ((q 20), .inl (cI, (toL n), .inl (b 3))), ((q 21), .inl (cI, k, .inl (b 4))), ((qb 0), .inr (2, [])), ((qb 1), .inr (3, [])), ((qb 2), .inr (5, [])), ((qb 3), .inr (11, [])), ((qb 4), .inr (4, []))] [1, 2, 3] [0, 4, 5, 6, 7, 8, 9, 10, 11, 12, 13, 14, 15, 16, 17, 18, 19, 20, 21, 22, 23, 24, 25, 26, 27, 28, 29, 30] [0, 28, 29, 30, 1, 2, 3, 4, 5, 6, 7, 8, 9, 10, 11, 12, 13, 14, 15, 16, 17, 18, 19, 20, 21, 22, 23, 24, 25, 26, 27] rfl (by decide) rfl (by decide) (by decide) (fun _ => rfl) (by decide)) [3] hK hP hD hS hA rfl (fun hPc hDc hKc hFc => va_runV (As := []) (rest := []) ⟨hx, hb, hml, hown, hts⟩ (t_X4_firstFault l dC dI adK adV cY pg g H.size bv bm ml cn bt   _ hw) (cwV 0 hts gX10_fault_X4_firstFault rfl rfl rfl (by decide +kernel) ⟨Nat.le_of_ble_eq_true rfl, Nat.le_of_ble_eq_true rfl⟩) (g_pV czb (q0 := 0) rfl rfl hPc hDc hKc (czc hZ hS hFc)) rfl rfl hl.1 rfl (lv_room (Nat.le_of_ble_eq_true rfl)) dX10_fault_4 ⟨Nat.le_of_ble_eq_true rfl, Nat.le_of_ble_eq_true rfl⟩) (fun r2 u1 H locs hw hP hD hS => ?_)
  replace hP : va_P (dC, dI) vwCl ((W_N adK adV cI cB cS cY np pg g q qb n k ni bv bm ml cn bt f t a b sg) ++ va_pl sL (sgF sf)) H := hP
  replace hD : va_D A ((W_N adK adV cI cB cS cY np pg g q qb n k ni bv bm ml cn bt f t a b sg) ++ va_pl sL (sgF sf)) := hD
  exact hret dX10_fault_7 hK hP hD hS hw

def w_X10_brick (n : Nat) (k : Nat) (q : Nat → Nat) (ni : Nat → Int32) (bv : Nat) (bm : Nat) (ml : Int32) (cn : Int32) (bt : Nat → Int32) (f : Nat → Int32) (t : Nat) (a : Nat → Nat → Int32) (b : Nat → Nat → Int32) (sg : Nat → Nat → Option Nat) (sL : List Nat) (sf : Nat → Nat → Int32)  (p0 : Int32) (p1 : Int32) (Q : Int32 → Unit → Prop) : Prop := w_X10_isBrick n k q ni bv bm ml cn bt f t a b sg sL sf p0 (fun (r2 : Int32) (u1 : Unit) => (((¬ r2 = 0) → ((p1 = 0 → w_X10_isFigure n k q ni bv bm ml cn bt f t a b sg sL sf p0 (fun (r6 : Int32) (u5 : Unit) => (((r6 = 0) → w_X5_kindOf n k q f t a b sg sL sf p0 (fun (r9 : Int32) (u8 : Unit) => Q r9 ())) ∧ (¬ (r6 = 0) → Q (-1 : Int32) ())))) ∧ (¬ p1 = 0 → ((p1 = 1 → (vp_in p0 k) ∧ Q ((a 5) p0.toNatClampNeg) ()) ∧ (¬ p1 = 1 → ((p1 = 2 → (vp_in p0 k) ∧ Q ((a 0) p0.toNatClampNeg) ()) ∧ (¬ p1 = 2 → ((p1 = 3 → w_X10_isFigure n k q ni bv bm ml cn bt f t a b sg sL sf p0 (fun (r16 : Int32) (u15 : Unit) => (((r16 = 0) → (vp_in p0 k) ∧ Q (((a 0) p0.toNatClampNeg) + (1 : Int32)) ()) ∧ (¬ (r16 = 0) → Q (-1 : Int32) ())))) ∧ (¬ p1 = 3 → ((p1 = 4 → (vp_in p0 k) ∧ Q ((a 2) p0.toNatClampNeg) ()) ∧ (¬ p1 = 4 → ((p1 = 5 → w_X10_isFigure n k q ni bv bm ml cn bt f t a b sg sL sf p0 (fun (r23 : Int32) (u22 : Unit) => (((r23 = 0) → w_X5_sorts n k q f t a b sg sL sf p0 (fun (r26 : Int32) (u25 : Unit) => Q r26 ())) ∧ (¬ (r23 = 0) → Q (0 : Int32) ())))) ∧ (¬ p1 = 5 → ((p1 = 6 → w_X10_isFigure n k q ni bv bm ml cn bt f t a b sg sL sf p0 (fun (r29 : Int32) (u28 : Unit) => (((r29 = 0) → w_X5_sorts n k q f t a b sg sL sf p0 (fun (r32 : Int32) (u31 : Unit) => w_X5_nextTry n k q f t a b sg sL sf r32 (fun (r34 : Int32) (u33 : Unit) => Q r34 ()))) ∧ (¬ (r29 = 0) → Q (-1 : Int32) ())))) ∧ (¬ p1 = 6 → Q (-102 : Int32) ()))))))))))))))) ∧ (r2 = 0 → Q (-101 : Int32) ())))
abbrev rmX10_brick : Room := { frames := 5, cells := 0, slots := 0, locals := 138 }
set_option maxHeartbeats 4000000 in
set_option maxRecDepth 100000 in
theorem t_X10_brick (l : Launch) (dC : Nat → ClassId) (dI : Nat → Nat → Nat) (adK : Nat → Nat) (adV : Nat → Nat) (cI : ClassId) (cB : ClassId) (cS : ClassId) (cY : ClassId) (np : Nat) (pg : Nat) (g : Nat) (q : Nat → Nat) (qb : Nat → Nat) (n : Nat) (k : Nat) (sz : Nat) (ni : Nat → Int32) (bv : Nat) (bm : Nat) (ml : Int32) (cn : Int32) (bt : Nat → Int32) (f : Nat → Int32) (t : Nat) (a : Nat → Nat → Int32) (b : Nat → Nat → Int32) (sg : Nat → Nat → Option Nat) (sL : List Nat) (sf : Nat → Nat → Int32)   (p0 : Int32) (p1 : Int32) (Q0 : Int32 → Unit → Prop) (hw : w_X10_brick n k q ni bv bm ml cn bt f t a b sg sL sf  p0 p1 Q0) : Met l yX10_brick wsX10_brick rmX10_brick (g_pre (cz adK adV) (dC, dI) vwCl [(cI, .int), (cB, .object RX0), (cS, .object RX7), (cY, .byte)] ((W_N adK adV cI cB cS cY np pg g q qb n k ni bv bm ml cn bt f t a b sg) ++ va_pl sL (sgF sf)) sz [.ref np, .int p0, .int p1]) (g_qi (dC, dI) vwCl [(cI, .int), (cB, .object RX0), (cS, .object RX7), (cY, .byte)] (fun u : Unit => ((W_N adK adV cI cB cS cY np pg g q qb n k ni bv bm ml cn bt f t a b sg) ++ va_pl sL (sgF sf))) Q0 (va_A ((W_N adK adV cI cB cS cY np pg g q qb n k ni bv bm ml cn bt f t a b sg) ++ va_pl sL (sgF sf)) sz)) 0 0 (va_A ((W_N adK adV cI cB cS cY np pg g q qb n k ni bv bm ml cn bt f t a b sg) ++ va_pl sL (sgF sf)) sz) := by
  refine g_starti (by decide) rfl (Nat.le_of_ble_eq_true rfl) ?_
  intro p e s m args below meth c A Q ls hx hb hml hown hts hin hK hP hD hA hS hZ hret hl
  obtain ⟨H, eH⟩ : ∃ H : Heap, H = s.heap := ⟨_, rfl⟩
  obtain ⟨locs, eL⟩ : ∃ L : List Loc, L = [] := ⟨_, rfl⟩
  have hS : va_S A s.heap H locs := by rw [eH, eL]; exact hS
  rw [← eH] at hP
  suffices hg : W p l e rmX10_brick s m args below meth c H locs 0 0 Q (F0 m 0 ls []) by rw [eH, eL] at hg; exact hg
  clear eH eL
  replace hl : lv_has ls 3 [(0, .ref np), (1, .int p0), (2, .int p1)] := hl
  have hf40 := hts (.fieldLink RX10 40 "NumberPile" "current" "LNumberPile$Pile;") (by decide +kernel)
  have hiX10 : ∀ w ∈ u_ws RX10 TX10 6, w ∈ wsX10_brick := fun w h => List.mem_cons_of_mem _ (List.mem_append_left _ (List.mem_append_left _ (List.mem_append_left _ (List.mem_append_right _ h))))
  have nf95 := va_Nw.use (A := args) rfl (hZ.1 _ (List.mem_of_getElem? (i := 8) (rfl : cz_nest[8]? = some (.fieldLinkNest RX10 95 "NumberPile$Pile" "values" "[I" "NumberPile"))))
  have hiX5 : ∀ w ∈ u_ws RX5 TX5 15, w ∈ wsX10_brick := fun w h => List.mem_cons_of_mem _ (List.mem_append_left _ (List.mem_append_left _ (List.mem_append_right _ h)))
  have nf99 := va_Nw.use (A := args) rfl (hZ.1 _ (List.mem_of_getElem? (i := 9) (rfl : cz_nest[9]? = some (.fieldLinkNest RX10 99 "NumberPile$Pile" "leftBelow" "[I" "NumberPile"))))
  have nf102 := va_Nw.use (A := args) rfl (hZ.1 _ (List.mem_of_getElem? (i := 10) (rfl : cz_nest[10]? = some (.fieldLinkNest RX10 102 "NumberPile$Pile" "now" "LNumberPile$State;" "NumberPile"))))
  have nf106 := va_Nw.use (A := args) rfl (hZ.1 _ (List.mem_of_getElem? (i := 11) (rfl : cz_nest[11]? = some (.fieldLinkNest RX10 106 "NumberPile$State" "told" "[I" "NumberPile"))))
  have hiX8 : ∀ w ∈ u_ws RX8 TX8 6, w ∈ wsX10_brick := fun w h => List.mem_cons_of_mem _ (List.mem_append_left _ (List.mem_append_right _ h))
  unfold w_X10_brick at hw
  refine lv_aload_n hx hb dX10_brick_0 rfl (lv_at hl 0 rfl) ?_
  refine lv_iload_n hx hb dX10_brick_1 rfl (lv_at hl 1 rfl) ?_
  refine g_ci (g_J.poolP (W2 := fun u1 : Unit => (W_N adK adV cI cB cS cY np pg g q qb n k ni bv bm ml cn bt f t a b sg)) (pl := va_pl sL (sgF sf)) (PL := fun u1 : Unit => va_pl sL (sgF sf)) (RX := fun u1 : Unit => (W_N adK adV cI cB cS cY np pg g q qb n k ni bv bm ml cn bt f t a b sg)) [] [0, 1, 2, 3, 4, 5, 6, 7, 8, 9, 10, 11, 12, 13, 14, 15, 16, 17, 18, 19, 20, 21, 22, 23, 24, 25, 26, 27, 28, 29, 30] [] [0, 1, 2, 3, 4, 5, 6, 7, 8, 9, 10, 11, 12, 13, 14, 15, 16, 17, 18, 19, 20, 21, 22, 23, 24, 25, 26, 27, 28, 29, 30] rfl (by decide) rfl (by decide) (by decide) (fun _ => rfl) (by decide)) [0, 1, 2, 3] hK hP hD hS hA rfl (fun hPc hDc hKc hFc => va_runV (As := [.int p0]) (rest := []) ⟨hx, hb, hml, hown, hts⟩ (t_X10_isBrick l dC dI adK adV cI cB cS cY np pg g q qb n k H.size ni bv bm ml cn bt f t a b sg sL sf p0 _ hw) (cwV 1 hts gX10_brick_X10_isBrick rfl rfl rfl (by decide +kernel) ⟨Nat.le_of_ble_eq_true rfl, Nat.le_of_ble_eq_true rfl⟩) (g_pV czb (q0 := 0) rfl rfl hPc hDc hKc (czc hZ hS hFc)) rfl rfl hl.1 rfl (lv_room (Nat.le_of_ble_eq_true rfl)) dX10_brick_2 ⟨Nat.le_of_ble_eq_true rfl, Nat.le_of_ble_eq_true rfl⟩) (fun r2 u1 H locs hw hP hD hS => ?_)
  replace hP : va_P (dC, dI) vwCl ((W_N adK adV cI cB cS cY np pg g q qb n k ni bv bm ml cn bt f t a b sg) ++ va_pl sL (sgF sf)) H := hP
  replace hD : va_D A ((W_N adK adV cI cB cS cY np pg g q qb n k ni bv bm ml cn bt f t a b sg) ++ va_pl sL (sgF sf)) := hD
  refine lv_if_ne (tgt := 11) hx hb dX10_brick_5 (by decide) (fun hc3 => ?_) (fun hc3 => ?_)
  · replace hw := hw.1 hc3
    refine lv_iload_n hx hb dX10_brick_11 rfl (lv_at hl 2 rfl) ?_
    by_cases hc4 : p1 = 0
    · replace hw := hw.1 hc4
      refine lv_tableIn (tgt := 56) hx hb dX10_brick_12 (by rw [hc4]; decide) (by rw [hc4]; decide) (by rw [hc4]; rfl) (by decide) ?_
      refine lv_aload_n hx hb dX10_brick_56 rfl (lv_at hl 0 rfl) ?_
      refine lv_iload_n hx hb dX10_brick_57 rfl (lv_at hl 1 rfl) ?_
      refine g_ci (g_J.poolP (W2 := fun u5 : Unit => (W_N adK adV cI cB cS cY np pg g q qb n k ni bv bm ml cn bt f t a b sg)) (pl := va_pl sL (sgF sf)) (PL := fun u5 : Unit => va_pl sL (sgF sf)) (RX := fun u5 : Unit => (W_N adK adV cI cB cS cY np pg g q qb n k ni bv bm ml cn bt f t a b sg)) [] [0, 1, 2, 3, 4, 5, 6, 7, 8, 9, 10, 11, 12, 13, 14, 15, 16, 17, 18, 19, 20, 21, 22, 23, 24, 25, 26, 27, 28, 29, 30] [] [0, 1, 2, 3, 4, 5, 6, 7, 8, 9, 10, 11, 12, 13, 14, 15, 16, 17, 18, 19, 20, 21, 22, 23, 24, 25, 26, 27, 28, 29, 30] rfl (by decide) rfl (by decide) (by decide) (fun _ => rfl) (by decide)) [0, 1, 2, 3] hK hP hD hS hA rfl (fun hPc hDc hKc hFc => va_runV (As := [.int p0]) (rest := []) ⟨hx, hb, hml, hown, hts⟩ (t_X10_isFigure l dC dI adK adV cI cB cS cY np pg g q qb n k H.size ni bv bm ml cn bt f t a b sg sL sf p0 _ hw) (cwV 1 hts gX10_brick_X10_isFigure rfl rfl rfl (by decide +kernel) ⟨Nat.le_of_ble_eq_true rfl, Nat.le_of_ble_eq_true rfl⟩) (g_pV czb (q0 := 0) rfl rfl hPc hDc hKc (czc hZ hS hFc)) rfl rfl hl.1 rfl (lv_room (Nat.le_of_ble_eq_true rfl)) dX10_brick_58 ⟨Nat.le_of_ble_eq_true rfl, Nat.le_of_ble_eq_true rfl⟩) (fun r6 u5 H locs hw hP hD hS => ?_)
      replace hP : va_P (dC, dI) vwCl ((W_N adK adV cI cB cS cY np pg g q qb n k ni bv bm ml cn bt f t a b sg) ++ va_pl sL (sgF sf)) H := hP
      replace hD : va_D A ((W_N adK adV cI cB cS cY np pg g q qb n k ni bv bm ml cn bt f t a b sg) ++ va_pl sL (sgF sf)) := hD
      refine lv_if_eq (tgt := 68) hx hb dX10_brick_61 (by decide) (fun hc7 => ?_) (fun hc7 => ?_)
      · replace hw := hw.1 hc7
        refine lv_aload_n hx hb dX10_brick_68 rfl (lv_at hl 0 rfl) ?_
        refine va_get (D := (dC, dI)) (ci := 12) (v := .ref (q 0)) (C := RX10) (T := TX10) (N := 6) hx hb hts hiX10 hown hK hP 0 rfl rfl 2 (by decide) hf40 (fun _ h9 => h9) rfl dX10_brick_69 ?_
        refine lv_iload_n hx hb dX10_brick_72 rfl (lv_at hl 1 rfl) ?_
        refine g_ci (g_J.poolP (W2 := fun u8 : Unit => (W_N adK adV cI cB cS cY np pg g q qb n k ni bv bm ml cn bt f t a b sg)) (pl := va_pl sL (sgF sf)) (PL := fun u8 : Unit => va_pl sL (sgF sf)) (RX := fun u8 : Unit => (W_P adK adV cI cB cS q qb n k f t a b sg)) [(np, .inr (12, [.ref (q 1), .ref pg, .ref (q 0), .int (ni 0), .int (ni 1), .int (ni 2)])), (pg, .inr (6, [.ref g])), (g, .inr (1, [.ref bv, .int (0 : Int32), .int ml, .int cn])), (bv, .inl (cY, bm, .inl bt))] [4, 5, 6, 7, 8, 9, 10, 11, 12, 13, 14, 15, 16, 17, 18, 19, 20, 21, 22, 23, 24, 25, 26, 27, 28, 29, 30] [0, 1, 2, 3] [0, 1, 2, 3, 4, 5, 6, 7, 8, 9, 10, 11, 12, 13, 14, 15, 16, 17, 18, 19, 20, 21, 22, 23, 24, 25, 26, 27, 28, 29, 30] rfl (by decide) rfl (by decide) (by decide) (fun _ => rfl) (by decide)) [0, 1, 2] hK hP hD hS hA rfl (fun hPc hDc hKc hFc => va_runV (As := [.int p0]) (rest := []) ⟨hx, hb, hml, hown, hts⟩ (t_X5_kindOf l dC dI adK adV cI cB cS q qb n k H.size f t a b sg sL sf p0 _ hw) (cwV 1 hts gX10_brick_X5_kindOf rfl rfl rfl (by decide +kernel) ⟨Nat.le_of_ble_eq_true rfl, Nat.le_of_ble_eq_true rfl⟩) (g_pV czb (q0 := 0) rfl rfl hPc hDc hKc (czc hZ hS hFc)) rfl rfl hl.1 rfl (lv_room (Nat.le_of_ble_eq_true rfl)) dX10_brick_73 ⟨Nat.le_of_ble_eq_true rfl, Nat.le_of_ble_eq_true rfl⟩) (fun r9 u8 H locs hw hP hD hS => ?_)
        replace hP : va_P (dC, dI) vwCl ((W_N adK adV cI cB cS cY np pg g q qb n k ni bv bm ml cn bt f t a b sg) ++ va_pl sL (sgF sf)) H := hP
        replace hD : va_D A ((W_N adK adV cI cB cS cY np pg g q qb n k ni bv bm ml cn bt f t a b sg) ++ va_pl sL (sgF sf)) := hD
        exact hret dX10_brick_76 hK hP hD hS hw
      · replace hw := hw.2 hc7
        refine lv_iconst (v := -1) hx hb dX10_brick_64 (by decide) ?_
        refine lv_goto (tgt := 76) hx hb dX10_brick_65 (by decide) ?_
        exact hret dX10_brick_76 hK hP hD hS hw
    · replace hw := hw.2 hc4
      by_cases hc10 : p1 = 1
      · replace hw := hw.1 hc10
        refine lv_tableIn (tgt := 77) hx hb dX10_brick_12 (by rw [hc10]; decide) (by rw [hc10]; decide) (by rw [hc10]; rfl) (by decide) ?_
        refine lv_aload_n hx hb dX10_brick_77 rfl (lv_at hl 0 rfl) ?_
        refine va_get (D := (dC, dI)) (ci := 12) (v := .ref (q 0)) (C := RX10) (T := TX10) (N := 6) hx hb hts hiX10 hown hK hP 0 rfl rfl 2 (by decide) hf40 (fun _ h9 => h9) rfl dX10_brick_78 ?_
        refine va_getN (D := (dC, dI)) (ci := 7) (v := .ref (q 13)) (C := RX5) (T := TX5) (N := 15) hx hb hts hiX5 hown hK hP 4 rfl rfl 7 (by decide) nf95 (fun _ h9 => h9) rfl dX10_brick_81 ?_
        refine lv_iload_n hx hb dX10_brick_84 rfl (lv_at hl 1 rfl) ?_
        obtain ⟨hb11, hw⟩ := hw
        refine va_iald hx hb hK hP 17 0 rfl rfl hb11 dX10_brick_85 ?_
        exact hret dX10_brick_86 hK hP hD hS hw
      · replace hw := hw.2 hc10
        by_cases hc12 : p1 = 2
        · replace hw := hw.1 hc12
          refine lv_tableIn (tgt := 87) hx hb dX10_brick_12 (by rw [hc12]; decide) (by rw [hc12]; decide) (by rw [hc12]; rfl) (by decide) ?_
          refine lv_aload_n hx hb dX10_brick_87 rfl (lv_at hl 0 rfl) ?_
          refine va_get (D := (dC, dI)) (ci := 12) (v := .ref (q 0)) (C := RX10) (T := TX10) (N := 6) hx hb hts hiX10 hown hK hP 0 rfl rfl 2 (by decide) hf40 (fun _ h9 => h9) rfl dX10_brick_88 ?_
          refine va_getN (D := (dC, dI)) (ci := 7) (v := .ref (q 2)) (C := RX5) (T := TX5) (N := 15) hx hb hts hiX5 hown hK hP 4 rfl rfl 3 (by decide) nf99 (fun _ h9 => h9) rfl dX10_brick_91 ?_
          refine lv_iload_n hx hb dX10_brick_94 rfl (lv_at hl 1 rfl) ?_
          obtain ⟨hb13, hw⟩ := hw
          refine va_iald hx hb hK hP 6 0 rfl rfl hb13 dX10_brick_95 ?_
          exact hret dX10_brick_96 hK hP hD hS hw
        · replace hw := hw.2 hc12
          by_cases hc14 : p1 = 3
          · replace hw := hw.1 hc14
            refine lv_tableIn (tgt := 97) hx hb dX10_brick_12 (by rw [hc14]; decide) (by rw [hc14]; decide) (by rw [hc14]; rfl) (by decide) ?_
            refine lv_aload_n hx hb dX10_brick_97 rfl (lv_at hl 0 rfl) ?_
            refine lv_iload_n hx hb dX10_brick_98 rfl (lv_at hl 1 rfl) ?_
            refine g_ci (g_J.poolP (W2 := fun u15 : Unit => (W_N adK adV cI cB cS cY np pg g q qb n k ni bv bm ml cn bt f t a b sg)) (pl := va_pl sL (sgF sf)) (PL := fun u15 : Unit => va_pl sL (sgF sf)) (RX := fun u15 : Unit => (W_N adK adV cI cB cS cY np pg g q qb n k ni bv bm ml cn bt f t a b sg)) [] [0, 1, 2, 3, 4, 5, 6, 7, 8, 9, 10, 11, 12, 13, 14, 15, 16, 17, 18, 19, 20, 21, 22, 23, 24, 25, 26, 27, 28, 29, 30] [] [0, 1, 2, 3, 4, 5, 6, 7, 8, 9, 10, 11, 12, 13, 14, 15, 16, 17, 18, 19, 20, 21, 22, 23, 24, 25, 26, 27, 28, 29, 30] rfl (by decide) rfl (by decide) (by decide) (fun _ => rfl) (by decide)) [0, 1, 2, 3] hK hP hD hS hA rfl (fun hPc hDc hKc hFc => va_runV (As := [.int p0]) (rest := []) ⟨hx, hb, hml, hown, hts⟩ (t_X10_isFigure l dC dI adK adV cI cB cS cY np pg g q qb n k H.size ni bv bm ml cn bt f t a b sg sL sf p0 _ hw) (cwV 1 hts gX10_brick_X10_isFigure rfl rfl rfl (by decide +kernel) ⟨Nat.le_of_ble_eq_true rfl, Nat.le_of_ble_eq_true rfl⟩) (g_pV czb (q0 := 0) rfl rfl hPc hDc hKc (czc hZ hS hFc)) rfl rfl hl.1 rfl (lv_room (Nat.le_of_ble_eq_true rfl)) dX10_brick_99 ⟨Nat.le_of_ble_eq_true rfl, Nat.le_of_ble_eq_true rfl⟩) (fun r16 u15 H locs hw hP hD hS => ?_)
            replace hP : va_P (dC, dI) vwCl ((W_N adK adV cI cB cS cY np pg g q qb n k ni bv bm ml cn bt f t a b sg) ++ va_pl sL (sgF sf)) H := hP
            replace hD : va_D A ((W_N adK adV cI cB cS cY np pg g q qb n k ni bv bm ml cn bt f t a b sg) ++ va_pl sL (sgF sf)) := hD
            refine lv_if_eq (tgt := 109) hx hb dX10_brick_102 (by decide) (fun hc17 => ?_) (fun hc17 => ?_)
            · replace hw := hw.1 hc17
              refine lv_aload_n hx hb dX10_brick_109 rfl (lv_at hl 0 rfl) ?_
              refine va_get (D := (dC, dI)) (ci := 12) (v := .ref (q 0)) (C := RX10) (T := TX10) (N := 6) hx hb hts hiX10 hown hK hP 0 rfl rfl 2 (by decide) hf40 (fun _ h9 => h9) rfl dX10_brick_110 ?_
              refine va_getN (D := (dC, dI)) (ci := 7) (v := .ref (q 2)) (C := RX5) (T := TX5) (N := 15) hx hb hts hiX5 hown hK hP 4 rfl rfl 3 (by decide) nf99 (fun _ h9 => h9) rfl dX10_brick_113 ?_
              refine lv_iload_n hx hb dX10_brick_116 rfl (lv_at hl 1 rfl) ?_
              obtain ⟨hb18, hw⟩ := hw
              refine va_iald hx hb hK hP 6 0 rfl rfl hb18 dX10_brick_117 ?_
              refine lv_iconst (v := 1) hx hb dX10_brick_118 (by decide) ?_
              refine lv_iadd hx hb dX10_brick_119 ?_
              exact hret dX10_brick_120 hK hP hD hS hw
            · replace hw := hw.2 hc17
              refine lv_iconst (v := -1) hx hb dX10_brick_105 (by decide) ?_
              refine lv_goto (tgt := 120) hx hb dX10_brick_106 (by decide) ?_
              exact hret dX10_brick_120 hK hP hD hS hw
          · replace hw := hw.2 hc14
            by_cases hc19 : p1 = 4
            · replace hw := hw.1 hc19
              refine lv_tableIn (tgt := 121) hx hb dX10_brick_12 (by rw [hc19]; decide) (by rw [hc19]; decide) (by rw [hc19]; rfl) (by decide) ?_
              refine lv_aload_n hx hb dX10_brick_121 rfl (lv_at hl 0 rfl) ?_
              refine va_get (D := (dC, dI)) (ci := 12) (v := .ref (q 0)) (C := RX10) (T := TX10) (N := 6) hx hb hts hiX10 hown hK hP 0 rfl rfl 2 (by decide) hf40 (fun _ h9 => h9) rfl dX10_brick_122 ?_
              refine va_getN (D := (dC, dI)) (ci := 7) (v := .ref (q 3)) (C := RX5) (T := TX5) (N := 15) hx hb hts hiX5 hown hK hP 4 rfl rfl 4 (by decide) nf102 (fun _ h9 => h9) rfl dX10_brick_125 ?_
              refine va_getN (D := (dC, dI)) (ci := 10) (v := .ref (q 6)) (C := RX8) (T := TX8) (N := 6) hx hb hts hiX8 hown hK hP 7 rfl rfl 2 (by decide) nf106 (fun _ h9 => h9) rfl dX10_brick_128 ?_
              refine lv_iload_n hx hb dX10_brick_131 rfl (lv_at hl 1 rfl) ?_
              obtain ⟨hb20, hw⟩ := hw
              refine va_iald hx hb hK hP 10 0 rfl rfl hb20 dX10_brick_132 ?_
              exact hret dX10_brick_133 hK hP hD hS hw
            · replace hw := hw.2 hc19
              by_cases hc21 : p1 = 5
              · replace hw := hw.1 hc21
                refine lv_tableIn (tgt := 134) hx hb dX10_brick_12 (by rw [hc21]; decide) (by rw [hc21]; decide) (by rw [hc21]; rfl) (by decide) ?_
                refine lv_aload_n hx hb dX10_brick_134 rfl (lv_at hl 0 rfl) ?_
                refine lv_iload_n hx hb dX10_brick_135 rfl (lv_at hl 1 rfl) ?_
                refine g_ci (g_J.poolP (W2 := fun u22 : Unit => (W_N adK adV cI cB cS cY np pg g q qb n k ni bv bm ml cn bt f t a b sg)) (pl := va_pl sL (sgF sf)) (PL := fun u22 : Unit => va_pl sL (sgF sf)) (RX := fun u22 : Unit => (W_N adK adV cI cB cS cY np pg g q qb n k ni bv bm ml cn bt f t a b sg)) [] [0, 1, 2, 3, 4, 5, 6, 7, 8, 9, 10, 11, 12, 13, 14, 15, 16, 17, 18, 19, 20, 21, 22, 23, 24, 25, 26, 27, 28, 29, 30] [] [0, 1, 2, 3, 4, 5, 6, 7, 8, 9, 10, 11, 12, 13, 14, 15, 16, 17, 18, 19, 20, 21, 22, 23, 24, 25, 26, 27, 28, 29, 30] rfl (by decide) rfl (by decide) (by decide) (fun _ => rfl) (by decide)) [0, 1, 2, 3] hK hP hD hS hA rfl (fun hPc hDc hKc hFc => va_runV (As := [.int p0]) (rest := []) ⟨hx, hb, hml, hown, hts⟩ (t_X10_isFigure l dC dI adK adV cI cB cS cY np pg g q qb n k H.size ni bv bm ml cn bt f t a b sg sL sf p0 _ hw) (cwV 1 hts gX10_brick_X10_isFigure rfl rfl rfl (by decide +kernel) ⟨Nat.le_of_ble_eq_true rfl, Nat.le_of_ble_eq_true rfl⟩) (g_pV czb (q0 := 0) rfl rfl hPc hDc hKc (czc hZ hS hFc)) rfl rfl hl.1 rfl (lv_room (Nat.le_of_ble_eq_true rfl)) dX10_brick_136 ⟨Nat.le_of_ble_eq_true rfl, Nat.le_of_ble_eq_true rfl⟩) (fun r23 u22 H locs hw hP hD hS => ?_)
                replace hP : va_P (dC, dI) vwCl ((W_N adK adV cI cB cS cY np pg g q qb n k ni bv bm ml cn bt f t a b sg) ++ va_pl sL (sgF sf)) H := hP
                replace hD : va_D A ((W_N adK adV cI cB cS cY np pg g q qb n k ni bv bm ml cn bt f t a b sg) ++ va_pl sL (sgF sf)) := hD
                refine lv_if_eq (tgt := 146) hx hb dX10_brick_139 (by decide) (fun hc24 => ?_) (fun hc24 => ?_)
                · replace hw := hw.1 hc24
                  refine lv_aload_n hx hb dX10_brick_146 rfl (lv_at hl 0 rfl) ?_
                  refine va_get (D := (dC, dI)) (ci := 12) (v := .ref (q 0)) (C := RX10) (T := TX10) (N := 6) hx hb hts hiX10 hown hK hP 0 rfl rfl 2 (by decide) hf40 (fun _ h9 => h9) rfl dX10_brick_147 ?_
                  refine lv_iload_n hx hb dX10_brick_150 rfl (lv_at hl 1 rfl) ?_
                  refine g_ci (g_J.poolP (W2 := fun u25 : Unit => (W_N adK adV cI cB cS cY np pg g q qb n k ni bv bm ml cn bt f t a b sg)) (pl := va_pl sL (sgF sf)) (PL := fun u25 : Unit => va_pl sL (sgF sf)) (RX := fun u25 : Unit => (W_P adK adV cI cB cS q qb n k f t a b sg)) [(np, .inr (12, [.ref (q 1), .ref pg, .ref (q 0), .int (ni 0), .int (ni 1), .int (ni 2)])), (pg, .inr (6, [.ref g])), (g, .inr (1, [.ref bv, .int (0 : Int32), .int ml, .int cn])), (bv, .inl (cY, bm, .inl bt))] [4, 5, 6, 7, 8, 9, 10, 11, 12, 13, 14, 15, 16, 17, 18, 19, 20, 21, 22, 23, 24, 25, 26, 27, 28, 29, 30] [0, 1, 2, 3] [0, 1, 2, 3, 4, 5, 6, 7, 8, 9, 10, 11, 12, 13, 14, 15, 16, 17, 18, 19, 20, 21, 22, 23, 24, 25, 26, 27, 28, 29, 30] rfl (by decide) rfl (by decide) (by decide) (fun _ => rfl) (by decide)) [0, 1, 2] hK hP hD hS hA rfl (fun hPc hDc hKc hFc => va_runV (As := [.int p0]) (rest := []) ⟨hx, hb, hml, hown, hts⟩ (t_X5_sorts l dC dI adK adV cI cB cS q qb n k H.size f t a b sg sL sf p0 _ hw) (cwV 1 hts gX10_brick_X5_sorts rfl rfl rfl (by decide +kernel) ⟨Nat.le_of_ble_eq_true rfl, Nat.le_of_ble_eq_true rfl⟩) (g_pV czb (q0 := 0) rfl rfl hPc hDc hKc (czc hZ hS hFc)) rfl rfl hl.1 rfl (lv_room (Nat.le_of_ble_eq_true rfl)) dX10_brick_151 ⟨Nat.le_of_ble_eq_true rfl, Nat.le_of_ble_eq_true rfl⟩) (fun r26 u25 H locs hw hP hD hS => ?_)
                  replace hP : va_P (dC, dI) vwCl ((W_N adK adV cI cB cS cY np pg g q qb n k ni bv bm ml cn bt f t a b sg) ++ va_pl sL (sgF sf)) H := hP
                  replace hD : va_D A ((W_N adK adV cI cB cS cY np pg g q qb n k ni bv bm ml cn bt f t a b sg) ++ va_pl sL (sgF sf)) := hD
                  exact hret dX10_brick_154 hK hP hD hS hw
                · replace hw := hw.2 hc24
                  refine lv_iconst (v := 0) hx hb dX10_brick_142 (by decide) ?_
                  refine lv_goto (tgt := 154) hx hb dX10_brick_143 (by decide) ?_
                  exact hret dX10_brick_154 hK hP hD hS hw
              · replace hw := hw.2 hc21
                by_cases hc27 : p1 = 6
                · replace hw := hw.1 hc27
                  refine lv_tableIn (tgt := 155) hx hb dX10_brick_12 (by rw [hc27]; decide) (by rw [hc27]; decide) (by rw [hc27]; rfl) (by decide) ?_
                  refine lv_aload_n hx hb dX10_brick_155 rfl (lv_at hl 0 rfl) ?_
                  refine lv_iload_n hx hb dX10_brick_156 rfl (lv_at hl 1 rfl) ?_
                  refine g_ci (g_J.poolP (W2 := fun u28 : Unit => (W_N adK adV cI cB cS cY np pg g q qb n k ni bv bm ml cn bt f t a b sg)) (pl := va_pl sL (sgF sf)) (PL := fun u28 : Unit => va_pl sL (sgF sf)) (RX := fun u28 : Unit => (W_N adK adV cI cB cS cY np pg g q qb n k ni bv bm ml cn bt f t a b sg)) [] [0, 1, 2, 3, 4, 5, 6, 7, 8, 9, 10, 11, 12, 13, 14, 15, 16, 17, 18, 19, 20, 21, 22, 23, 24, 25, 26, 27, 28, 29, 30] [] [0, 1, 2, 3, 4, 5, 6, 7, 8, 9, 10, 11, 12, 13, 14, 15, 16, 17, 18, 19, 20, 21, 22, 23, 24, 25, 26, 27, 28, 29, 30] rfl (by decide) rfl (by decide) (by decide) (fun _ => rfl) (by decide)) [0, 1, 2, 3] hK hP hD hS hA rfl (fun hPc hDc hKc hFc => va_runV (As := [.int p0]) (rest := []) ⟨hx, hb, hml, hown, hts⟩ (t_X10_isFigure l dC dI adK adV cI cB cS cY np pg g q qb n k H.size ni bv bm ml cn bt f t a b sg sL sf p0 _ hw) (cwV 1 hts gX10_brick_X10_isFigure rfl rfl rfl (by decide +kernel) ⟨Nat.le_of_ble_eq_true rfl, Nat.le_of_ble_eq_true rfl⟩) (g_pV czb (q0 := 0) rfl rfl hPc hDc hKc (czc hZ hS hFc)) rfl rfl hl.1 rfl (lv_room (Nat.le_of_ble_eq_true rfl)) dX10_brick_157 ⟨Nat.le_of_ble_eq_true rfl, Nat.le_of_ble_eq_true rfl⟩) (fun r29 u28 H locs hw hP hD hS => ?_)
                  replace hP : va_P (dC, dI) vwCl ((W_N adK adV cI cB cS cY np pg g q qb n k ni bv bm ml cn bt f t a b sg) ++ va_pl sL (sgF sf)) H := hP
                  replace hD : va_D A ((W_N adK adV cI cB cS cY np pg g q qb n k ni bv bm ml cn bt f t a b sg) ++ va_pl sL (sgF sf)) := hD
                  refine lv_if_eq (tgt := 167) hx hb dX10_brick_160 (by decide) (fun hc30 => ?_) (fun hc30 => ?_)
                  · replace hw := hw.1 hc30
                    refine lv_aload_n hx hb dX10_brick_167 rfl (lv_at hl 0 rfl) ?_
                    refine va_get (D := (dC, dI)) (ci := 12) (v := .ref (q 0)) (C := RX10) (T := TX10) (N := 6) hx hb hts hiX10 hown hK hP 0 rfl rfl 2 (by decide) hf40 (fun _ h9 => h9) rfl dX10_brick_168 ?_
                    refine lv_aload_n hx hb dX10_brick_171 rfl (lv_at hl 0 rfl) ?_
                    refine va_get (D := (dC, dI)) (ci := 12) (v := .ref (q 0)) (C := RX10) (T := TX10) (N := 6) hx hb hts hiX10 hown hK hP 0 rfl rfl 2 (by decide) hf40 (fun _ h9 => h9) rfl dX10_brick_172 ?_
                    refine lv_iload_n hx hb dX10_brick_175 rfl (lv_at hl 1 rfl) ?_
                    refine g_ci (g_J.poolP (W2 := fun u31 : Unit => (W_N adK adV cI cB cS cY np pg g q qb n k ni bv bm ml cn bt f t a b sg)) (pl := va_pl sL (sgF sf)) (PL := fun u31 : Unit => va_pl sL (sgF sf)) (RX := fun u31 : Unit => (W_P adK adV cI cB cS q qb n k f t a b sg)) [(np, .inr (12, [.ref (q 1), .ref pg, .ref (q 0), .int (ni 0), .int (ni 1), .int (ni 2)])), (pg, .inr (6, [.ref g])), (g, .inr (1, [.ref bv, .int (0 : Int32), .int ml, .int cn])), (bv, .inl (cY, bm, .inl bt))] [4, 5, 6, 7, 8, 9, 10, 11, 12, 13, 14, 15, 16, 17, 18, 19, 20, 21, 22, 23, 24, 25, 26, 27, 28, 29, 30] [0, 1, 2, 3] [0, 1, 2, 3, 4, 5, 6, 7, 8, 9, 10, 11, 12, 13, 14, 15, 16, 17, 18, 19, 20, 21, 22, 23, 24, 25, 26, 27, 28, 29, 30] rfl (by decide) rfl (by decide) (by decide) (fun _ => rfl) (by decide)) [0, 1, 2] hK hP hD hS hA rfl (fun hPc hDc hKc hFc => va_runV (As := [.int p0]) (rest := [.ref (q 0)]) ⟨hx, hb, hml, hown, hts⟩ (t_X5_sorts l dC dI adK adV cI cB cS q qb n k H.size f t a b sg sL sf p0 _ hw) (cwV 1 hts gX10_brick_X5_sorts rfl rfl rfl (by decide +kernel) ⟨Nat.le_of_ble_eq_true rfl, Nat.le_of_ble_eq_true rfl⟩) (g_pV czb (q0 := 0) rfl rfl hPc hDc hKc (czc hZ hS hFc)) rfl rfl hl.1 rfl (lv_room (Nat.le_of_ble_eq_true rfl)) dX10_brick_176 ⟨Nat.le_of_ble_eq_true rfl, Nat.le_of_ble_eq_true rfl⟩) (fun r32 u31 H locs hw hP hD hS => ?_)
                    replace hP : va_P (dC, dI) vwCl ((W_N adK adV cI cB cS cY np pg g q qb n k ni bv bm ml cn bt f t a b sg) ++ va_pl sL (sgF sf)) H := hP
                    replace hD : va_D A ((W_N adK adV cI cB cS cY np pg g q qb n k ni bv bm ml cn bt f t a b sg) ++ va_pl sL (sgF sf)) := hD
                    refine g_ci (g_J.poolP (W2 := fun u33 : Unit => (W_N adK adV cI cB cS cY np pg g q qb n k ni bv bm ml cn bt f t a b sg)) (pl := va_pl sL (sgF sf)) (PL := fun u33 : Unit => va_pl sL (sgF sf)) (RX := fun u33 : Unit => (W_P adK adV cI cB cS q qb n k f t a b sg)) [(np, .inr (12, [.ref (q 1), .ref pg, .ref (q 0), .int (ni 0), .int (ni 1), .int (ni 2)])), (pg, .inr (6, [.ref g])), (g, .inr (1, [.ref bv, .int (0 : Int32), .int ml, .int cn])), (bv, .inl (cY, bm, .inl bt))] [4, 5, 6, 7, 8, 9, 10, 11, 12, 13, 14, 15, 16, 17, 18, 19, 20, 21, 22, 23, 24, 25, 26, 27, 28, 29, 30] [0, 1, 2, 3] [0, 1, 2, 3, 4, 5, 6, 7, 8, 9, 10, 11, 12, 13, 14, 15, 16, 17, 18, 19, 20, 21, 22, 23, 24, 25, 26, 27, 28, 29, 30] rfl (by decide) rfl (by decide) (by decide) (fun _ => rfl) (by decide)) [0, 1, 2] hK hP hD hS hA rfl (fun hPc hDc hKc hFc => va_runV (As := [.int r32]) (rest := []) ⟨hx, hb, hml, hown, hts⟩ (t_X5_nextTry l dC dI adK adV cI cB cS q qb n k H.size f t a b sg sL sf r32 _ hw) (cwV 1 hts gX10_brick_X5_nextTry rfl rfl rfl (by decide +kernel) ⟨Nat.le_of_ble_eq_true rfl, Nat.le_of_ble_eq_true rfl⟩) (g_pV czb (q0 := 0) rfl rfl hPc hDc hKc (czc hZ hS hFc)) rfl rfl hl.1 rfl (lv_room (Nat.le_of_ble_eq_true rfl)) dX10_brick_179 ⟨Nat.le_of_ble_eq_true rfl, Nat.le_of_ble_eq_true rfl⟩) (fun r34 u33 H locs hw hP hD hS => ?_)
                    replace hP : va_P (dC, dI) vwCl ((W_N adK adV cI cB cS cY np pg g q qb n k ni bv bm ml cn bt f t a b sg) ++ va_pl sL (sgF sf)) H := hP
                    replace hD : va_D A ((W_N adK adV cI cB cS cY np pg g q qb n k ni bv bm ml cn bt f t a b sg) ++ va_pl sL (sgF sf)) := hD
                    exact hret dX10_brick_182 hK hP hD hS hw
                  · replace hw := hw.2 hc30
                    refine lv_iconst (v := -1) hx hb dX10_brick_163 (by decide) ?_
                    refine lv_goto (tgt := 182) hx hb dX10_brick_164 (by decide) ?_
                    exact hret dX10_brick_182 hK hP hD hS hw
                · replace hw := hw.2 hc27
                  refine lv_tableOut (tgt := 183) hx hb dX10_brick_12 (by have z0 := lv_neT hc4 (a := 0) rfl; have z1 := lv_neT hc10 (a := 1) rfl; have z2 := lv_neT hc12 (a := 2) rfl; have z3 := lv_neT hc14 (a := 3) rfl; have z4 := lv_neT hc19 (a := 4) rfl; have z5 := lv_neT hc21 (a := 5) rfl; have z6 := lv_neT hc27 (a := 6) rfl; omega) (by decide) ?_
                  refine lv_bipush (v := -102) hx hb dX10_brick_183 (by decide) ?_
                  exact hret dX10_brick_185 hK hP hD hS hw
  · replace hw := hw.2 hc3
    refine lv_bipush (v := -101) hx hb dX10_brick_8 (by decide) ?_
    exact hret dX10_brick_10 hK hP hD hS hw

def w_X10_as (n : Nat) (k : Nat) (q : Nat → Nat) (ni : Nat → Int32) (bv : Nat) (bm : Nat) (ml : Int32) (cn : Int32) (bt : Nat → Int32) (f : Nat → Int32) (t : Nat) (a : Nat → Nat → Int32) (b : Nat → Nat → Int32) (sg : Nat → Nat → Option Nat) (sL : List Nat) (sf : Nat → Nat → Int32)  (p0 : Int32) (p1 : Int32) (Q : Int32 → Unit → Prop) : Prop := w_X10_isBrick n k q ni bv bm ml cn bt f t a b sg sL sf p0 (fun (r2 : Int32) (u1 : Unit) => (((¬ r2 = 0) → w_X10_isWithin p1 (0 : Int32) (4 : Int32) (fun (r4 : Int32) => (((¬ r4 = 0) → w_X10_isFigure n k q ni bv bm ml cn bt f t a b sg sL sf p0 (fun (r7 : Int32) (u6 : Unit) => (((¬ r7 = 0) → Q (-1 : Int32) ()) ∧ (r7 = 0 → w_X5_kindOf n k q f t a b sg sL sf p0 (fun (r10 : Int32) (u9 : Unit) => (vp_in r10 (5)) ∧ ∃ kd12 : Nat, (kAll r10.toNatClampNeg = some kd12) ∧ (kd12 < 5) ∧ w_X10_isOfKind  kd12 p1 (fun (r14 : Int32) (u13 : Unit) => (((¬ r14 = 0) → Q p0 ()) ∧ (r14 = 0 → Q (-1 : Int32) ())))))))) ∧ (r4 = 0 → Q (-102 : Int32) ())))) ∧ (r2 = 0 → Q (-101 : Int32) ())))
abbrev rmX10_as : Room := { frames := 2, cells := 0, slots := 0, locals := 43 }
set_option maxHeartbeats 4000000 in
set_option maxRecDepth 100000 in
theorem t_X10_as (l : Launch) (dC : Nat → ClassId) (dI : Nat → Nat → Nat) (adK : Nat → Nat) (adV : Nat → Nat) (cI : ClassId) (cB : ClassId) (cS : ClassId) (cY : ClassId) (np : Nat) (pg : Nat) (g : Nat) (q : Nat → Nat) (qb : Nat → Nat) (n : Nat) (k : Nat) (sz : Nat) (ni : Nat → Int32) (bv : Nat) (bm : Nat) (ml : Int32) (cn : Int32) (bt : Nat → Int32) (f : Nat → Int32) (t : Nat) (a : Nat → Nat → Int32) (b : Nat → Nat → Int32) (sg : Nat → Nat → Option Nat) (sL : List Nat) (sf : Nat → Nat → Int32)   (p0 : Int32) (p1 : Int32) (Q0 : Int32 → Unit → Prop) (hw : w_X10_as n k q ni bv bm ml cn bt f t a b sg sL sf  p0 p1 Q0) : Met l yX10_as wsX10_as rmX10_as (g_pre (cz adK adV) (dC, dI) vwCl [(cI, .int), (cB, .object RX0), (cS, .object RX7), (cY, .byte)] ((W_N adK adV cI cB cS cY np pg g q qb n k ni bv bm ml cn bt f t a b sg) ++ va_pl sL (sgF sf)) sz [.ref np, .int p0, .int p1]) (g_qi (dC, dI) vwCl [(cI, .int), (cB, .object RX0), (cS, .object RX7), (cY, .byte)] (fun u : Unit => ((W_N adK adV cI cB cS cY np pg g q qb n k ni bv bm ml cn bt f t a b sg) ++ va_pl sL (sgF sf))) Q0 (va_A ((W_N adK adV cI cB cS cY np pg g q qb n k ni bv bm ml cn bt f t a b sg) ++ va_pl sL (sgF sf)) sz)) 0 0 (va_A ((W_N adK adV cI cB cS cY np pg g q qb n k ni bv bm ml cn bt f t a b sg) ++ va_pl sL (sgF sf)) sz) := by
  refine g_starti (by decide) rfl (Nat.le_of_ble_eq_true rfl) ?_
  intro p e s m args below meth c A Q ls hx hb hml hown hts hin hK hP hD hA hS hZ hret hl
  obtain ⟨H, eH⟩ : ∃ H : Heap, H = s.heap := ⟨_, rfl⟩
  obtain ⟨locs, eL⟩ : ∃ L : List Loc, L = [] := ⟨_, rfl⟩
  have hS : va_S A s.heap H locs := by rw [eH, eL]; exact hS
  rw [← eH] at hP
  suffices hg : W p l e rmX10_as s m args below meth c H locs 0 0 Q (F0 m 0 ls []) by rw [eH, eL] at hg; exact hg
  clear eH eL
  replace hl : lv_has ls 3 [(0, .ref np), (1, .int p0), (2, .int p1)] := hl
  have hf22 := hts (.fieldLink RX10 22 "NumberPile" "kinds" "[LNumberPile$Brick;") (by decide +kernel)
  have hiX10 : ∀ w ∈ u_ws RX10 TX10 6, w ∈ wsX10_as := fun w h => List.mem_cons_of_mem _ (List.mem_append_left _ (List.mem_append_left _ (List.mem_append_right _ h)))
  have hf40 := hts (.fieldLink RX10 40 "NumberPile" "current" "LNumberPile$Pile;") (by decide +kernel)
  unfold w_X10_as at hw
  refine lv_aload_n hx hb dX10_as_0 rfl (lv_at hl 0 rfl) ?_
  refine lv_iload_n hx hb dX10_as_1 rfl (lv_at hl 1 rfl) ?_
  refine g_ci (g_J.poolP (W2 := fun u1 : Unit => (W_N adK adV cI cB cS cY np pg g q qb n k ni bv bm ml cn bt f t a b sg)) (pl := va_pl sL (sgF sf)) (PL := fun u1 : Unit => va_pl sL (sgF sf)) (RX := fun u1 : Unit => (W_N adK adV cI cB cS cY np pg g q qb n k ni bv bm ml cn bt f t a b sg)) [] [0, 1, 2, 3, 4, 5, 6, 7, 8, 9, 10, 11, 12, 13, 14, 15, 16, 17, 18, 19, 20, 21, 22, 23, 24, 25, 26, 27, 28, 29, 30] [] [0, 1, 2, 3, 4, 5, 6, 7, 8, 9, 10, 11, 12, 13, 14, 15, 16, 17, 18, 19, 20, 21, 22, 23, 24, 25, 26, 27, 28, 29, 30] rfl (by decide) rfl (by decide) (by decide) (fun _ => rfl) (by decide)) [0, 1, 2, 3] hK hP hD hS hA rfl (fun hPc hDc hKc hFc => va_runV (As := [.int p0]) (rest := []) ⟨hx, hb, hml, hown, hts⟩ (t_X10_isBrick l dC dI adK adV cI cB cS cY np pg g q qb n k H.size ni bv bm ml cn bt f t a b sg sL sf p0 _ hw) (cwV 1 hts gX10_as_X10_isBrick rfl rfl rfl (by decide +kernel) ⟨Nat.le_of_ble_eq_true rfl, Nat.le_of_ble_eq_true rfl⟩) (g_pV czb (q0 := 0) rfl rfl hPc hDc hKc (czc hZ hS hFc)) rfl rfl hl.1 rfl (lv_room (Nat.le_of_ble_eq_true rfl)) dX10_as_2 ⟨Nat.le_of_ble_eq_true rfl, Nat.le_of_ble_eq_true rfl⟩) (fun r2 u1 H locs hw hP hD hS => ?_)
  replace hP : va_P (dC, dI) vwCl ((W_N adK adV cI cB cS cY np pg g q qb n k ni bv bm ml cn bt f t a b sg) ++ va_pl sL (sgF sf)) H := hP
  replace hD : va_D A ((W_N adK adV cI cB cS cY np pg g q qb n k ni bv bm ml cn bt f t a b sg) ++ va_pl sL (sgF sf)) := hD
  refine lv_if_ne (tgt := 11) hx hb dX10_as_5 (by decide) (fun hc3 => ?_) (fun hc3 => ?_)
  · replace hw := hw.1 hc3
    refine lv_iload_n hx hb dX10_as_11 rfl (lv_at hl 2 rfl) ?_
    refine lv_iconst (v := 0) hx hb dX10_as_12 (by decide) ?_
    refine lv_iconst (v := 4) hx hb dX10_as_13 (by decide) ?_
    refine g_c0 (rest := []) (va_runS (As := [.int p1, .int (0 : Int32), .int (4 : Int32)]) (rest := []) ⟨hx, hb, hml, hown, hts⟩ (t_X10_isWithin l  p1 (0 : Int32) (4 : Int32) _ hw) (va_cwS 3 hts gX10_as_X10_isWithin rfl rfl rfl (by decide +kernel) ⟨Nat.le_of_ble_eq_true rfl, Nat.le_of_ble_eq_true rfl⟩) g_p0S rfl rfl hl.1 rfl (lv_room (Nat.le_of_ble_eq_true rfl)) dX10_as_14 ⟨Nat.le_of_ble_eq_true rfl, Nat.le_of_ble_eq_true rfl⟩) (fun r4 hw => ?_)
    refine lv_if_ne (tgt := 23) hx hb dX10_as_17 (by decide) (fun hc5 => ?_) (fun hc5 => ?_)
    · replace hw := hw.1 hc5
      refine lv_aload_n hx hb dX10_as_23 rfl (lv_at hl 0 rfl) ?_
      refine lv_iload_n hx hb dX10_as_24 rfl (lv_at hl 1 rfl) ?_
      refine g_ci (g_J.poolP (W2 := fun u6 : Unit => (W_N adK adV cI cB cS cY np pg g q qb n k ni bv bm ml cn bt f t a b sg)) (pl := va_pl sL (sgF sf)) (PL := fun u6 : Unit => va_pl sL (sgF sf)) (RX := fun u6 : Unit => (W_N adK adV cI cB cS cY np pg g q qb n k ni bv bm ml cn bt f t a b sg)) [] [0, 1, 2, 3, 4, 5, 6, 7, 8, 9, 10, 11, 12, 13, 14, 15, 16, 17, 18, 19, 20, 21, 22, 23, 24, 25, 26, 27, 28, 29, 30] [] [0, 1, 2, 3, 4, 5, 6, 7, 8, 9, 10, 11, 12, 13, 14, 15, 16, 17, 18, 19, 20, 21, 22, 23, 24, 25, 26, 27, 28, 29, 30] rfl (by decide) rfl (by decide) (by decide) (fun _ => rfl) (by decide)) [0, 1, 2, 3] hK hP hD hS hA rfl (fun hPc hDc hKc hFc => va_runV (As := [.int p0]) (rest := []) ⟨hx, hb, hml, hown, hts⟩ (t_X10_isFigure l dC dI adK adV cI cB cS cY np pg g q qb n k H.size ni bv bm ml cn bt f t a b sg sL sf p0 _ hw) (cwV 1 hts gX10_as_X10_isFigure rfl rfl rfl (by decide +kernel) ⟨Nat.le_of_ble_eq_true rfl, Nat.le_of_ble_eq_true rfl⟩) (g_pV czb (q0 := 0) rfl rfl hPc hDc hKc (czc hZ hS hFc)) rfl rfl hl.1 rfl (lv_room (Nat.le_of_ble_eq_true rfl)) dX10_as_25 ⟨Nat.le_of_ble_eq_true rfl, Nat.le_of_ble_eq_true rfl⟩) (fun r7 u6 H locs hw hP hD hS => ?_)
      replace hP : va_P (dC, dI) vwCl ((W_N adK adV cI cB cS cY np pg g q qb n k ni bv bm ml cn bt f t a b sg) ++ va_pl sL (sgF sf)) H := hP
      replace hD : va_D A ((W_N adK adV cI cB cS cY np pg g q qb n k ni bv bm ml cn bt f t a b sg) ++ va_pl sL (sgF sf)) := hD
      refine lv_if_ne (tgt := 51) hx hb dX10_as_28 (by decide) (fun hc8 => ?_) (fun hc8 => ?_)
      · replace hw := hw.1 hc8
        refine lv_iconst (v := -1) hx hb dX10_as_51 (by decide) ?_
        exact hret dX10_as_52 hK hP hD hS hw
      · replace hw := hw.2 hc8
        refine lv_aload_n hx hb dX10_as_31 rfl (lv_at hl 0 rfl) ?_
        refine va_get (D := (dC, dI)) (ci := 12) (v := .ref (q 1)) (C := RX10) (T := TX10) (N := 6) hx hb hts hiX10 hown hK hP 0 rfl rfl 0 (by decide) hf22 (fun _ h9 => h9) rfl dX10_as_32 ?_
        refine lv_aload_n hx hb dX10_as_35 rfl (lv_at hl 0 rfl) ?_
        refine va_get (D := (dC, dI)) (ci := 12) (v := .ref (q 0)) (C := RX10) (T := TX10) (N := 6) hx hb hts hiX10 hown hK hP 0 rfl rfl 2 (by decide) hf40 (fun _ h9 => h9) rfl dX10_as_36 ?_
        refine lv_iload_n hx hb dX10_as_39 rfl (lv_at hl 1 rfl) ?_
        refine g_ci (g_J.poolP (W2 := fun u9 : Unit => (W_N adK adV cI cB cS cY np pg g q qb n k ni bv bm ml cn bt f t a b sg)) (pl := va_pl sL (sgF sf)) (PL := fun u9 : Unit => va_pl sL (sgF sf)) (RX := fun u9 : Unit => (W_P adK adV cI cB cS q qb n k f t a b sg)) [(np, .inr (12, [.ref (q 1), .ref pg, .ref (q 0), .int (ni 0), .int (ni 1), .int (ni 2)])), (pg, .inr (6, [.ref g])), (g, .inr (1, [.ref bv, .int (0 : Int32), .int ml, .int cn])), (bv, .inl (cY, bm, .inl bt))] [4, 5, 6, 7, 8, 9, 10, 11, 12, 13, 14, 15, 16, 17, 18, 19, 20, 21, 22, 23, 24, 25, 26, 27, 28, 29, 30] [0, 1, 2, 3] [0, 1, 2, 3, 4, 5, 6, 7, 8, 9, 10, 11, 12, 13, 14, 15, 16, 17, 18, 19, 20, 21, 22, 23, 24, 25, 26, 27, 28, 29, 30] rfl (by decide) rfl (by decide) (by decide) (fun _ => rfl) (by decide)) [0, 1, 2] hK hP hD hS hA rfl (fun hPc hDc hKc hFc => va_runV (As := [.int p0]) (rest := [.ref (q 1)]) ⟨hx, hb, hml, hown, hts⟩ (t_X5_kindOf l dC dI adK adV cI cB cS q qb n k H.size f t a b sg sL sf p0 _ hw) (cwV 1 hts gX10_as_X5_kindOf rfl rfl rfl (by decide +kernel) ⟨Nat.le_of_ble_eq_true rfl, Nat.le_of_ble_eq_true rfl⟩) (g_pV czb (q0 := 0) rfl rfl hPc hDc hKc (czc hZ hS hFc)) rfl rfl hl.1 rfl (lv_room (Nat.le_of_ble_eq_true rfl)) dX10_as_40 ⟨Nat.le_of_ble_eq_true rfl, Nat.le_of_ble_eq_true rfl⟩) (fun r10 u9 H locs hw hP hD hS => ?_)
        replace hP : va_P (dC, dI) vwCl ((W_N adK adV cI cB cS cY np pg g q qb n k ni bv bm ml cn bt f t a b sg) ++ va_pl sL (sgF sf)) H := hP
        replace hD : va_D A ((W_N adK adV cI cB cS cY np pg g q qb n k ni bv bm ml cn bt f t a b sg) ++ va_pl sL (sgF sf)) := hD
        obtain ⟨hb11, hw⟩ := hw
        refine va_aldq hx hb hK hP 5 1 rfl rfl hb11 dX10_as_43 ?_
        obtain ⟨kd12, hkd12, gkd12, hw⟩ := hw
        refine W.eq (congrArg (fun v => F0 m 44 ls (v :: [])) (bk_rf (qb := qb) hkd12)) ?_
        refine lv_iload_n hx hb dX10_as_44 rfl (lv_at hl 2 rfl) ?_
        refine g_ci (g_J.poolQ (W2 := fun u13 : Unit => (W_N adK adV cI cB cS cY np pg g q qb n k ni bv bm ml cn bt f t a b sg)) (pl := va_pl sL (sgF sf)) [(np, .inr (12, [.ref (q 1), .ref pg, .ref (q 0), .int (ni 0), .int (ni 1), .int (ni 2)])), (pg, .inr (6, [.ref g])), (g, .inr (1, [.ref bv, .int (0 : Int32), .int ml, .int cn])), (bv, .inl (cY, bm, .inl bt)), ((q 0), .inr (7, [.int (nI n), .int (nI k), .ref (q 1), .ref (q 2), .ref (q 3), .ref (q 8), .int (f 0), .ref (q 13), .ref (q 14), .ref (q 15), .ref (q 18), .ref (q 21), .int (f 1), .ref (q 17), .int (f 2)])), ((q 1), .inl (cB, (5), .inr (.inr (.inr (.inr (fun i => (kAll i).map qb)))))), ((q 2), .inl (cI, k, .inl (a 0))), ((q 3), .inr (10, [.ref (q 4), .ref (q 5), .ref (q 6), .ref (q 7), .int (f 3), .int (f 4)])), ((q 4), .inl (cI, (k - n), .inl (b 0))), ((q 5), .inl (cI, n, .inl (a 1))), ((q 6), .inl (cI, k, .inl (a 2))), ((q 7), .inl (cS, (6), .inr (.inr (.inr (.inr (sg 0)))))), ((q 8), .inr (10, [.ref (q 9), .ref (q 10), .ref (q 11), .ref (q 12), .int (f 5), .int (f 6)])), ((q 9), .inl (cI, (k - n), .inl (b 1))), ((q 10), .inl (cI, n, .inl (a 3))), ((q 11), .inl (cI, k, .inl (a 4))), ((q 12), .inl (cS, (6), .inr (.inr (.inr (.inr (sg 1)))))), ((q 13), .inl (cI, k, .inl (a 5))), ((q 14), .inl (cI, k, .inl (a 6))), ((q 15), .inr (8, [.int (nI n), .ref (q 1), .ref (q 4), .ref (q 16), .ref t, .int (f 7)])), ((q 16), .inl (cI, k, .inl (a 8))), ((q 17), .inl (cI, (10 * n), .inl (a 7))), ((q 18), .inr (14, [.ref (q 19), .ref (q 20)])), ((q 19), .inl (cI, (k + 1), .inl (b 2))), ((q 20), .inl (cI, (toL n), .inl (b 3))), ((q 21), .inl (cI, k, .inl (b 4)))] [26, 27, 28, 29, 30] [0, 1, 2, 3, 4, 5, 6, 7, 8, 9, 10, 11, 12, 13, 14, 15, 16, 17, 18, 19, 20, 21, 22, 23, 24, 25] [0, 1, 2, 3, 4, 5, 6, 7, 8, 9, 10, 11, 12, 13, 14, 15, 16, 17, 18, 19, 20, 21, 22, 23, 24, 25, 26, 27, 28, 29, 30] rfl (by decide) rfl (by decide) (by decide) (fun _ => rfl) (by decide)) [] hK hP hD hS hA rfl (fun hPc hDc hKc hFc => va_runS (As := [.ref (qb kd12), .int p1]) (rest := []) ⟨hx, hb, hml, hown, hts⟩ (t_X10_isOfKind l dC dI adK adV qb H.size  kd12 gkd12 p1 _ hw) (va_cwS 2 hts gX10_as_X10_isOfKind rfl rfl rfl (by decide +kernel) ⟨Nat.le_of_ble_eq_true rfl, Nat.le_of_ble_eq_true rfl⟩) (g_pS czb hPc hDc hKc (czc hZ hS hFc)) rfl rfl hl.1 rfl (lv_room (Nat.le_of_ble_eq_true rfl)) dX10_as_45 ⟨Nat.le_of_ble_eq_true rfl, Nat.le_of_ble_eq_true rfl⟩) (fun r14 u13 H locs hw hP hD hS => ?_)
        replace hP : va_P (dC, dI) vwCl ((W_N adK adV cI cB cS cY np pg g q qb n k ni bv bm ml cn bt f t a b sg) ++ va_pl sL (sgF sf)) H := hP
        replace hD : va_D A ((W_N adK adV cI cB cS cY np pg g q qb n k ni bv bm ml cn bt f t a b sg) ++ va_pl sL (sgF sf)) := hD
        refine lv_if_ne (tgt := 53) hx hb dX10_as_48 (by decide) (fun hc15 => ?_) (fun hc15 => ?_)
        · replace hw := hw.1 hc15
          refine lv_iload_n hx hb dX10_as_53 rfl (lv_at hl 1 rfl) ?_
          exact hret dX10_as_54 hK hP hD hS hw
        · replace hw := hw.2 hc15
          refine lv_iconst (v := -1) hx hb dX10_as_51 (by decide) ?_
          exact hret dX10_as_52 hK hP hD hS hw
    · replace hw := hw.2 hc5
      refine lv_bipush (v := -102) hx hb dX10_as_20 (by decide) ?_
      exact hret dX10_as_22 hK hP hD hS hw
  · replace hw := hw.2 hc3
    refine lv_bipush (v := -101) hx hb dX10_as_8 (by decide) ?_
    exact hret dX10_as_10 hK hP hD hS hw

def w_X10_makes (n : Nat) (k : Nat) (q : Nat → Nat) (ni : Nat → Int32) (bv : Nat) (bm : Nat) (ml : Int32) (cn : Int32) (bt : Nat → Int32) (f : Nat → Int32) (t : Nat) (a : Nat → Nat → Int32) (b : Nat → Nat → Int32) (sg : Nat → Nat → Option Nat) (sL : List Nat) (sf : Nat → Nat → Int32)  (p0 : Int32) (p1 : Int32) (p2 : Int32) (Q : Int32 → Unit → Prop) : Prop := w_X10_isAbove n k q ni bv bm ml cn bt f t a b sg sL sf p0 (fun (r2 : Int32) (u1 : Unit) => (((¬ r2 = 0) → w_X10_isDigit p1 (fun (r4 : Int32) => (((r4 = 0) → Q (-102 : Int32) ()) ∧ (¬ (r4 = 0) → w_X10_isDigit p2 (fun (r6 : Int32) => (((¬ r6 = 0) → w_X5_kindOf n k q f t a b sg sL sf p0 (fun (r9 : Int32) (u8 : Unit) => (vp_in r9 (5)) ∧ ∃ kd11 : Nat, (kAll r9.toNatClampNeg = some kd11) ∧ (kd11 < 5) ∧ wk_made kd11 p1 p2 (fun (r12 : Int32) => Q r12 ()))) ∧ (r6 = 0 → Q (-102 : Int32) ()))))))) ∧ (r2 = 0 → Q (-101 : Int32) ())))
abbrev rmX10_makes : Room := { frames := 2, cells := 0, slots := 0, locals := 62 }
set_option maxHeartbeats 4000000 in
set_option maxRecDepth 100000 in
theorem t_X10_makes (l : Launch) (dC : Nat → ClassId) (dI : Nat → Nat → Nat) (adK : Nat → Nat) (adV : Nat → Nat) (cI : ClassId) (cB : ClassId) (cS : ClassId) (cY : ClassId) (np : Nat) (pg : Nat) (g : Nat) (q : Nat → Nat) (qb : Nat → Nat) (n : Nat) (k : Nat) (sz : Nat) (ni : Nat → Int32) (bv : Nat) (bm : Nat) (ml : Int32) (cn : Int32) (bt : Nat → Int32) (f : Nat → Int32) (t : Nat) (a : Nat → Nat → Int32) (b : Nat → Nat → Int32) (sg : Nat → Nat → Option Nat) (sL : List Nat) (sf : Nat → Nat → Int32)   (p0 : Int32) (p1 : Int32) (p2 : Int32) (Q0 : Int32 → Unit → Prop) (hw : w_X10_makes n k q ni bv bm ml cn bt f t a b sg sL sf  p0 p1 p2 Q0) : Met l yX10_makes wsX10_makes rmX10_makes (g_pre (cz adK adV) (dC, dI) vwCl [(cI, .int), (cB, .object RX0), (cS, .object RX7), (cY, .byte)] ((W_N adK adV cI cB cS cY np pg g q qb n k ni bv bm ml cn bt f t a b sg) ++ va_pl sL (sgF sf)) sz [.ref np, .int p0, .int p1, .int p2]) (g_qi (dC, dI) vwCl [(cI, .int), (cB, .object RX0), (cS, .object RX7), (cY, .byte)] (fun u : Unit => ((W_N adK adV cI cB cS cY np pg g q qb n k ni bv bm ml cn bt f t a b sg) ++ va_pl sL (sgF sf))) Q0 (va_A ((W_N adK adV cI cB cS cY np pg g q qb n k ni bv bm ml cn bt f t a b sg) ++ va_pl sL (sgF sf)) sz)) 0 0 (va_A ((W_N adK adV cI cB cS cY np pg g q qb n k ni bv bm ml cn bt f t a b sg) ++ va_pl sL (sgF sf)) sz) := by
  refine g_starti (by decide) rfl (Nat.le_of_ble_eq_true rfl) ?_
  intro p e s m args below meth c A Q ls hx hb hml hown hts hin hK hP hD hA hS hZ hret hl
  obtain ⟨H, eH⟩ : ∃ H : Heap, H = s.heap := ⟨_, rfl⟩
  obtain ⟨locs, eL⟩ : ∃ L : List Loc, L = [] := ⟨_, rfl⟩
  have hS : va_S A s.heap H locs := by rw [eH, eL]; exact hS
  rw [← eH] at hP
  suffices hg : W p l e rmX10_makes s m args below meth c H locs 0 0 Q (F0 m 0 ls []) by rw [eH, eL] at hg; exact hg
  clear eH eL
  replace hl : lv_has ls 4 [(0, .ref np), (1, .int p0), (2, .int p1), (3, .int p2)] := hl
  have hf22 := hts (.fieldLink RX10 22 "NumberPile" "kinds" "[LNumberPile$Brick;") (by decide +kernel)
  have hiX10 : ∀ w ∈ u_ws RX10 TX10 6, w ∈ wsX10_makes := fun w h => List.mem_cons_of_mem _ (List.mem_append_left _ (List.mem_append_left _ (List.mem_append_right _ h)))
  have hf40 := hts (.fieldLink RX10 40 "NumberPile" "current" "LNumberPile$Pile;") (by decide +kernel)
  have bcmade := (show Cond.code yX0_made cX0_made 3 (some .int) ∈ wsX10_makes by decide +kernel)
  unfold w_X10_makes at hw
  refine lv_aload_n hx hb dX10_makes_0 rfl (lv_at hl 0 rfl) ?_
  refine lv_iload_n hx hb dX10_makes_1 rfl (lv_at hl 1 rfl) ?_
  refine g_ci (g_J.poolP (W2 := fun u1 : Unit => (W_N adK adV cI cB cS cY np pg g q qb n k ni bv bm ml cn bt f t a b sg)) (pl := va_pl sL (sgF sf)) (PL := fun u1 : Unit => va_pl sL (sgF sf)) (RX := fun u1 : Unit => (W_N adK adV cI cB cS cY np pg g q qb n k ni bv bm ml cn bt f t a b sg)) [] [0, 1, 2, 3, 4, 5, 6, 7, 8, 9, 10, 11, 12, 13, 14, 15, 16, 17, 18, 19, 20, 21, 22, 23, 24, 25, 26, 27, 28, 29, 30] [] [0, 1, 2, 3, 4, 5, 6, 7, 8, 9, 10, 11, 12, 13, 14, 15, 16, 17, 18, 19, 20, 21, 22, 23, 24, 25, 26, 27, 28, 29, 30] rfl (by decide) rfl (by decide) (by decide) (fun _ => rfl) (by decide)) [0, 1, 2, 3] hK hP hD hS hA rfl (fun hPc hDc hKc hFc => va_runV (As := [.int p0]) (rest := []) ⟨hx, hb, hml, hown, hts⟩ (t_X10_isAbove l dC dI adK adV cI cB cS cY np pg g q qb n k H.size ni bv bm ml cn bt f t a b sg sL sf p0 _ hw) (cwV 1 hts gX10_makes_X10_isAbove rfl rfl rfl (by decide +kernel) ⟨Nat.le_of_ble_eq_true rfl, Nat.le_of_ble_eq_true rfl⟩) (g_pV czb (q0 := 0) rfl rfl hPc hDc hKc (czc hZ hS hFc)) rfl rfl hl.1 rfl (lv_room (Nat.le_of_ble_eq_true rfl)) dX10_makes_2 ⟨Nat.le_of_ble_eq_true rfl, Nat.le_of_ble_eq_true rfl⟩) (fun r2 u1 H locs hw hP hD hS => ?_)
  replace hP : va_P (dC, dI) vwCl ((W_N adK adV cI cB cS cY np pg g q qb n k ni bv bm ml cn bt f t a b sg) ++ va_pl sL (sgF sf)) H := hP
  replace hD : va_D A ((W_N adK adV cI cB cS cY np pg g q qb n k ni bv bm ml cn bt f t a b sg) ++ va_pl sL (sgF sf)) := hD
  refine lv_if_ne (tgt := 11) hx hb dX10_makes_5 (by decide) (fun hc3 => ?_) (fun hc3 => ?_)
  · replace hw := hw.1 hc3
    refine lv_iload_n hx hb dX10_makes_11 rfl (lv_at hl 2 rfl) ?_
    refine g_c0 (rest := []) (va_runS (As := [.int p1]) (rest := []) ⟨hx, hb, hml, hown, hts⟩ (t_X10_isDigit l  p1 _ hw) (va_cwS 1 hts gX10_makes_X10_isDigit rfl rfl rfl (by decide +kernel) ⟨Nat.le_of_ble_eq_true rfl, Nat.le_of_ble_eq_true rfl⟩) g_p0S rfl rfl hl.1 rfl (lv_room (Nat.le_of_ble_eq_true rfl)) dX10_makes_12 ⟨Nat.le_of_ble_eq_true rfl, Nat.le_of_ble_eq_true rfl⟩) (fun r4 hw => ?_)
    refine lv_if_eq (tgt := 25) hx hb dX10_makes_15 (by decide) (fun hc5 => ?_) (fun hc5 => ?_)
    · replace hw := hw.1 hc5
      refine lv_bipush (v := -102) hx hb dX10_makes_25 (by decide) ?_
      exact hret dX10_makes_27 hK hP hD hS hw
    · replace hw := hw.2 hc5
      refine lv_iload_n hx hb dX10_makes_18 rfl (lv_at hl 3 rfl) ?_
      refine g_c0 (rest := []) (va_runS (As := [.int p2]) (rest := []) ⟨hx, hb, hml, hown, hts⟩ (t_X10_isDigit l  p2 _ hw) (va_cwS 1 hts gX10_makes_X10_isDigit rfl rfl rfl (by decide +kernel) ⟨Nat.le_of_ble_eq_true rfl, Nat.le_of_ble_eq_true rfl⟩) g_p0S rfl rfl hl.1 rfl (lv_room (Nat.le_of_ble_eq_true rfl)) dX10_makes_19 ⟨Nat.le_of_ble_eq_true rfl, Nat.le_of_ble_eq_true rfl⟩) (fun r6 hw => ?_)
      refine lv_if_ne (tgt := 28) hx hb dX10_makes_22 (by decide) (fun hc7 => ?_) (fun hc7 => ?_)
      · replace hw := hw.1 hc7
        refine lv_aload_n hx hb dX10_makes_28 rfl (lv_at hl 0 rfl) ?_
        refine va_get (D := (dC, dI)) (ci := 12) (v := .ref (q 1)) (C := RX10) (T := TX10) (N := 6) hx hb hts hiX10 hown hK hP 0 rfl rfl 0 (by decide) hf22 (fun _ h9 => h9) rfl dX10_makes_29 ?_
        refine lv_aload_n hx hb dX10_makes_32 rfl (lv_at hl 0 rfl) ?_
        refine va_get (D := (dC, dI)) (ci := 12) (v := .ref (q 0)) (C := RX10) (T := TX10) (N := 6) hx hb hts hiX10 hown hK hP 0 rfl rfl 2 (by decide) hf40 (fun _ h9 => h9) rfl dX10_makes_33 ?_
        refine lv_iload_n hx hb dX10_makes_36 rfl (lv_at hl 1 rfl) ?_
        refine g_ci (g_J.poolP (W2 := fun u8 : Unit => (W_N adK adV cI cB cS cY np pg g q qb n k ni bv bm ml cn bt f t a b sg)) (pl := va_pl sL (sgF sf)) (PL := fun u8 : Unit => va_pl sL (sgF sf)) (RX := fun u8 : Unit => (W_P adK adV cI cB cS q qb n k f t a b sg)) [(np, .inr (12, [.ref (q 1), .ref pg, .ref (q 0), .int (ni 0), .int (ni 1), .int (ni 2)])), (pg, .inr (6, [.ref g])), (g, .inr (1, [.ref bv, .int (0 : Int32), .int ml, .int cn])), (bv, .inl (cY, bm, .inl bt))] [4, 5, 6, 7, 8, 9, 10, 11, 12, 13, 14, 15, 16, 17, 18, 19, 20, 21, 22, 23, 24, 25, 26, 27, 28, 29, 30] [0, 1, 2, 3] [0, 1, 2, 3, 4, 5, 6, 7, 8, 9, 10, 11, 12, 13, 14, 15, 16, 17, 18, 19, 20, 21, 22, 23, 24, 25, 26, 27, 28, 29, 30] rfl (by decide) rfl (by decide) (by decide) (fun _ => rfl) (by decide)) [0, 1, 2] hK hP hD hS hA rfl (fun hPc hDc hKc hFc => va_runV (As := [.int p0]) (rest := [.ref (q 1)]) ⟨hx, hb, hml, hown, hts⟩ (t_X5_kindOf l dC dI adK adV cI cB cS q qb n k H.size f t a b sg sL sf p0 _ hw) (cwV 1 hts gX10_makes_X5_kindOf rfl rfl rfl (by decide +kernel) ⟨Nat.le_of_ble_eq_true rfl, Nat.le_of_ble_eq_true rfl⟩) (g_pV czb (q0 := 0) rfl rfl hPc hDc hKc (czc hZ hS hFc)) rfl rfl hl.1 rfl (lv_room (Nat.le_of_ble_eq_true rfl)) dX10_makes_37 ⟨Nat.le_of_ble_eq_true rfl, Nat.le_of_ble_eq_true rfl⟩) (fun r9 u8 H locs hw hP hD hS => ?_)
        replace hP : va_P (dC, dI) vwCl ((W_N adK adV cI cB cS cY np pg g q qb n k ni bv bm ml cn bt f t a b sg) ++ va_pl sL (sgF sf)) H := hP
        replace hD : va_D A ((W_N adK adV cI cB cS cY np pg g q qb n k ni bv bm ml cn bt f t a b sg) ++ va_pl sL (sgF sf)) := hD
        obtain ⟨hb10, hw⟩ := hw
        refine va_aldq hx hb hK hP 5 1 rfl rfl hb10 dX10_makes_40 ?_
        obtain ⟨kd11, hkd11, gkd11, hw⟩ := hw
        refine W.eq (congrArg (fun v => F0 m 41 ls (v :: [])) (bk_rf (qb := qb) hkd11)) ?_
        refine lv_iload_n hx hb dX10_makes_41 rfl (lv_at hl 2 rfl) ?_
        refine lv_iload_n hx hb dX10_makes_42 rfl (lv_at hl 3 rfl) ?_
        refine bk_made (rest := []) gkd11 hw (fun hw => va_runV (As := [.int p1, .int p2]) (rest := []) ⟨hx, hb, hml, hown, hts⟩ (t_X0_made l (qb 0) p1 p2 _ hw) (cwV 2 hts gX10_makes_X0_made rfl rfl rfl (by decide +kernel) ⟨Nat.le_of_ble_eq_true rfl, Nat.le_of_ble_eq_true rfl⟩) (g_p0V hK hP (q0 := 26) rfl rfl) rfl rfl hl.1 rfl (lv_room (Nat.le_of_ble_eq_true rfl)) dX10_makes_43 ⟨Nat.le_of_ble_eq_true rfl, Nat.le_of_ble_eq_true rfl⟩) (fun hw => va_runU (As := [.int p1, .int p2]) (rest := []) ⟨hx, hb, hml, hown, hts⟩ (t_X1_made l (qb 1) p1 p2 _ hw) (va_cwO 2 hts gX10_makes_X1_made_u127X1 rfl rfl rfl bcmade (by decide +kernel) ⟨Nat.le_of_ble_eq_true rfl, Nat.le_of_ble_eq_true rfl⟩) (g_p0V hK hP (q0 := 27) rfl rfl) rfl rfl hl.1 rfl (lv_room (Nat.le_of_ble_eq_true rfl)) dX10_makes_43 ⟨Nat.le_of_ble_eq_true rfl, Nat.le_of_ble_eq_true rfl⟩) (fun hw => va_runU (As := [.int p1, .int p2]) (rest := []) ⟨hx, hb, hml, hown, hts⟩ (t_X3_made l (qb 2) p1 p2 _ hw) (va_cwO 2 hts gX10_makes_X3_made_u127X3 rfl rfl rfl bcmade (by decide +kernel) ⟨Nat.le_of_ble_eq_true rfl, Nat.le_of_ble_eq_true rfl⟩) (g_p0V hK hP (q0 := 28) rfl rfl) rfl rfl hl.1 rfl (lv_room (Nat.le_of_ble_eq_true rfl)) dX10_makes_43 ⟨Nat.le_of_ble_eq_true rfl, Nat.le_of_ble_eq_true rfl⟩) (fun hw => va_runU (As := [.int p1, .int p2]) (rest := []) ⟨hx, hb, hml, hown, hts⟩ (t_X9_made l (qb 3) p1 p2 _ hw) (va_cwO 2 hts gX10_makes_X9_made_u127X9 rfl rfl rfl bcmade (by decide +kernel) ⟨Nat.le_of_ble_eq_true rfl, Nat.le_of_ble_eq_true rfl⟩) (g_p0V hK hP (q0 := 29) rfl rfl) rfl rfl hl.1 rfl (lv_room (Nat.le_of_ble_eq_true rfl)) dX10_makes_43 ⟨Nat.le_of_ble_eq_true rfl, Nat.le_of_ble_eq_true rfl⟩) (fun hw => va_runU (As := [.int p1, .int p2]) (rest := []) ⟨hx, hb, hml, hown, hts⟩ (t_X2_made l (qb 4) p1 p2 _ hw) (va_cwO 2 hts gX10_makes_X2_made_u127X2 rfl rfl rfl bcmade (by decide +kernel) ⟨Nat.le_of_ble_eq_true rfl, Nat.le_of_ble_eq_true rfl⟩) (bk_pR hK hP (q0 := 30) rfl rfl) rfl rfl hl.1 rfl (lv_room (Nat.le_of_ble_eq_true rfl)) dX10_makes_43 ⟨Nat.le_of_ble_eq_true rfl, Nat.le_of_ble_eq_true rfl⟩) (fun r12 hw => ?_)
        exact hret dX10_makes_46 hK hP hD hS hw
      · replace hw := hw.2 hc7
        refine lv_bipush (v := -102) hx hb dX10_makes_25 (by decide) ?_
        exact hret dX10_makes_27 hK hP hD hS hw
  · replace hw := hw.2 hc3
    refine lv_bipush (v := -101) hx hb dX10_makes_8 (by decide) ?_
    exact hret dX10_makes_10 hK hP hD hS hw
