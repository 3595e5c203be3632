def w_J4_setLength_d00df  (bv : Nat) (bm : Nat) (ml : Int32) (cn : Int32) (bt : Nat → Int32)  (p0 : Int32) (Q : ((Nat) × (Nat) × (Int32) × (Int32) × (Nat → Int32)) → Prop) : Prop := w_J5_setLength_d00df bv bm ml cn bt  p0 (fun (u1 : ((Nat) × (Nat) × (Int32) × (Int32) × (Nat → Int32))) => Q (u1.1, u1.2.1, u1.2.2.1, u1.2.2.2.1, u1.2.2.2.2))
abbrev rmJ4_setLength_d00df : Room := { frames := 5, cells := 1, slots := 40, locals := 131 }
set_option maxHeartbeats 4000000 in
set_option maxRecDepth 100000 in
theorem t_J4_setLength_d00df (l : Launch) (dC : Nat → ClassId) (dI : Nat → Nat → Nat) (adK : Nat → Nat) (adV : Nat → Nat) (cY : ClassId) (h : Nat) (sz : Nat) (bv : Nat) (bm : Nat) (ml : Int32) (cn : Int32) (bt : Nat → Int32)   (p0 : Int32) (Q0 : ((Nat) × (Nat) × (Int32) × (Int32) × (Nat → Int32)) → Prop) (hw : w_J4_setLength_d00df  bv bm ml cn bt  p0 Q0) : Met l yJ4_setLength_d00df wsJ4_setLength_d00df rmJ4_setLength_d00df (g_pre (cz adK adV) (dC, dI) vwCl [(cY, .byte)] (W_B adK adV cY h bv bm ml cn bt) sz [.ref h, .int p0]) (g_qv (dC, dI) vwCl [(cY, .byte)] (fun u : ((Nat) × (Nat) × (Int32) × (Int32) × (Nat → Int32)) => (W_B adK adV cY h (u.1) (u.2.1) (u.2.2.1) (u.2.2.2.1) (u.2.2.2.2))) Q0 (va_A (W_B adK adV cY h bv bm ml cn bt) sz)) 1 40 (va_A (W_B adK adV cY h bv bm ml cn bt) sz) := by
  refine g_startv (by decide) rfl (Nat.le_of_ble_eq_true rfl) ?_
  intro p e s m args below meth c A Q ls hx hb hml hown hts hin hK hP hD hA hS hZ hret hl
  obtain ⟨H, eH⟩ : ∃ H : Heap, H = s.heap := ⟨_, rfl⟩
  obtain ⟨locs, eL⟩ : ∃ L : List Loc, L = [] := ⟨_, rfl⟩
  have hS : va_S A s.heap H locs := by rw [eH, eL]; exact hS
  rw [← eH] at hP
  suffices hg : W p l e rmJ4_setLength_d00df s m args below meth c H locs 0 0 Q (F0 m 0 ls []) by rw [eH, eL] at hg; exact hg
  clear eH eL
  replace hl : lv_has ls 2 [(0, .ref h), (1, .int p0)] := hl
  unfold w_J4_setLength_d00df at hw
  refine lv_aload_n hx hb dJ4_setLength_d00df_0 rfl (lv_at hl 0 rfl) ?_
  refine lv_iload_n hx hb dJ4_setLength_d00df_1 rfl (lv_at hl 1 rfl) ?_
  refine g_cv (g_J.plain (W2 := fun u1 : ((Nat) × (Nat) × (Int32) × (Int32) × (Nat → Int32)) => (W_B adK adV cY h (u1.1) (u1.2.1) (u1.2.2.1) (u1.2.2.2.1) (u1.2.2.2.2))) [] [0, 1] [] [0, 1] rfl (by decide) rfl (by decide) (by decide) (fun _ => rfl) (by decide)) [0] hK hP hD hS hA rfl (fun hPc hDc hKc hFc => va_runSU (As := [.int p0]) (rest := []) (hK.1 1 _ rfl).2 ⟨hx, hb, hml, hown, hts⟩ (t_J5_setLength_d00df l dC dI adK adV cY h H.size bv bm ml cn bt  p0 _ hw) (va_cwSU 1 hts gJ4_setLength_d00df_J5_setLength_d00df_s333 rfl rfl rfl (by decide +kernel) ⟨Nat.le_of_ble_eq_true rfl, Nat.le_of_ble_eq_true rfl⟩) (g_pV czb (q0 := 0) rfl rfl hPc hDc hKc (czc hZ hS hFc)) rfl rfl hl.1 rfl (lv_room (Nat.le_of_ble_eq_true rfl)) dJ4_setLength_d00df_2 ⟨Nat.le_of_ble_eq_true rfl, Nat.le_of_ble_eq_true rfl⟩) (fun u1 H locs hw hP hD hS => ?_)
  refine W.widen (k := 1) (n := 40) (Nat.le_of_ble_eq_true rfl) (Nat.le_of_ble_eq_true rfl) ?_
  replace hP : va_P (dC, dI) vwCl (W_B adK adV cY h (u1.1) (u1.2.1) (u1.2.2.1) (u1.2.2.2.1) (u1.2.2.2.2)) H := hP
  replace hD : va_D A (W_B adK adV cY h (u1.1) (u1.2.1) (u1.2.2.1) (u1.2.2.2.1) (u1.2.2.2.2)) := hD
  exact hret dJ4_setLength_d00df_5 hK hP hD hS hw
