def w_J0_indexOf_0f7a4 (sm : Nat) (sb : Nat → Int32)   (p0 : Int32) (Q : Int32 → Unit → Prop) : Prop := w_J0_indexOf_7cf53 sm sb  p0 (0 : Int32) (fun (r2 : Int32) (u1 : Unit) => Q r2 ())
abbrev rmJ0_indexOf_0f7a4 : Room := { frames := 3, cells := 0, slots := 0, locals := 85 }
set_option maxHeartbeats 4000000 in
set_option maxRecDepth 100000 in
theorem t_J0_indexOf_0f7a4 (l : Launch) (dC : Nat → ClassId) (dI : Nat → Nat → Nat) (adK : Nat → Nat) (adV : Nat → Nat) (sq : Nat) (sv : Nat) (sm : Nat) (sb : Nat → Int32) (sz : Nat)    (p0 : Int32) (Q0 : Int32 → Unit → Prop) (hw : w_J0_indexOf_0f7a4 sm sb   p0 Q0) : Met l yJ0_indexOf_0f7a4 wsJ0_indexOf_0f7a4 rmJ0_indexOf_0f7a4 (g_pre (czs adK adV sq sv sm sb) (dC, dI) vwCl [] (W_S adK adV sq sv sm sb ) sz [.ref sq, .int p0]) (g_qi (dC, dI) vwCl [] (fun u : Unit => (W_S adK adV sq sv sm sb )) Q0 (va_A (W_S adK adV sq sv sm sb ) sz)) 0 0 (va_A (W_S adK adV sq sv sm sb ) sz) := by
  refine g_starti (by decide) rfl (Nat.le_of_ble_eq_true rfl) ?_
  intro p e s m args below meth c A Q ls hx hb hml hown hts hin hK hP hD hA hS hZ hret hl
  obtain ⟨H, eH⟩ : ∃ H : Heap, H = s.heap := ⟨_, rfl⟩
  obtain ⟨locs, eL⟩ : ∃ L : List Loc, L = [] := ⟨_, rfl⟩
  have hS : va_S A s.heap H locs := by rw [eH, eL]; exact hS
  rw [← eH] at hP
  suffices hg : W p l e rmJ0_indexOf_0f7a4 s m args below meth c H locs 0 0 Q (F0 m 0 ls []) by rw [eH, eL] at hg; exact hg
  clear eH eL
  replace hl : lv_has ls 2 [(0, .ref sq), (1, .int p0)] := hl
  unfold w_J0_indexOf_0f7a4 at hw
  refine lv_aload_n hx hb dJ0_indexOf_0f7a4_0 rfl (lv_at hl 0 rfl) ?_
  refine lv_iload_n hx hb dJ0_indexOf_0f7a4_1 rfl (lv_at hl 1 rfl) ?_
  refine lv_iconst (v := 0) hx hb dJ0_indexOf_0f7a4_2 (by decide) ?_
  refine g_ci (g_J.plain (W2 := fun u1 : Unit => (W_S adK adV sq sv sm sb )) [] [] [] [] rfl (by decide) rfl (by decide) (by decide) (fun _ => rfl) (by decide)) [] hK hP hD hS hA rfl (fun hPc hDc hKc hFc => va_runV (As := [.int p0, .int (0 : Int32)]) (rest := []) ⟨hx, hb, hml, hown, hts⟩ (t_J0_indexOf_7cf53 l dC dI adK adV sq sv sm sb H.size   p0 (0 : Int32) _ hw) (cwV 2 hts gJ0_indexOf_0f7a4_J0_indexOf_7cf53 rfl rfl rfl (by decide +kernel) ⟨Nat.le_of_ble_eq_true rfl, Nat.le_of_ble_eq_true rfl⟩) (g_pVs czsb hZ.2 hS hPc hDc hKc (czsc hZ hS hFc)) rfl rfl hl.1 rfl (lv_room (Nat.le_of_ble_eq_true rfl)) dJ0_indexOf_0f7a4_3 ⟨Nat.le_of_ble_eq_true rfl, Nat.le_of_ble_eq_true rfl⟩) (fun r2 u1 H locs hw hP hD hS => ?_)
  replace hP : va_P (dC, dI) vwCl (W_S adK adV sq sv sm sb ) H := hP
  replace hD : va_D A (W_S adK adV sq sv sm sb ) := hD
  exact hret dJ0_indexOf_0f7a4_6 hK hP hD hS hw
