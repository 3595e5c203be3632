theorem i_M : w_X11_init (fun (_ : Nat → Nat) => True) := by
  unfold w_X11_init
  exact ⟨Nat.le_refl _, fun _ => ⟨Nat.le_refl _, fun _ => ⟨Nat.le_refl _, fun _ => ⟨Nat.le_refl _, fun _ => ⟨Nat.le_refl _, fun _ => ⟨Nat.le_refl _, fun _ => ⟨Nat.le_refl _, fun _ => ⟨Nat.le_refl _, fun _ => ⟨Nat.le_refl _, fun _ => ⟨Nat.le_refl _, fun _ => ⟨Nat.le_refl _, fun _ => ⟨Nat.le_refl _, fun _ => ⟨Nat.le_refl _, fun _ => trivial⟩⟩⟩⟩⟩⟩⟩⟩⟩⟩⟩⟩⟩
set_option maxHeartbeats 8000000 in
set_option maxRecDepth 100000 in
theorem whole_start {p : Program} {e : Env} {s : State} {m : MethodId} {below : List Frame} {meth : Method} {c : Code} (l : Launch) (hflags : l.flags = flags0) {b L : Nat} {xs : Nat → Int32} (hL : L ≤ 2560) (C0 : lw_At p s m meth c b L xs) : W p l e room_1 s m #[Value.ref b] below meth c s.heap [] 0 0 (lw_Z below #[Value.ref b] s) (entryFrame m ([Value.ref b] : List Value).toArray 4) := by
  obtain ⟨hx, hb, hr, hml, hown, hts, hX, hbl, hlocks, hgv⟩ := id C0
  have hA : ∀ q : Nat, s.heap.size ≤ q → (fun q : Nat => s.heap.size ≤ q) q := fun _ h => h
  have hbA : ¬ (fun q : Nat => s.heap.size ≤ q) b := Nat.not_le.mpr hbl
  have hnA : ∀ a : Nat, a < s.heap.size → ¬ (fun q : Nat => s.heap.size ≤ q) a := fun _ h => Nat.not_le.mpr h
  have hgf := flat_of_before _ hgv
  have hq : ∀ w ∈ lg_all, w.before #[Value.ref b] s = true := fun w hw => by
    rcases List.mem_append.mp hw with h | h
    · exact hts w h
    · exact hgf w h
  have hts' : ∀ w ∈ wsL_law, w.before #[Value.ref b] s = true := fun w hw => lx_hts hts w (wsL_law_in w hw)
  obtain ⟨c0, i0, hKn0⟩ := u_known (C := RJ0) (T := TJ0) (N := 4) (n := 4) hts' inlJ0 (hq (.instantiable RJ0 4) (by decide +kernel))
  obtain ⟨c1, i1, hKn1⟩ := u_known (C := RJ4) (T := TJ4) (N := 4) (n := 4) hts' inlJ4 (hq (.instantiable RJ4 4) (by decide +kernel))
  obtain ⟨c2, i2, hKn2⟩ := u_known (C := RX0) (T := TX0) (N := 0) (n := 0) hts' inlX0 (hq (.instantiable RX0 0) (by decide +kernel))
  obtain ⟨c3, i3, hKn3⟩ := u_known (C := RX1) (T := TX1) (N := 0) (n := 0) hts' inlX1 (hq (.instantiable RX1 0) (by decide +kernel))
  obtain ⟨c4, i4, hKn4⟩ := u_known (C := RX2) (T := TX2) (N := 0) (n := 0) hts' inlX2 (hq (.instantiable RX2 0) (by decide +kernel))
  obtain ⟨c5, i5, hKn5⟩ := u_known (C := RX3) (T := TX3) (N := 0) (n := 0) hts' inlX3 (hq (.instantiable RX3 0) (by decide +kernel))
  obtain ⟨c6, i6, hKn6⟩ := u_known (C := RX4) (T := TX4) (N := 1) (n := 1) hts' inlX4 (hq (.instantiable RX4 1) (by decide +kernel))
  obtain ⟨c7, i7, hKn7⟩ := u_known (C := RX5) (T := TX5) (N := 15) (n := 15) hts' inlX5 (hq (.instantiable RX5 15) (by decide +kernel))
  obtain ⟨c8, i8, hKn8⟩ := u_known (C := RX6) (T := TX6) (N := 6) (n := 6) hts' inlX6 (hq (.instantiable RX6 6) (by decide +kernel))
  obtain ⟨c9, i9, hKn9⟩ := u_known (C := RX7) (T := TX7) (N := 4) (n := 4) hts' inlX7 (hq (.instantiable RX7 4) (by decide +kernel))
  obtain ⟨c10, i10, hKn10⟩ := u_known (C := RX8) (T := TX8) (N := 6) (n := 6) hts' inlX8 (hq (.instantiable RX8 6) (by decide +kernel))
  obtain ⟨c11, i11, hKn11⟩ := u_known (C := RX9) (T := TX9) (N := 0) (n := 0) hts' inlX9 (hq (.instantiable RX9 0) (by decide +kernel))
  obtain ⟨c12, i12, hKn12⟩ := u_known (C := RX10) (T := TX10) (N := 6) (n := 6) hts' inlX10 (hq (.instantiable RX10 6) (by decide +kernel))
  obtain ⟨c13, i13, hKn13⟩ := u_known (C := RX11) (T := TX11) (N := 29) (n := 29) hts' inlX11 (hq (.instantiable RX11 29) (by decide +kernel))
  obtain ⟨c14, i14, hKn14⟩ := u_known (C := RX12) (T := TX12) (N := 2) (n := 2) hts' inlX12 (hq (.instantiable RX12 2) (by decide +kernel))
  obtain ⟨dC, dI, hKc⟩ : ∃ (dC : Nat → ClassId) (dI : Nat → Nat → Nat), ∀ (k : Nat) (q : vw_C), vwCl[k]? = some q → u_Kn s q.1 q.2.1 q.2.2 (dC k) (dI k) := by
    refine ⟨fun k => [c0, c1, c2, c3, c4, c5, c6, c7, c8, c9, c10, c11, c12, c13, c14].getD k c0, fun k => [i0, i1, i2, i3, i4, i5, i6, i7, i8, i9, i10, i11, i12, i13, i14].getD k i0, ?_⟩
    intro k q hq
    match k, hq with
    | 0, hq => cases hq; exact hKn0
    | 1, hq => cases hq; exact hKn1
    | 2, hq => cases hq; exact hKn2
    | 3, hq => cases hq; exact hKn3
    | 4, hq => cases hq; exact hKn4
    | 5, hq => cases hq; exact hKn5
    | 6, hq => cases hq; exact hKn6
    | 7, hq => cases hq; exact hKn7
    | 8, hq => cases hq; exact hKn8
    | 9, hq => cases hq; exact hKn9
    | 10, hq => cases hq; exact hKn10
    | 11, hq => cases hq; exact hKn11
    | 12, hq => cases hq; exact hKn12
    | 13, hq => cases hq; exact hKn13
    | 14, hq => cases hq; exact hKn14
    | k + 15, hq => simp [vwCl] at hq
  obtain ⟨cI, kI, pI, fI1, fI2, fI3⟩ := Cond.arrayClass_spec (hq (.arrayClass .int) (by decide +kernel))
  obtain ⟨cY, kY, pY, fY1, fY2, fY3⟩ := Cond.arrayClass_spec (hq (.arrayClass .byte) (by decide +kernel))
  obtain ⟨pB, cB, kB, fB1, fB2, fB3, fB4, fB5⟩ := Cond.arrayOver_spec (hq (.arrayOver (.object RX0)) (by decide +kernel))
  obtain ⟨pS, cS, kS, fS1, fS2, fS3, fS4, fS5⟩ := Cond.arrayOver_spec (hq (.arrayOver (.object RX7)) (by decide +kernel))
  have hK : va_K (dC, dI) vwCl [(cI, .int), (cB, .object RX0), (cS, .object RX7), (cY, .byte)] s := ⟨hKc, fun k q h => by
    match k, h with
    | 0, h => cases h; exact ⟨fun N z => ⟨(fun k h => by cases h), kI, fI2, pI, fI3⟩, fI1⟩
    | 1, h => cases h; exact ⟨fun N z => ⟨(fun k h => by cases h), kB, fB3, pB, fB4⟩, kB, pB, fB3, fB4, fB1, fB5⟩
    | 2, h => cases h; exact ⟨fun N z => ⟨(fun k h => by cases h), kS, fS3, pS, fS4⟩, kS, pS, fS3, fS4, fS1, fS5⟩
    | 3, h => cases h; exact ⟨fun N z => ⟨(fun k h => by cases h), kY, fY2, pY, fY3⟩, fY1⟩
    | k + 4, h => simp at h⟩
  obtain ⟨adK, adV, hVS, hev⟩ := vk_Sof (A := fun q : Nat => s.heap.size ≤ q) (tm := lg_tm) (N := 5) (len := cz_len) (byt := cz_byt) (by decide +kernel) (fun i hi => hq _ (lg_ex i hi)) (fun i hi => hq _ (lg_co i hi)) (fun i hi => hq _ (lg_ar i hi)) (fun i hi => hq _ (lg_le i hi)) (fun i hi j hj => hq _ (lg_el i hi j hj)) (fun i j hi hj hne => by
    rcases lg_ne i hi j hj with h | h | h
    · exact absurd h hne
    · exact Or.inl (hq _ h)
    · exact Or.inr (hq _ h)) hnA
  have e0 : (Term.string RX4 70).eval #[Value.ref b] s none [] s = some (.ref (adK 0)) := hev 0 (by omega)
  have e1 : (Term.string RX4 72).eval #[Value.ref b] s none [] s = some (.ref (adK 1)) := hev 1 (by omega)
  have e2 : (Term.string RX4 64).eval #[Value.ref b] s none [] s = some (.ref (adK 2)) := hev 2 (by omega)
  have e3 : (Term.string RX4 66).eval #[Value.ref b] s none [] s = some (.ref (adK 3)) := hev 3 (by omega)
  have e4 : (Term.string RX4 68).eval #[Value.ref b] s none [] s = some (.ref (adK 4)) := hev 4 (by omega)
  have e5 : (Term.string RX5 84).eval #[Value.ref b] s none [] s = some (.ref (adK 1)) := va_eqR (hq (.eq (.string RX4 72) (.string RX5 84)) (by decide +kernel)) e1
  have hZ : cz adK adV (fun q : Nat => s.heap.size ≤ q) s s.heap := by
    refine ⟨fun w hw => va_Nw.of (lg_nestT w hw) (hq w (lg_nest w hw)), fun w hw => va_Nw.of (lg_castT w hw) (hq w (lg_cast w hw)), fun q h => va_Nc.of (hq _ (lg_no q h)), ⟨va_AO.of (hq (.arrayOver (.object RX0)) (by decide +kernel)), va_AO.of (hq (.arrayOver (.object RX7)) (by decide +kernel))⟩, ?_, ?_, ?_, hVS⟩
    · intro q h
      rcases List.mem_cons.mp h with rfl | h
      · exact vk_R.of (hq (.stringRef RX4 64 "2;K;DD") (by decide +kernel)) e2
      rcases List.mem_cons.mp h with rfl | h
      · exact vk_R.of (hq (.stringRef RX4 66 "3;KK,K;DDD") (by decide +kernel)) e3
      rcases List.mem_cons.mp h with rfl | h
      · exact vk_R.of (hq (.stringRef RX4 68 "4;KKK,KK,K;DDDD") (by decide +kernel)) e4
      rcases List.mem_cons.mp h with rfl | h
      · exact vk_R.of (hq (.stringRef RX4 70 "") (by decide +kernel)) e0
      rcases List.mem_cons.mp h with rfl | h
      · exact vk_R.of (hq (.stringRef RX4 72 "sgmwl") (by decide +kernel)) e1
      rcases List.mem_cons.mp h with rfl | h
      · exact vk_R.of (hq (.stringRef RX5 84 "sgmwl") (by decide +kernel)) e5
      · exact absurd h List.not_mem_nil
    · intro q h
      rcases List.mem_cons.mp h with rfl | h
      · exact va_Zof (hq (.laysStatic "java/lang/String" "COMPACT_STRINGS" "Z") (by decide +kernel)) (hq (.initialized "java/lang/String") (by decide +kernel)) (va_eqi (hq (.eq (.static "java/lang/String" "COMPACT_STRINGS" "Z") (.int 1)) (by decide +kernel))) hnA
      · exact absurd h List.not_mem_nil
    · exact va_Zqof (hq (.laysStatic "jdk/internal/util/Preconditions" "SIOOBE_FORMATTER" "Ljava/util/function/BiFunction;") (by decide +kernel)) (hq (.initialized "jdk/internal/util/Preconditions") (by decide +kernel)) (hq (.isRef (.static "jdk/internal/util/Preconditions" "SIOOBE_FORMATTER" "Ljava/util/function/BiFunction;")) (by decide +kernel)) hnA
  have hS : va_S (fun q : Nat => s.heap.size ≤ q) s.heap s.heap [] := va_S.rf
  have hP : va_P (dC, dI) vwCl [] s.heap := fun k q h => by simp at h
  have hD : va_D (fun q : Nat => s.heap.size ≤ q) [] := ⟨fun i j p q h => by simp at h, fun k q h => by simp at h⟩
  have hl := lv_entry ([.ref b]) (n := 4) (Nat.le_of_ble_eq_true rfl)
  rw [lg_entry_eq]
  generalize (lg_sl ([.ref b]) ++ List.replicate (4 - (lg_sl ([.ref b])).length) Slot.unset).toArray = ls at hl ⊢
  have hl : lv_has ls 4 [(0, .ref b)] := hl
  refine va_new (ci := 12) (fs := [.null, .null, .null, .int 0, .int 0, .int 0]) (C := RX10) (T := TX10) (N := 6) hx hb hts' inlX10 tyX10 tyX10_ok hown (hq (.classLink RL 7 RX10) (by decide +kernel)) (hq (.instantiable RX10 6) (by decide +kernel)) (hq (.initialized RX10) (by decide +kernel)) hK hP hD hS hA rfl (fun j hj => by rcases (show j = 0 ∨ j = 1 ∨ j = 2 ∨ j = 3 ∨ j = 4 ∨ j = 5 by omega) with rfl | rfl | rfl | rfl | rfl | rfl <;> rfl) (Nat.le_of_ble_eq_true rfl) (Nat.le_of_ble_eq_true rfl) dL_law_0 (fun np H hP hD hS => ?_)
  refine W.widen (k := 1) (n := 6) (Nat.le_of_ble_eq_true rfl) (Nat.le_of_ble_eq_true rfl) ?_
  replace hP : va_P (dC, dI) vwCl [(np, .inr (12, [.null, .null, .null, .int 0, .int 0, .int 0]))] H := hP
  replace hD : va_D (fun q : Nat => s.heap.size ≤ q) [(np, .inr (12, [.null, .null, .null, .int 0, .int 0, .int 0]))] := hD
  refine lv_dup hx hb dL_law_3 rfl ?_
  refine g_cv (g_J.plain (W2 := fun u : (Nat × Nat × Nat × Nat × (Nat → Nat) × (Nat → Nat) × Nat × Nat × Nat × Nat × Int32 × Int32 × (Nat → Int32) × (Nat → Int32) × Nat × (Nat → Nat → Int32) × (Nat → Nat → Int32) × (Nat → Nat → Option Nat)) => W_N adK adV cI cB cS cY np (u.1) (u.2.1) (qm (u.2.2.1) (u.2.2.2.1) (u.2.2.2.2.1)) (u.2.2.2.2.2.1) (u.2.2.2.2.2.2.1) (u.2.2.2.2.2.2.2.1) (fun _ => (0 : Int32)) (u.2.2.2.2.2.2.2.2.1) (u.2.2.2.2.2.2.2.2.2.1) (u.2.2.2.2.2.2.2.2.2.2.1) (u.2.2.2.2.2.2.2.2.2.2.2.1) (u.2.2.2.2.2.2.2.2.2.2.2.2.1) (u.2.2.2.2.2.2.2.2.2.2.2.2.2.1) (u.2.2.2.2.2.2.2.2.2.2.2.2.2.2.1) (u.2.2.2.2.2.2.2.2.2.2.2.2.2.2.2.1) (u.2.2.2.2.2.2.2.2.2.2.2.2.2.2.2.2.1) (u.2.2.2.2.2.2.2.2.2.2.2.2.2.2.2.2.2)) [] [0] [] [0, 1, 2, 3, 4, 5, 6, 7, 8, 9, 10, 11, 12, 13, 14, 15, 16, 17, 18, 19, 20, 21, 22, 23, 24, 25, 26, 27, 28, 29, 30] rfl (by decide) rfl (by decide) (by decide) (fun _ => rfl) (by decide)) [0, 1, 2, 3] hK hP hD hS hA rfl (fun hPc hDc hKc hFc => va_runI (As := []) (rest := [.ref np]) ⟨hx, hb, hml, hown, hts'⟩ (t_X10_init l dC dI adK adV cI cB cS cY np H.size _ i_I) (cwI 0 hts' gL_law_X10_init rfl rfl rfl (hq (.initialized RX10) (by decide +kernel)) (hq (.methodLink RL 9 yX10_init) (by decide +kernel)) (hq (.instanceMethod yX10_init) (by decide +kernel)) rfl (by decide +kernel) ⟨Nat.le_of_ble_eq_true rfl, Nat.le_of_ble_eq_true rfl⟩) (g_pS czb (As := .ref np :: []) hPc hDc hKc (czc hZ hS hFc)) rfl rfl hl.1 rfl (lv_room (Nat.le_of_ble_eq_true rfl)) dL_law_4 ⟨Nat.le_of_ble_eq_true rfl, Nat.le_of_ble_eq_true rfl⟩) (fun u H locs hI hP hD hS => ?_)
  refine W.widen (k := 41) (n := 836) (Nat.le_of_ble_eq_true rfl) (Nat.le_of_ble_eq_true rfl) ?_
  refine lv_astore_n (lv' := [(1, .ref np), (0, .ref b)]) hx hb dL_law_7 rfl hl (by decide) rfl (fun ls hl => ?_)
  refine va_new (ci := 13) (fs := [.null, .int 0, .int 0, .int 0, .int 0, .null, .int 0, .int 0, .int 0, .int 0, .null, .null, .null, .null, .null, .int 0, .null, .int 0, .int 0, .null, .int 0, .int 0, .int 0, .int 0, .null, .null, .null, .null, .long 0]) (C := RX11) (T := TX11) (N := 29) hx hb hts' inlX11 tyX11 tyX11_ok hown (hq (.classLink RL 10 RX11) (by decide +kernel)) (hq (.instantiable RX11 29) (by decide +kernel)) (hq (.initialized RX11) (by decide +kernel)) hK hP hD hS hA rfl (fun j hj => by rcases (show j = 0 ∨ j = 1 ∨ j = 2 ∨ j = 3 ∨ j = 4 ∨ j = 5 ∨ j = 6 ∨ j = 7 ∨ j = 8 ∨ j = 9 ∨ j = 10 ∨ j = 11 ∨ j = 12 ∨ j = 13 ∨ j = 14 ∨ j = 15 ∨ j = 16 ∨ j = 17 ∨ j = 18 ∨ j = 19 ∨ j = 20 ∨ j = 21 ∨ j = 22 ∨ j = 23 ∨ j = 24 ∨ j = 25 ∨ j = 26 ∨ j = 27 ∨ j = 28 by omega) with rfl | rfl | rfl | rfl | rfl | rfl | rfl | rfl | rfl | rfl | rfl | rfl | rfl | rfl | rfl | rfl | rfl | rfl | rfl | rfl | rfl | rfl | rfl | rfl | rfl | rfl | rfl | rfl | rfl <;> rfl) (Nat.le_of_ble_eq_true rfl) (Nat.le_of_ble_eq_true rfl) dL_law_8 (fun mh H hP hD hS => ?_)
  refine W.widen (k := 42) (n := 865) (Nat.le_of_ble_eq_true rfl) (Nat.le_of_ble_eq_true rfl) ?_
  replace hP : va_P (dC, dI) vwCl ((W_N adK adV cI cB cS cY np (u.1) (u.2.1) (qm (u.2.2.1) (u.2.2.2.1) (u.2.2.2.2.1)) (u.2.2.2.2.2.1) (u.2.2.2.2.2.2.1) (u.2.2.2.2.2.2.2.1) (fun _ => (0 : Int32)) (u.2.2.2.2.2.2.2.2.1) (u.2.2.2.2.2.2.2.2.2.1) (u.2.2.2.2.2.2.2.2.2.2.1) (u.2.2.2.2.2.2.2.2.2.2.2.1) (u.2.2.2.2.2.2.2.2.2.2.2.2.1) (u.2.2.2.2.2.2.2.2.2.2.2.2.2.1) (u.2.2.2.2.2.2.2.2.2.2.2.2.2.2.1) (u.2.2.2.2.2.2.2.2.2.2.2.2.2.2.2.1) (u.2.2.2.2.2.2.2.2.2.2.2.2.2.2.2.2.1) (u.2.2.2.2.2.2.2.2.2.2.2.2.2.2.2.2.2)) ++ [(mh, .inr (13, [.null, .int 0, .int 0, .int 0, .int 0, .null, .int 0, .int 0, .int 0, .int 0, .null, .null, .null, .null, .null, .int 0, .null, .int 0, .int 0, .null, .int 0, .int 0, .int 0, .int 0, .null, .null, .null, .null, .long 0]))]) H := hP
  replace hD : va_D (fun q : Nat => s.heap.size ≤ q) ((W_N adK adV cI cB cS cY np (u.1) (u.2.1) (qm (u.2.2.1) (u.2.2.2.1) (u.2.2.2.2.1)) (u.2.2.2.2.2.1) (u.2.2.2.2.2.2.1) (u.2.2.2.2.2.2.2.1) (fun _ => (0 : Int32)) (u.2.2.2.2.2.2.2.2.1) (u.2.2.2.2.2.2.2.2.2.1) (u.2.2.2.2.2.2.2.2.2.2.1) (u.2.2.2.2.2.2.2.2.2.2.2.1) (u.2.2.2.2.2.2.2.2.2.2.2.2.1) (u.2.2.2.2.2.2.2.2.2.2.2.2.2.1) (u.2.2.2.2.2.2.2.2.2.2.2.2.2.2.1) (u.2.2.2.2.2.2.2.2.2.2.2.2.2.2.2.1) (u.2.2.2.2.2.2.2.2.2.2.2.2.2.2.2.2.1) (u.2.2.2.2.2.2.2.2.2.2.2.2.2.2.2.2.2)) ++ [(mh, .inr (13, [.null, .int 0, .int 0, .int 0, .int 0, .null, .int 0, .int 0, .int 0, .int 0, .null, .null, .null, .null, .null, .int 0, .null, .int 0, .int 0, .null, .int 0, .int 0, .int 0, .int 0, .null, .null, .null, .null, .long 0]))]) := hD
  refine lv_dup hx hb dL_law_11 rfl ?_
  refine g_cv (g_J.plain (W2 := fun mq : (Nat → Nat) => W_L adK adV cI cB cS cY np (u.1) (u.2.1) (qm (u.2.2.1) (u.2.2.2.1) (u.2.2.2.2.1)) (u.2.2.2.2.2.1) (u.2.2.2.2.2.2.1) (u.2.2.2.2.2.2.2.1) mh mq (fun _ => (0 : Int32)) (u.2.2.2.2.2.2.2.2.1) (u.2.2.2.2.2.2.2.2.2.1) (u.2.2.2.2.2.2.2.2.2.2.1) (u.2.2.2.2.2.2.2.2.2.2.2.1) (u.2.2.2.2.2.2.2.2.2.2.2.2.1) (u.2.2.2.2.2.2.2.2.2.2.2.2.2.1) (u.2.2.2.2.2.2.2.2.2.2.2.2.2.2.1) (u.2.2.2.2.2.2.2.2.2.2.2.2.2.2.2.1) (u.2.2.2.2.2.2.2.2.2.2.2.2.2.2.2.2.1) (u.2.2.2.2.2.2.2.2.2.2.2.2.2.2.2.2.2) (upd (fun _ => (0 : Int32)) 21 (-1 : Int32)) (0 : Int64) (fun _ _ => (0 : Int32))) (W_N adK adV cI cB cS cY np (u.1) (u.2.1) (qm (u.2.2.1) (u.2.2.2.1) (u.2.2.2.2.1)) (u.2.2.2.2.2.1) (u.2.2.2.2.2.2.1) (u.2.2.2.2.2.2.2.1) (fun _ => (0 : Int32)) (u.2.2.2.2.2.2.2.2.1) (u.2.2.2.2.2.2.2.2.2.1) (u.2.2.2.2.2.2.2.2.2.2.1) (u.2.2.2.2.2.2.2.2.2.2.2.1) (u.2.2.2.2.2.2.2.2.2.2.2.2.1) (u.2.2.2.2.2.2.2.2.2.2.2.2.2.1) (u.2.2.2.2.2.2.2.2.2.2.2.2.2.2.1) (u.2.2.2.2.2.2.2.2.2.2.2.2.2.2.2.1) (u.2.2.2.2.2.2.2.2.2.2.2.2.2.2.2.2.1) (u.2.2.2.2.2.2.2.2.2.2.2.2.2.2.2.2.2)) [31] [0, 1, 2, 3, 4, 5, 6, 7, 8, 9, 10, 11, 12, 13, 14, 15, 16, 17, 18, 19, 20, 21, 22, 23, 24, 25, 26, 27, 28, 29, 30] [0, 1, 2, 3, 4, 5, 6, 7, 8, 9, 10, 11, 12, 13, 14, 15, 16, 17, 18, 19, 20, 21, 22, 23, 24, 25, 26, 27, 28, 29, 30, 31, 32, 33, 34, 35, 36, 37, 38, 39, 40, 41, 42, 43, 44] rfl (by decide) rfl (by decide) (by decide) (fun _ => rfl) (by decide)) [0] hK hP hD hS hA rfl (fun hPc hDc hKc hFc => va_runI (As := []) (rest := [.ref mh]) ⟨hx, hb, hml, hown, hts'⟩ (t_X11_init l dC dI cI mh H.size _ i_M) (cwI 0 hts' gL_law_X11_init rfl rfl rfl (hq (.initialized RX11) (by decide +kernel)) (hq (.methodLink RL 12 yX11_init) (by decide +kernel)) (hq (.instanceMethod yX11_init) (by decide +kernel)) rfl (by decide +kernel) ⟨Nat.le_of_ble_eq_true rfl, Nat.le_of_ble_eq_true rfl⟩) (g_pS g_Tb (As := .ref mh :: []) hPc hDc hKc (fun _ _ _ => trivial)) rfl rfl hl.1 rfl (lv_room (Nat.le_of_ble_eq_true rfl)) dL_law_12 ⟨Nat.le_of_ble_eq_true rfl, Nat.le_of_ble_eq_true rfl⟩) (fun mq H locs _ hP hD hS => ?_)
  refine lv_astore_n (lv' := [(2, .ref mh), (1, .ref np), (0, .ref b)]) hx hb dL_law_15 rfl hl (by decide) rfl (fun ls hl => ?_)
  refine lv_iconst (v := 0) hx hb dL_law_16 (by decide) ?_
  refine lv_istore_n (lv' := [(3, .int 0), (2, .ref mh), (1, .ref np), (0, .ref b)]) hx hb dL_law_17 rfl hl (by decide) rfl (fun ls hl => ?_)
  refine W.widen (k := 1000 + 60 * 0) (n := 5000 + 2500 * 0) (Nat.le_of_ble_eq_true rfl) (Nat.le_of_ble_eq_true rfl) ?_
  refine lc_loop (adK := adK) (adV := adV) (cI := cI) (cB := cB) (cS := cS) (cY := cY) (sb0 := b) (L := L) (xs := xs) (A := fun q : Nat => s.heap.size ≤ q) (dC := dC) (dI := dI) ⟨hx, hb, hml, hown, hts', hK, hX, hbl, hbA, hA, hZ, hL⟩ (fun {H locs ls j} hj hS => ?_) 512 0 (by omega) (by omega) hI hP hD hS (lv_sub hl [3, 2, 1, 0] rfl)
  refine W.widen (k := 600000) (n := 7302250) (by omega) (by omega) ?_
  refine va_forget (fun q hq => hS.2.2 q hq) ?_
  refine lv_iconst (v := 1) hx hb dL_law_827 (by decide) ?_
  exact lw_ret hx hb hr hlocks dL_law_828
