/-! calls of any form: 'run' says how the callee is come to, 'J' which cells it has and how the world is put together behind it -/
def g_J {St : Type} (D : va_G) (cl : List vw_C) (A : Nat → Prop) (ws wc : va_W) (WL W2 : St → va_W) : Prop :=
  ∀ (H H0 : Heap) (locs : List Loc), va_P D cl ws H → va_D A ws → va_S A H0 H locs → (∀ q, H0.size ≤ q → A q) → va_P D cl wc H ∧ va_D A wc ∧ (∀ q, va_A wc H.size q → A q) ∧
    ∀ (u : St) (H1 : Heap), (∀ q : Nat, q < H.size → ¬ va_A wc H.size q → H1[q]? = H[q]?) → va_P D cl (WL u) H1 → va_D (va_A wc H.size) (WL u) → va_P D cl (W2 u) H1 ∧ va_D A (W2 u)
theorem g_J.plain {St : Type} {D : va_G} {cl : List vw_C} {A : Nat → Prop} {ws wc : va_W} {WL W2 : St → va_W} (wr : va_W) (isC isR isB : List Nat) (hC : isC.map (fun i => ws[i]?) = wc.map some) (hnC : va_nd isC = true) (hR : isR.map (fun i => ws[i]?) = wr.map some) (hnR : va_nd isR = true) (hdis : ∀ i ∈ isR, i ∉ isC)
    (hB : ∀ u, isB.map (fun i => (wr ++ WL u)[i]?) = (W2 u).map some) (hnB : va_nd isB = true) : g_J D cl A ws wc WL W2 := by
  intro H H0 locs hP hD hS hA
  have hFc := va_free (wc := wc) hD hS hA isC hC
  refine ⟨g_pick hP isC hC, hD.sub isC hnC hC, hFc, fun u H1 hk hP1 hD1 => ?_⟩
  obtain ⟨hP2, hD2⟩ := va_join hP hD isC isR hC hR hnR hdis hk hFc hP1 hD1
  exact ⟨g_pick hP2 isB (hB u), hD2.sub isB hnB (hB u)⟩
theorem g_nodup_left {A : Nat → Prop} {a b : va_W} (h : va_D A (a ++ b)) : va_D A a := h.by id (fun k q hq => by
    show (a ++ b)[k]? = some q
    rw [List.getElem?_append_left (List.getElem?_eq_some_iff.mp hq).1]
    exact hq) (fun i j _ _ e => e)
theorem g_P_left {D : va_G} {cl : List vw_C} {H : Heap} {a b : va_W} (h : va_P D cl (a ++ b) H) : va_P D cl a H := fun k q hq => h k q (by
    rw [List.getElem?_append_left (List.getElem?_eq_some_iff.mp hq).1]
    exact hq)
/-- the callee has none of the pooled cells -/
theorem g_J.poolQ {St : Type} {D : va_G} {cl : List vw_C} {A : Nat → Prop} {X wc pl : va_W} {WL W2 : St → va_W} (wr : va_W) (isC isR isB : List Nat) (hC : isC.map (fun i => X[i]?) = wc.map some) (hnC : va_nd isC = true) (hR : isR.map (fun i => X[i]?) = wr.map some) (hnR : va_nd isR = true) (hdis : ∀ i ∈ isR, i ∉ isC)
    (hB : ∀ u, isB.map (fun i => (wr ++ WL u)[i]?) = (W2 u).map some) (hnB : va_nd isB = true) : g_J D cl A (X ++ pl) wc WL (fun u => W2 u ++ pl) := by
  intro H H0 locs hP hD hS hA
  have hFc : ∀ q, va_A wc H.size q → A q := fun q h => by
    rcases h with ⟨k, e, h⟩ | h
    · obtain ⟨i, _, hi⟩ := va_in_of isC hC h
      exact hD.2 i (q, e) (by rw [List.getElem?_append_left (List.getElem?_eq_some_iff.mp hi).1]; exact hi)
    · exact hA q (Nat.le_trans hS.1 h)
  refine ⟨g_P_left (hP.part isC hC), g_nodup_left (hD.part isC hnC hC), hFc, fun u H1 hk hP1 hD1 => ?_⟩
  obtain ⟨hP2, hD2⟩ := va_joinQ hP hD isC isR hC hR hnR hdis hk hFc hP1 hD1
  exact ⟨hP2.part isB (hB u), hD2.part isB hnB (hB u)⟩
/-- the callee has the pooled cells, too -/
theorem g_J.poolP {St : Type} {D : va_G} {cl : List vw_C} {A : Nat → Prop} {X cx pl : va_W} {RX W2 PL : St → va_W} (wr : va_W) (isC isR isB : List Nat) (hC : isC.map (fun i => X[i]?) = cx.map some) (hnC : va_nd isC = true) (hR : isR.map (fun i => X[i]?) = wr.map some) (hnR : va_nd isR = true) (hdis : ∀ i ∈ isR, i ∉ isC)
    (hB : ∀ u, isB.map (fun i => (wr ++ RX u)[i]?) = (W2 u).map some) (hnB : va_nd isB = true) : g_J D cl A (X ++ pl) (cx ++ pl) (fun u => RX u ++ PL u) (fun u => W2 u ++ PL u) := by
  intro H H0 locs hP hD hS hA
  have hFc := va_freeP hD hS hA isC hC
  refine ⟨hP.part isC hC, hD.part isC hnC hC, hFc, fun u H1 hk hP1 hD1 => ?_⟩
  obtain ⟨hP2, hD2⟩ := va_joinP hP hD isC isR hC hR hnR hdis hk hFc hP1 hD1
  exact ⟨hP2.part isB (hB u), hD2.part isB hnB (hB u)⟩
section GC2
variable {p : Program} {l : Launch} {e : Env} {R : Room} {s : State} {m : MethodId} {args : Array Value} {below : List Frame} {meth : Method} {c : Code} {H : Heap} {locs : List Loc} {cells slots : Nat} {Q : State → Prop}
variable {pc : Nat} {ls : Array Slot} {D : va_G} {cl : List vw_C} {A : Nat → Prop} {H0 : Heap} {tys tysC : List (ClassId × FieldType)} {ws wc : va_W} {mc ms : Nat} {rest st0 : List Value} {a : Array Value}
theorem g_pV {Z : g_Z} (hzb : g_zb Z) {C : String} {T : u_T} {N q0 ci b : Nat} {fs As : List Value} (hb0 : wc[q0]? = some (b, .inr (ci, fs))) (hcl : cl[ci]? = some (C, T, N)) (hPc : va_P D cl wc H) (hDc : va_D A wc) (hKc : va_K D cl tysC s) (hZ : ∀ U : State, U.heap = H → s.WarmedH U.vm → Z (va_A wc H.size) U H) : PreV s H C b (g_pre Z D cl tysC wc H.size (.ref b :: As)) As :=
  ⟨g_blind hzb, va_recv hKc hPc hcl hb0, fun U hU hW => ⟨rfl, by rw [hU], by rw [hU]; exact hPc, va_K.moved hW.alike hKc, hDc.weaken (fun _ _ _ _ => trivial), by rw [hU]; exact hZ U hU hW⟩⟩
theorem g_pS {Z : g_Z} (hzb : g_zb Z) {As : List Value} (hPc : va_P D cl wc H) (hDc : va_D A wc) (hKc : va_K D cl tysC s) (hZ : ∀ U : State, U.heap = H → s.WarmedH U.vm → Z (va_A wc H.size) U H) : PreS s H (g_pre Z D cl tysC wc H.size As) As :=
  ⟨g_blind hzb, fun U hU hW => ⟨rfl, by rw [hU], by rw [hU]; exact hPc, va_K.moved hW.alike hKc, hDc.weaken (fun _ _ _ _ => trivial), by rw [hU]; exact hZ U hU hW⟩⟩
theorem g_p0V {C : String} {T : u_T} {N q0 ci b : Nat} {fs As : List Value} (hK : va_K D cl tys s) (hP : va_P D cl ws H) (hb0 : ws[q0]? = some (b, .inr (ci, fs))) (hcl : cl[ci]? = some (C, T, N)) : PreV s H C b (g_pr0 (.ref b :: As)) As :=
  ⟨g_blind0, va_recv hK hP hcl hb0, fun _ _ _ => ⟨rfl, trivial⟩⟩
theorem g_p0S {As : List Value} : PreS s H (g_pr0 As) As := ⟨g_blind0, fun _ _ _ => ⟨rfl, trivial⟩⟩
theorem g_ci {St : Type} {WL W2 : St → va_W} {Q' : Int32 → St → Prop} (J : g_J D cl A ws wc WL W2) (isT : List Nat) (hK : va_K D cl tys s) (hP : va_P D cl ws H) (hD : va_D A ws) (hS : va_S A H0 H locs) (hA : ∀ q, H0.size ≤ q → A q) (hT : isT.filterMap (fun i => tys[i]?) = tysC)
    (hr : va_P D cl wc H → va_D A wc → va_K D cl tysC s → (∀ q, va_A wc H.size q → A q) → va_Run p l e R s m args below meth c H locs cells slots mc ms (F0 m pc ls st0) rest (g_qi D cl tysC WL Q' (va_A wc H.size) a) (va_A wc H.size))
    (kk : ∀ (r : Int32) (u : St) (H1 : Heap) (locs1 : List Loc), Q' r u → va_P D cl (W2 u) H1 → va_D A (W2 u) → va_S A H0 H1 locs1 → W p l e R s m args below meth c H1 locs1 (cells + mc) (slots + ms) Q (F0 m (pc + 3) ls (.int r :: rest))) :
    W p l e R s m args below meth c H locs cells slots Q (F0 m pc ls st0) := by
  obtain ⟨hPc, hDc, hFc, hj⟩ := J H H0 locs hP hD hS hA
  refine va_calli (hr hPc hDc (hK.sub isT hT) hFc) hS (fun q _ h => hFc q h) hFc (fun r u t H1 locs ht hvm hw hB1 hz1 hk1 hS1 => ?_)
  obtain ⟨hP1, hK1, hD1⟩ := hB1
  rw [ht] at hP1
  obtain ⟨hP2, hD2⟩ := hj u H1 hk1 hP1 hD1
  exact kk r u H1 locs hw hP2 hD2 hS1
theorem g_cl {St : Type} {WL W2 : St → va_W} {Q' : Int64 → St → Prop} (J : g_J D cl A ws wc WL W2) (isT : List Nat) (hK : va_K D cl tys s) (hP : va_P D cl ws H) (hD : va_D A ws) (hS : va_S A H0 H locs) (hA : ∀ q, H0.size ≤ q → A q) (hT : isT.filterMap (fun i => tys[i]?) = tysC)
    (hr : va_P D cl wc H → va_D A wc → va_K D cl tysC s → (∀ q, va_A wc H.size q → A q) → va_Run p l e R s m args below meth c H locs cells slots mc ms (F0 m pc ls st0) rest (g_ql D cl tysC WL Q' (va_A wc H.size) a) (va_A wc H.size))
    (kk : ∀ (r : Int64) (u : St) (H1 : Heap) (locs1 : List Loc), Q' r u → va_P D cl (W2 u) H1 → va_D A (W2 u) → va_S A H0 H1 locs1 → W p l e R s m args below meth c H1 locs1 (cells + mc) (slots + ms) Q (F0 m (pc + 3) ls (.long r :: rest))) :
    W p l e R s m args below meth c H locs cells slots Q (F0 m pc ls st0) := by
  obtain ⟨hPc, hDc, hFc, hj⟩ := J H H0 locs hP hD hS hA
  refine va_calll (hr hPc hDc (hK.sub isT hT) hFc) hS (fun q _ h => hFc q h) hFc (fun r u t H1 locs ht hvm hw hB1 hz1 hk1 hS1 => ?_)
  obtain ⟨hP1, hK1, hD1⟩ := hB1
  rw [ht] at hP1
  obtain ⟨hP2, hD2⟩ := hj u H1 hk1 hP1 hD1
  exact kk r u H1 locs hw hP2 hD2 hS1
theorem g_cv {St : Type} {WL W2 : St → va_W} {Q' : St → Prop} (J : g_J D cl A ws wc WL W2) (isT : List Nat) (hK : va_K D cl tys s) (hP : va_P D cl ws H) (hD : va_D A ws) (hS : va_S A H0 H locs) (hA : ∀ q, H0.size ≤ q → A q) (hT : isT.filterMap (fun i => tys[i]?) = tysC)
    (hr : va_P D cl wc H → va_D A wc → va_K D cl tysC s → (∀ q, va_A wc H.size q → A q) → va_Run p l e R s m args below meth c H locs cells slots mc ms (F0 m pc ls st0) rest (g_qv D cl tysC WL Q' (va_A wc H.size) a) (va_A wc H.size))
    (kk : ∀ (u : St) (H1 : Heap) (locs1 : List Loc), Q' u → va_P D cl (W2 u) H1 → va_D A (W2 u) → va_S A H0 H1 locs1 → W p l e R s m args below meth c H1 locs1 (cells + mc) (slots + ms) Q (F0 m (pc + 3) ls rest)) :
    W p l e R s m args below meth c H locs cells slots Q (F0 m pc ls st0) := by
  obtain ⟨hPc, hDc, hFc, hj⟩ := J H H0 locs hP hD hS hA
  refine va_callv (hr hPc hDc (hK.sub isT hT) hFc) hS (fun q _ h => hFc q h) hFc (fun u t H1 locs ht hvm hw hB1 hz1 hk1 hS1 => ?_)
  obtain ⟨hP1, hK1, hD1⟩ := hB1
  rw [ht] at hP1
  obtain ⟨hP2, hD2⟩ := hj u H1 hk1 hP1 hD1
  exact kk u H1 locs hw hP2 hD2 hS1
/-- a call of a method that needs no cell: a number out -/
theorem g_c0 {Q' : Int32 → Prop} (hr : va_Run p l e R s m args below meth c H locs cells slots 0 0 (F0 m pc ls st0) rest (vp_Si Q' a) (fun _ => False)) (kk : ∀ r : Int32, Q' r → W p l e R s m args below meth c H locs cells slots Q (F0 m (pc + 3) ls (.int r :: rest))) : W p l e R s m args below meth c H locs cells slots Q (F0 m pc ls st0) :=
  vp_callSi hr.run kk
end GC2
