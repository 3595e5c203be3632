/-! texts that the caller made; a brick just made; pooled rows; arrays of arrays -/
theorem va_outA {A : Nat → Prop} {X pl wc : va_W} {D : va_G} {cl : List vw_C} {H : Heap} {i a : Nat} {e : va_E} (hP : va_P D cl (X ++ pl) H) (hD : va_D A (X ++ pl)) (hi : X[i]? = some (a, e)) (isC : List Nat) (hC : isC.map (fun i => X[i]?) = wc.map some) (hn : i ∉ isC) : ¬ va_A wc H.size a := by
  have hX : (X ++ pl)[i]? = some (a, e) := by rw [List.getElem?_append_left (List.getElem?_eq_some_iff.mp hi).1]; exact hi
  intro h
  rcases h with ⟨k, e', h⟩ | h
  · obtain ⟨j, h1, h2⟩ := va_in_of isC hC h
    have h3 : (X ++ pl)[j]? = some (a, e') := by rw [List.getElem?_append_left (List.getElem?_eq_some_iff.mp h2).1]; exact h2
    have h4 : i = j := hD.1 i j _ _ hX h3 rfl
    exact hn (h4 ▸ List.mem_of_getElem? h1)
  · have := (hP i _ hX).lt
    have h5 : a < H.size := this
    omega
/-- a text whose two cells are the caller's -/
theorem strZ_w {args : Array Value} {A : Nat → Prop} {s : State} {H : Heap} {D : va_G} {tys : List (ClassId × FieldType)} {X pl wc : va_W} {Ts : List Cond} {q v n : Nat} {bt : Nat → Int32} {cY : ClassId} {v2 v3 : Value} (hts : ∀ w ∈ Ts, w.before args s = true) (hin : ∀ w ∈ u_ws RJ0 TJ0 4, w ∈ Ts) (hK : va_K D vwCl tys s) (hP : va_P D vwCl (X ++ pl) H) (hD : va_D A (X ++ pl)) (i j t0 : Nat) (hi : X[i]? = some (q, .inr (0, [.ref v, .int 0, v2, v3]))) (hj : X[j]? = some (v, .inl (cY, n, .inl bt))) (ht : tys[t0]? = some (cY, .byte)) (isC : List Nat) (hC : isC.map (fun i => X[i]?) = wc.map some) (hni : i ∉ isC) (hnj : j ∉ isC) : strZ q v n bt (va_A wc H.size) s H := by
  have o1 := va_outA hP hD hi isC hC hni
  have o2 := va_outA hP hD hj isC hC hnj
  have hXi : (X ++ pl)[i]? = some (q, .inr (0, [.ref v, .int 0, v2, v3])) := by rw [List.getElem?_append_left (List.getElem?_eq_some_iff.mp hi).1]; exact hi
  have hXj : (X ++ pl)[j]? = some (v, .inl (cY, n, .inl bt)) := by rw [List.getElem?_append_left (List.getElem?_eq_some_iff.mp hj).1]; exact hj
  obtain ⟨cell0, r1, r2, r3⟩ := va_recv hK hP (ci := 0) (q := (RJ0, TJ0, 4)) rfl hXi
  obtain ⟨r, h1, cell, q1, q2, q3, q4⟩ := hP i _ hXi
  have hr : r = (RJ0, TJ0, 4) := Option.some.inj (h1.symm.trans rfl)
  subst hr
  obtain ⟨hS, hfc, kC, hkC, hkind⟩ := hK.1 0 (RJ0, TJ0, 4) rfl
  have hf : ∀ k : Nat, k < 4 → ∀ x : Value, [Value.ref v, .int 0, v2, v3][k]? = some x → va_OF (TJ0 k).1 (TJ0 k).2.1 (TJ0 k).2.2.1 x q (va_A wc H.size) s H := by
    intro k hk x hx
    obtain ⟨cf, kf, fi, f, hi, hsl⟩ := hS k hk
    refine ⟨cf, kf, fi, f, cell, hi, (u_facts hfc hkC (u_lays hts hin hk) hi).1, q1, by rw [q3]; exact fun h => (by cases h), ?_, o1⟩
    rw [hsl, q4 k hk]
    simp only [vp_V, List.getD_eq_getElem?_getD, hx, Option.getD_some]
  refine ⟨⟨cell0, r1, r2, r3, o1⟩, hf 1 (by decide) _ rfl, hf 0 (by decide) _ rfl, ?_⟩
  have hc : H[v]? = some (vp_cell cY (n, .inl bt)) := hP j _ hXj
  have hA := (hK.2 t0 _ ht).1 n (fun j => .int (bt j))
  refine ⟨_, hc, hA, ?_, ?_, ?_, ?_, o2⟩
  · intro h; cases h
  · show n ≤ (arrV _ _ _).slots.size; rw [arrV_size]; exact Nat.le_refl _
  · show (arrV _ _ _).slots.size.toInt32 = _; rw [arrV_size]
  · intro k hk; show (arrV _ _ _).slots[k]? = _; rw [arrV_read _ _ hk]
theorem czs_w {args : Array Value} {adK adV : Nat → Nat} {A : Nat → Prop} {s : State} {H : Heap} {locs : List Loc} {D : va_G} {tys : List (ClassId × FieldType)} {X pl wc : va_W} {Ts : List Cond} {q v n : Nat} {bt : Nat → Int32} {cY : ClassId} {v2 v3 : Value} (hZ : cz adK adV A s s.heap) (hS : va_S A s.heap H locs) (hF : ∀ q, va_A wc H.size q → A q) (hts : ∀ w ∈ Ts, w.before args s = true) (hin : ∀ w ∈ u_ws RJ0 TJ0 4, w ∈ Ts) (hK : va_K D vwCl tys s) (hP : va_P D vwCl (X ++ pl) H) (hD : va_D A (X ++ pl)) (i j t0 : Nat) (hi : X[i]? = some (q, .inr (0, [.ref v, .int 0, v2, v3]))) (hj : X[j]? = some (v, .inl (cY, n, .inl bt))) (ht : tys[t0]? = some (cY, .byte)) (isC : List Nat) (hC : isC.map (fun i => X[i]?) = wc.map some) (hni : i ∉ isC) (hnj : j ∉ isC) : ∀ U : State, U.heap = H → s.WarmedH U.vm → czs adK adV q v n bt (va_A wc H.size) U H := by
  intro U hU hW
  have h := strZ_w hts hin hK hP hD i j t0 hi hj ht isC hC hni hnj
  have ha := hW.alike
  exact ⟨czc hZ hS hF U hU hW, va_O.moved ha h.1, va_OF.moved ha h.2.1, va_OF.moved ha h.2.2.1, va_T.moved ha h.2.2.2⟩
/-- a brick that has just been made -/
theorem bk_any1 {adK adV : Nat → Nat} {A : Nat → Prop} {s : State} {H H0 : Heap} {D : va_G} {tys : List (ClassId × FieldType)} {ws : va_W} {a : Nat} (j : Nat) (hj : j < 5) (hZ : cz adK adV A s H0) (hK : va_K D vwCl tys s) (hP : va_P D vwCl ws H) {q0 : Nat} {fs : List Value} (he : ws[q0]? = some (a, .inr (bk_ci j, fs))) : va_Any RX0 s H a := by
  have hc := hZ.2.1
  have cs : ∀ {C E : String}, va_Nw (.castable C E) s → ∀ comp c0 : ClassId, s.vm.findClass E = some comp → s.vm.findClass C = some c0 → s.vm.assignable c0 comp = true := by
    intro C E h comp c0 h1 h2
    have h3 := h
    simp only [va_Nw, Cond.before, Cond.holds, Cond.value, h1, h2] at h3
    simpa using h3
  rcases (show j = 0 ∨ j = 1 ∨ j = 2 ∨ j = 3 ∨ j = 4 by omega) with rfl | rfl | rfl | rfl | rfl
  · exact va_rAny (r := (RX0, TX0, 0)) hK hP he rfl (fun comp c0 h1 h2 => by rw [show RX0 = RX0 from rfl] at h1; rw [h1] at h2; cases h2; exact va_asg _ _)
  · exact va_rAny (r := (RX1, TX1, 0)) hK hP he rfl (cs (hc _ (by decide +kernel)))
  · exact va_rAny (r := (RX3, TX3, 0)) hK hP he rfl (cs (hc _ (by decide +kernel)))
  · exact va_rAny (r := (RX9, TX9, 0)) hK hP he rfl (cs (hc _ (by decide +kernel)))
  · exact va_rAny (r := (RX2, TX2, 0)) hK hP he rfl (cs (hc _ (by decide +kernel)))
/-- a sight that has just been made comes among the pooled -/
def sgv (x0 x1 x2 x3 : Int32) : Nat → Int32 := fun i => [x0, x1, x2, x3].getD i 0
theorem sg_app {y : Nat} {sL : List Nat} {sf : Nat → Nat → Int32} {x0 x1 x2 x3 : Int32} (h : y ∉ sL) : va_pl sL (sgF sf) ++ [(y, .inr (9, [.int x0, .int x1, .int x2, .int x3]))] = va_pl (sL ++ [y]) (sgF (va_up sf y (sgv x0 x1 x2 x3))) := by
  rw [va_pl_push h]
  refine va_pl_congr (fun a => ?_)
  by_cases ha : a = y
  · subst ha
    rw [va_up_self]
    simp only [sgF, va_up_self, sgv]
    rfl
  · rw [va_up_ne _ _ ha]
    simp only [sgF, va_up_ne _ _ ha]
theorem sg_fresh {A : Nat → Prop} {X : va_W} {sL : List Nat} {sf : Nat → Nat → Int32} {y : Nat} {e : va_E} (hD : va_D A ((X ++ [(y, e)]) ++ va_pl sL (sgF sf))) : y ∉ sL := by
  intro hy
  obtain ⟨k, hk⟩ := va_pl_get (X := X ++ [(y, e)]) (f := sgF sf) hy
  have h1 : ((X ++ [(y, e)]) ++ va_pl sL (sgF sf))[X.length]? = some (y, e) := by
    rw [List.getElem?_append_left (by simp), List.getElem?_append_right (Nat.le_refl _)]
    simp
  have h2 : X.length = k := hD.1 _ _ _ _ h1 hk rfl
  obtain ⟨j, hj, hja⟩ := List.getElem_of_mem hy
  have h3 : ((X ++ [(y, e)]) ++ va_pl sL (sgF sf))[(X ++ [(y, e)]).length + j]? = some (y, sgF sf y) := by
    rw [List.getElem?_append_right (by omega)]
    simp only [va_pl, List.getElem?_map]
    rw [show (X ++ [(y, e)]).length + j - (X ++ [(y, e)]).length = j by omega, List.getElem?_eq_getElem hj, hja]
    rfl
  have h4 : X.length = (X ++ [(y, e)]).length + j := hD.1 _ _ _ _ h1 h3 rfl
  simp at h4
  omega
theorem sg_pushP {D : va_G} {cl : List vw_C} {H : Heap} {X : va_W} {sL : List Nat} {sf : Nat → Nat → Int32} {y : Nat} {x0 x1 x2 x3 : Int32} (hn : y ∉ sL) (hP : va_P D cl ((X ++ [(y, .inr (9, [.int x0, .int x1, .int x2, .int x3]))]) ++ va_pl sL (sgF sf)) H) : va_P D cl (X ++ va_pl (sL ++ [y]) (sgF (va_up sf y (sgv x0 x1 x2 x3)))) H := by
  have h := hP.swap
  rw [List.append_assoc, sg_app hn] at h
  exact h
theorem sg_pushD {A : Nat → Prop} {X : va_W} {sL : List Nat} {sf : Nat → Nat → Int32} {y : Nat} {x0 x1 x2 x3 : Int32} (hn : y ∉ sL) (hD : va_D A ((X ++ [(y, .inr (9, [.int x0, .int x1, .int x2, .int x3]))]) ++ va_pl sL (sgF sf))) : va_D A (X ++ va_pl (sL ++ [y]) (sgF (va_up sf y (sgv x0 x1 x2 x3)))) := by
  have h := hD.swap
  rw [List.append_assoc, sg_app hn] at h
  exact h
