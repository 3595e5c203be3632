/-! texts that the caller made; a brick just made; pooled rows; arrays of arrays -/
theorem va_outA {A : Nat → Prop} {X pl wc : va_W} {D : va_G} {cl : List vw_C} {H : Heap} {i a : Nat} {e : va_E} (hP : va_P D cl (X ++ pl) H) (hD : va_D A (X ++ pl)) (hi : X[i]? = some (a, e)) (isC : List Nat) (hC : isC.map (fun i => X[i]?) = wc.map some) (hn : i ∉ isC) : ¬ va_A wc H.size a := by
  have hX : (X ++ pl)[i]? = some (a, e) := by rw [List.getElem?_append_left (List.getElem?_eq_some_iff.mp hi).1]; exact hi
  intro h
  rcases h with ⟨k, e', h⟩ | h
  · obtain ⟨j, h1, h2⟩ := va_in_of isC hC h
    have h3 : (X ++ pl)[j]? = some (a, e') := by rw [List.getElem?_append_left (List.getElem?_eq_some_iff.mp h2).1]; exact h2
    have h4 : i = j := hD.1 i j _ _ hX h3 rfl
    exact hn (h4 ▸ List.mem_of_getElem? h1)
  · have := (hP i _ hX).lt
    have h5 : a < H.size := this
    omega
/-- a text whose two cells are the caller's -/
theorem strZ_w {args : Array Value} {A : Nat → Prop} {s : State} {H : Heap} {D : va_G} {tys : List (ClassId × FieldType)} {X pl wc : va_W} {Ts : List Cond} {q v n : Nat} {bt : Nat → Int32} {cY : ClassId} {v2 v3 : Value} (hts : ∀ w ∈ Ts, w.before args s = true) (hin : ∀ w ∈ u_ws RJ0 TJ0 4, w ∈ Ts) (hK : va_K D vwCl tys s) (hP : va_P D vwCl (X ++ pl) H) (hD : va_D A (X ++ pl)) (i j t0 : Nat) (hi : X[i]? = some (q, .inr (0, [.ref v, .int 0, v2, v3]))) (hj : X[j]? = some (v, .inl (cY, n, .inl bt))) (ht : tys[t0]? = some (cY, .byte)) (isC : List Nat) (hC : isC.map (fun i => X[i]?) = wc.map some) (hni : i ∉ isC) (hnj : j ∉ isC) : strZ q v n bt (va_A wc H.size) s H := by
  have o1 := va_outA hP hD hi isC hC hni
  have o2 := va_outA hP hD hj isC hC hnj
  have hXi : (X ++ pl)[i]? = some (q, .inr (0, [.ref v, .int 0, v2, v3])) := by rw [List.getElem?_append_left (List.getElem?_eq_some_iff.mp hi).1]; exact hi
  have hXj : (X ++ pl)[j]? = some (v, .inl (cY, n, .inl bt)) := by rw [List.getElem?_append_left (List.getElem?_eq_some_iff.mp hj).1]; exact hj
  obtain ⟨cell0, r1, r2, r3⟩ := va_recv hK hP (ci := 0) (q := (RJ0, TJ0, 4)) rfl hXi
  obtain ⟨r, h1, cell, q1, q2, q3, q4⟩ := hP i _ hXi
  have hr : r = (RJ0, TJ0, 4) := Option.some.inj (h1.symm.trans rfl)
  subst hr
  obtain ⟨hS, hfc, kC, hkC, hkind⟩ := hK.1 0 (RJ0, TJ0, 4) rfl
  have hf : ∀ k : Nat, k < 4 → ∀ x : Value, [Value.ref v, .int 0, v2, v3][k]? = some x → va_OF (TJ0 k).1 (TJ0 k).2.1 (TJ0 k).2.2.1 x q (va_A wc H.size) s H := by
    intro k hk x hx
    obtain ⟨cf, kf, fi, f, hi, hsl⟩ := hS k hk
    refine ⟨cf, kf, fi, f, cell, hi, (u_facts hfc hkC (u_lays hts hin hk) hi).1, q1, by rw [q3]; exact fun h => (by cases h), ?_, o1⟩
    rw [hsl, q4 k hk]
    simp only [vp_V, List.getD_eq_getElem?_getD, hx, Option.getD_some]
  refine ⟨⟨cell0, r1, r2, r3, o1⟩, hf 1 (by decide) _ rfl, hf 0 (by decide) _ rfl, ?_⟩
  have hc : H[v]? = some (vp_cell cY (n, .inl bt)) := hP j _ hXj
  have hA := (hK.2 t0 _ ht).1 n (fun j => .int (bt j))
  refine ⟨_, hc, hA, ?_, ?_, ?_, ?_, o2⟩
  · intro h; cases h
  · show n ≤ (arrV _ _ _).slots.size; rw [arrV_size]; exact Nat.le_refl _
  · show (arrV _ _ _).slots.size.toInt32 = _; rw [arrV_size]
  · intro k hk; show (arrV _ _ _).slots[k]? = _; rw [arrV_read _ _ hk]
theorem czs_w {args : Array Value} {adK adV : Nat → Nat} {A : Nat → Prop} {s : State} {H : Heap} {locs : List Loc} {D : va_G} {tys : List (ClassId × FieldType)} {X pl wc : va_W} {Ts : List Cond} {q v n : Nat} {bt : Nat → Int32} {cY : ClassId} {v2 v3 : Value} (hZ : cz adK adV A s s.heap) (hS : va_S A s.heap H locs) (hF : ∀ q, va_A wc H.size q → A q) (hts : ∀ w ∈ Ts, w.before args s = true) (hin : ∀ w ∈ u_ws RJ0 TJ0 4, w ∈ Ts) (hK : va_K D vwCl tys s) (hP : va_P D vwCl (X ++ pl) H) (hD : va_D A (X ++ pl)) (i j t0 : Nat) (hi : X[i]? = some (q, .inr (0, [.ref v, .int 0, v2, v3]))) (hj : X[j]? = some (v, .inl (cY, n, .inl bt))) (ht : tys[t0]? = some (cY, .byte)) (isC : List Nat) (hC : isC.map (fun i => X[i]?) = wc.map some) (hni : i ∉ isC) (hnj : j ∉ isC) : ∀ U : State, U.heap = H → s.WarmedH U.vm → czs adK adV q v n bt (va_A wc H.size) U H := by
  intro U hU hW
  have h := strZ_w hts hin hK hP hD i j t0 hi hj ht isC hC hni hnj
  have ha := hW.alike
  exact ⟨czc hZ hS hF U hU hW, va_O.moved ha h.1, va_OF.moved ha h.2.1, va_OF.moved ha h.2.2.1, va_T.moved ha h.2.2.2⟩
/-- a brick that has just been made -/
theorem bk_any1 {adK adV : Nat → Nat} {A : Nat → Prop} {s : State} {H H0 : Heap} {D : va_G} {tys : List (ClassId × FieldType)} {ws : va_W} {a : Nat} (j : Nat) (hj : j < 5) (hZ : cz adK adV A s H0) (hK : va_K D vwCl tys s) (hP : va_P D vwCl ws H) {q0 : Nat} {fs : List Value} (he : ws[q0]? = some (a, .inr (bk_ci j, fs))) : va_Any RX0 s H a := by
  have hc := hZ.2.1
  have cs : ∀ {C E : String}, va_Nw (.castable C E) s → ∀ comp c0 : ClassId, s.vm.findClass E = some comp → s.vm.findClass C = some c0 → s.vm.assignable c0 comp = true := by
    intro C E h comp c0 h1 h2
    have h3 := h
    simp only [va_Nw, Cond.before, Cond.holds, Cond.value, h1, h2] at h3
    simpa using h3
  rcases (show j = 0 ∨ j = 1 ∨ j = 2 ∨ j = 3 ∨ j = 4 by omega) with rfl | rfl | rfl | rfl | rfl
  · exact va_rAny (r := (RX0, TX0, 0)) hK hP he rfl (fun comp c0 h1 h2 => by rw [show RX0 = RX0 from rfl] at h1; rw [h1] at h2; cases h2; exact va_asg _ _)
  · exact va_rAny (r := (RX1, TX1, 0)) hK hP he rfl (cs (hc _ (by decide +kernel)))
  · exact va_rAny (r := (RX3, TX3, 0)) hK hP he rfl (cs (hc _ (by decide +kernel)))
  · exact va_rAny (r := (RX9, TX9, 0)) hK hP he rfl (cs (hc _ (by decide +kernel)))
  · exact va_rAny (r := (RX2, TX2, 0)) hK hP he rfl (cs (hc _ (by decide +kernel)))
/-- a sight that has just been made comes among the pooled -/
def sgv (x0 x1 x2 x3 : Int32) : Nat → Int32 := fun i => [x0, x1, x2, x3].getD i 0
theorem sg_app {y : Nat} {sL : List Nat} {sf : Nat → Nat → Int32} {x0 x1 x2 x3 : Int32} (h : y ∉ sL) : va_pl sL (sgF sf) ++ [(y, .inr (9, [.int x0, .int x1, .int x2, .int x3]))] = va_pl (sL ++ [y]) (sgF (va_up sf y (sgv x0 x1 x2 x3))) := by
  rw [va_pl_push h]
  refine va_pl_congr (fun a => ?_)
  by_cases ha : a = y
  · subst ha
    rw [va_up_self]
    simp only [sgF, va_up_self, sgv]
    rfl
  · rw [va_up_ne _ _ ha]
    simp only [sgF, va_up_ne _ _ ha]
theorem sg_fresh {A : Nat → Prop} {X : va_W} {sL : List Nat} {sf : Nat → Nat → Int32} {y : Nat} {e : va_E} (hD : va_D A ((X ++ [(y, e)]) ++ va_pl sL (sgF sf))) : y ∉ sL := by
  intro hy
  obtain ⟨k, hk⟩ := va_pl_get (X := X ++ [(y, e)]) (f := sgF sf) hy
  have h1 : ((X ++ [(y, e)]) ++ va_pl sL (sgF sf))[X.length]? = some (y, e) := by
    rw [List.getElem?_append_left (by simp), List.getElem?_append_right (Nat.le_refl _)]
    simp
  have h2 : X.length = k := hD.1 _ _ _ _ h1 hk rfl
  obtain ⟨j, hj, hja⟩ := List.getElem_of_mem hy
  have h3 : ((X ++ [(y, e)]) ++ va_pl sL (sgF sf))[(X ++ [(y, e)]).length + j]? = some (y, sgF sf y) := by
    rw [List.getElem?_append_right (by omega)]
    simp only [va_pl, List.getElem?_map]
    rw [show (X ++ [(y, e)]).length + j - (X ++ [(y, e)]).length = j by omega, List.getElem?_eq_getElem hj, hja]
    rfl
  have h4 : X.length = (X ++ [(y, e)]).length + j := hD.1 _ _ _ _ h1 h3 rfl
  simp at h4
  omega
theorem sg_pushP {D : va_G} {cl : List vw_C} {H : Heap} {X : va_W} {sL : List Nat} {sf : Nat → Nat → Int32} {y : Nat} {x0 x1 x2 x3 : Int32} (hn : y ∉ sL) (hP : va_P D cl ((X ++ [(y, .inr (9, [.int x0, .int x1, .int x2, .int x3]))]) ++ va_pl sL (sgF sf)) H) : va_P D cl (X ++ va_pl (sL ++ [y]) (sgF (va_up sf y (sgv x0 x1 x2 x3)))) H := by
  have h := hP.swap
  rw [List.append_assoc, sg_app hn] at h
  exact h
theorem sg_pushD {A : Nat → Prop} {X : va_W} {sL : List Nat} {sf : Nat → Nat → Int32} {y : Nat} {x0 x1 x2 x3 : Int32} (hn : y ∉ sL) (hD : va_D A ((X ++ [(y, .inr (9, [.int x0, .int x1, .int x2, .int x3]))]) ++ va_pl sL (sgF sf))) : va_D A (X ++ va_pl (sL ++ [y]) (sgF (va_up sf y (sgv x0 x1 x2 x3)))) := by
  have h := hD.swap
  rw [List.append_assoc, sg_app hn] at h
  exact h
/-- what the tables say of an array of arrays: it stays over calls -/
def va_AOA (ty : FieldType) (U : State) : Prop := (Cond.arrayOver (.array ty)).before #[] U = true
theorem va_AOA.use {ty : FieldType} {A : Array Value} {U : State} (h : va_AOA ty U) : (Cond.arrayOver (.array ty)).before A U = true := h
theorem va_AOA.moved {ty : FieldType} {u U : State} (hvm : u.vm.Alike U.vm) (h : va_AOA ty u) : va_AOA ty U := by
  obtain ⟨comp, c, k, h1, h2, h3, h4, h5⟩ := arrayOver_specB h
  obtain ⟨k', hk', he⟩ := hvm.2.2 _ _ h3
  have hi : (U.vm.classes.findIdx? fun (x : Class) => match x.kind with | .array component _ => component == comp | _ => false) = some c := by
    refine (va_idx_bare U.vm comp).symm.trans ?_
    first | rw [hvm.bare_eq] | rw [← hvm.bare_eq]
    exact (va_idx_bare u.vm comp).trans h2
  have hkind : k'.kind = .array comp (.array ty) := by rw [he]; exact h4
  have f1 : U.vm.findClass (FieldType.array ty).toString = some comp := by rw [hvm.findClass]; exact h1
  have f2 : U.vm.findClass ("[" ++ (FieldType.array ty).toString) = some c := by rw [hvm.findClass]; exact h5
  unfold va_AOA Cond.before Cond.holds
  simp only [Cond.value]
  rw [f1, Option.bind_some]
  refine (congrArg (fun o : Option Nat => (o.bind (fun c => (U.vm.classes[c]?).map fun (k : Class) => match k.kind with | .array _ t => decide (t = FieldType.array ty) && decide (U.vm.findClass ("[" ++ (FieldType.array ty).toString) = some c) | _ => false) == some true)) hi).trans ?_
  simp [hk', hkind, f2]
def czo (adK adV : Nat → Nat) : g_Z := fun A U H => cz adK adV A U H ∧ va_AOA .int U
theorem czob {adK adV : Nat → Nat} : g_zb (czo adK adV) := fun A U U' H hv h => ⟨czb A U U' H hv h.1, va_AOA.moved (alike_of_eq hv) h.2⟩
theorem czoc {adK adV : Nat → Nat} {A : Nat → Prop} {s : State} {H : Heap} {locs : List Loc} (hZ : czo adK adV A s s.heap) (hS : va_S A s.heap H locs) {B : Nat → Prop} (hF : ∀ q, B q → A q) : ∀ U : State, U.heap = H → s.WarmedH U.vm → czo adK adV B U H :=
  fun U hU hW => ⟨czc hZ.1 hS hF U hU hW, va_AOA.moved hW.alike hZ.2⟩
section VGM
variable {p : Program} {l : Launch} {e : Env} {R : Room} {s : State} {m : MethodId} {args : Array Value} {below : List Frame} {meth : Method} {c : Code} {H : Heap} {locs : List Loc} {cells slots : Nat} {Q : State → Prop}
variable {cc : ByteArray} {pc : Nat} {ls : Array Slot} {rest : List Value} {D : va_G} {cl : List vw_C} {A : Nat → Prop} {a : Nat} {tys : List (ClassId × FieldType)} {ws : va_W} {H0 : Heap}
theorem va_mna {X : va_W} {L : List Nat} {f : Nat → va_E} {cc : ByteArray} (hexec : p.tables.exec = Jvm.exec) (hb : c.code = cc) {own : String} {index : Nat} {ty : FieldType} {cy : ClassId} (hown : s.vm.findClass own = some m.cls) (hclink : (Cond.classLink own index ("[" ++ (FieldType.array ty).toString)).before args s = true) (hover : va_AOA ty s) (harr : (Cond.arrayClass ty).before args s = true) (hcy : s.vm.findClass (FieldType.array ty).toString = some cy)
    (hK : va_K D cl tys s) (hP : va_P D cl (X ++ va_pl L f) H) (hD : va_D A (X ++ va_pl L f)) (hS : va_S A H0 H locs) (hA : ∀ q, H0.size ≤ q → A q) {n k : Int32} {N' K' : Nat} {z : vp_A} (hn : ¬ n < 0) (hk : ¬ k < 0) (hN : n.toNatClampNeg = N') (hM : k.toNatClampNeg = K')
    (hb1 : N' * 4 ≤ 536870912) (hb2 : K' * componentBytes ty ≤ 536870912) (hb3 : K' ≤ 536870912) (hdf : fits ty (defaultValue ty) = true) (hdd : (defaultValue ty).isDefault = true) (hcells : cells + (1 + N') ≤ R.cells) (hslots : slots + (N' + N' * K') ≤ R.slots) (hz : ∀ c : ClassId, Jvm.Free.Multi.innerC c K' (defaultValue ty) = vp_cell c z) (hdg : decode cc pc = .ok (.multianewarray index 2, 4))
    (kk : ∀ (q : Nat) (r : Nat → Nat) (cA : ClassId) (H1 : Heap), (∀ i j : Nat, i < N' → j < N' → r i = r j → i = j) → (∀ i : Nat, i < N' → r i ∉ L) → va_K D cl (tys ++ [(cA, .array ty)]) s →
      va_P D cl ((X ++ [(q, .inl (cA, N', .inr (.inr (.inr (.inr (fun i => if i < N' then some (r i) else none))))))]) ++ va_pl (L ++ (List.range N').map r) (vr_up f ((List.range N').map r) (.inl (cy, z)))) H1 → va_D A ((X ++ [(q, .inl (cA, N', .inr (.inr (.inr (.inr (fun i => if i < N' then some (r i) else none))))))]) ++ va_pl (L ++ (List.range N').map r) (vr_up f ((List.range N').map r) (.inl (cy, z)))) → va_S A H0 H1 locs →
      W p l e R s m args below meth c H1 locs (cells + 1 + N') (slots + N' + N' * K') Q (F0 m (pc + 4) ls (.ref q :: rest))) : W p l e R s m args below meth c H locs cells slots Q (F0 m pc ls (.int k :: .int n :: rest)) := by
  subst hN
  subst hM
  intro T hT Xs
  obtain ⟨vm₁, cA, comp, -, fA, fC, hO, -, X', step⟩ := Xs.multianewarray2F hexec hown hclink (va_AOA.use hover) harr (g := F0 m pc ls (.int k :: .int n :: rest)) rfl (by rw [hb]; exact hdg) rfl hn hk hb1 hb2 hb3 hdf hdd hcells hslots
  have ec : some cy = some comp := hcy.symm.trans fC
  cases ec
  generalize hF : Jvm.Free.Multi.fill (T.setVm vm₁) cA cy n.toNatClampNeg k.toNatClampNeg (defaultValue ty) n.toNatClampNeg = F at X' step
  have hTh : (T.setVm vm₁).heap = H := hT
  obtain ⟨f1, f2, -, -⟩ := Jvm.Free.Multi.fill_facts (T.setVm vm₁) cA cy n.toNatClampNeg k.toNatClampNeg (defaultValue ty) n.toNatClampNeg
  rw [hF, hTh] at f1 f2
  have hold : ∀ x : Nat, x < H.size → F.heap[x]? = H[x]? := fun x hx => by
    have := Jvm.Free.Multi.fill_old (T.setVm vm₁) cA cy n.toNatClampNeg k.toNatClampNeg (defaultValue ty) (a := x) (by rw [hTh]; exact hx) n.toNatClampNeg
    rw [hF, hTh] at this
    exact this
  have hrow : ∀ j : Nat, j < n.toNatClampNeg → F.heap[H.size + 1 + j]? = some (vp_cell cy z) := fun j hj => by
    have := Jvm.Free.Multi.fill_inner (T.setVm vm₁) cA cy n.toNatClampNeg k.toNatClampNeg (defaultValue ty) n.toNatClampNeg j hj
    rw [hF, hTh, hz] at this
    exact this
  have hout : Jvm.Free.Multi.outerC cA n.toNatClampNeg H.size n.toNatClampNeg = vp_cell cA (n.toNatClampNeg, .inr (.inr (.inr (.inr (fun i => if i < n.toNatClampNeg then some (H.size + 1 + i) else none))))) := by
    rw [vp_cell_q]
    exact vr_outer cA n.toNatClampNeg H.size n.toNatClampNeg
  rw [hout] at f2
  have hlt : ∀ a, a ∈ L → a < H.size := fun a ha => by
    obtain ⟨k9, hk9⟩ := va_pl_get (X := X) (f := f) ha
    exact (hP k9 _ hk9).lt
  have hnl : ∀ i : Nat, i < n.toNatClampNeg → H.size + 1 + i ∉ L := fun i _ h => by
    have := hlt _ h
    omega
  have hnm : ∀ a, a ∈ (List.range n.toNatClampNeg).map (fun i => H.size + 1 + i) → a ∉ L := fun a ha h => by
    obtain ⟨i, -, rfl⟩ := List.mem_map.mp ha
    have := hlt _ h
    omega
  have hP0 : va_P D cl (X ++ va_pl L f) F.heap := hP.kept (fun k9 x hx => hold x.1 ((hP k9 x hx).lt))
  have hP1 : va_P D cl ((X ++ va_pl L f) ++ [(H.size, .inl (cA, n.toNatClampNeg, .inr (.inr (.inr (.inr (fun i => if i < n.toNatClampNeg then some (H.size + 1 + i) else none))))))]) F.heap := hP0.app (fun k9 x hx => by
    have h0 : k9 < 1 := (List.getElem?_eq_some_iff.mp hx).1
    rw [show k9 = 0 by omega] at hx
    cases hx
    exact f2)
  have hP2 : va_P D cl (((X ++ va_pl L f) ++ [(H.size, .inl (cA, n.toNatClampNeg, .inr (.inr (.inr (.inr (fun i => if i < n.toNatClampNeg then some (H.size + 1 + i) else none))))))]) ++ ((List.range n.toNatClampNeg).map (fun i => H.size + 1 + i)).map (fun a => (a, .inl (cy, z)))) F.heap := hP1.app (fun k9 x hx => by
    obtain ⟨a, ha, rfl⟩ := List.mem_map.mp (List.mem_of_getElem? hx)
    obtain ⟨i, hi, rfl⟩ := List.mem_map.mp ha
    exact hrow i (List.mem_range.mp hi))
  have hD2 : va_D A (((X ++ va_pl L f) ++ [(H.size, .inl (cA, n.toNatClampNeg, .inr (.inr (.inr (.inr (fun i => if i < n.toNatClampNeg then some (H.size + 1 + i) else none))))))]) ++ ((List.range n.toNatClampNeg).map (fun i => H.size + 1 + i)).map (fun a => (a, .inl (cy, z)))) := by
    have hD1 := hD.push (e := .inl (cA, n.toNatClampNeg, .inr (.inr (.inr (.inr (fun i => if i < n.toNatClampNeg then some (H.size + 1 + i) else none)))))) hP rfl (hA _ hS.1)
    generalize hW1 : (X ++ va_pl L f) ++ [(H.size, .inl (cA, n.toNatClampNeg, .inr (.inr (.inr (.inr (fun i => if i < n.toNatClampNeg then some (H.size + 1 + i) else none))))))] = W1 at hD1 hP1 ⊢
    have hle : ∀ (k9 : Nat) (x : Nat × va_E), W1[k9]? = some x → x.1 ≤ H.size := fun k9 x hx => by
      rw [← hW1] at hx
      by_cases hl : k9 < (X ++ va_pl L f).length
      · rw [List.getElem?_append_left hl] at hx
        exact Nat.le_of_lt ((hP k9 x hx).lt)
      · rw [List.getElem?_append_right (by omega)] at hx
        have h0 : k9 - (X ++ va_pl L f).length < 1 := (List.getElem?_eq_some_iff.mp hx).1
        rw [show k9 - (X ++ va_pl L f).length = 0 by omega] at hx
        cases hx
        exact Nat.le_refl _
    have hr : ∀ (k9 : Nat) (x : Nat × va_E), (((List.range n.toNatClampNeg).map (fun i => H.size + 1 + i)).map (fun a => ((a, .inl (cy, z)) : Nat × va_E)))[k9]? = some x → x.1 = H.size + 1 + k9 := fun k9 x hx => by
      rw [List.getElem?_map, List.getElem?_map] at hx
      by_cases h9 : k9 < n.toNatClampNeg
      · rw [List.getElem?_range h9] at hx
        cases hx
        rfl
      · have hn0 : (List.range n.toNatClampNeg)[k9]? = none := List.getElem?_eq_none (by rw [List.length_range]; omega)
        rw [hn0] at hx
        cases hx
    refine ⟨fun i j x y hi hj hxy => ?_, fun k9 x hx => ?_⟩
    · by_cases h1 : i < W1.length <;> by_cases h2 : j < W1.length
      · rw [List.getElem?_append_left h1] at hi
        rw [List.getElem?_append_left h2] at hj
        exact hD1.1 i j x y hi hj hxy
      · rw [List.getElem?_append_left h1] at hi
        rw [List.getElem?_append_right (by omega)] at hj
        have := hle _ _ hi
        have := hr _ _ hj
        omega
      · rw [List.getElem?_append_right (by omega)] at hi
        rw [List.getElem?_append_left h2] at hj
        have := hle _ _ hj
        have := hr _ _ hi
        omega
      · rw [List.getElem?_append_right (by omega)] at hi hj
        have := hr _ _ hi
        have := hr _ _ hj
        omega
    · by_cases h1 : k9 < W1.length
      · rw [List.getElem?_append_left h1] at hx
        exact hD1.2 k9 x hx
      · rw [List.getElem?_append_right (by omega)] at hx
        have := hr _ _ hx
        exact hA _ (by have := hS.1; omega)
  have hAr : ArrOfT s cA (.array ty) := fun N9 z9 => by
    obtain ⟨-, k9, hk9, cm9, hkk9⟩ := (hO 0 0 0).1
    exact ⟨(fun q hq => by cases hq), k9, hk9, cm9, hkk9⟩
  have hK2 : va_K D cl (tys ++ [(cA, .array ty)]) s := ⟨hK.1, fun k9 x hx => by
    by_cases hl : k9 < tys.length
    · rw [List.getElem?_append_left hl] at hx
      exact hK.2 k9 x hx
    · rw [List.getElem?_append_right (by omega)] at hx
      have h0 : k9 - tys.length < 1 := (List.getElem?_eq_some_iff.mp hx).1
      rw [show k9 - tys.length = 0 by omega] at hx
      cases hx
      exact ⟨hAr, fA⟩⟩
  obtain ⟨t, a1, b1⟩ := kk H.size (fun i => H.size + 1 + i) cA F.heap (fun i j _ _ h => by have h9 : H.size + 1 + i = H.size + 1 + j := h; omega) hnl hK2 (by rw [← vr_rows hnm]; exact vr_lay hP2) (by rw [← vr_rows hnm]; exact vr_layD hD2) ⟨by rw [f1]; have := hS.1; omega, fun x h1 h2 => (hold x (Nat.lt_of_lt_of_le h1 hS.1)).trans (hS.2.1 x h1 h2), hS.2.2⟩ F rfl X'
  refine ⟨t, step t ?_, b1⟩
  have e : T.heap.size = H.size := by rw [hT]
  rw [e]
  exact a1
end VGM

/-! rows of 244 ints, all of one array of arrays, behind a world's own cells -/
abbrev rwF (cI : ClassId) (T : Nat → Nat → Int32) : Nat → va_E := fun a => .inl (cI, 244, .inl (T a))
abbrev tlO (cO cI : ClassId) (q : Nat) (r : Nat → Nat) (N : Nat) (T : Nat → Nat → Int32) : va_W := (q, .inl (cO, N, .inr (.inr (.inr (.inr (fun i => if i < N then some (r i) else none)))))) :: va_pl ((List.range N).map r) (rwF cI T)
theorem tlO_eq {cO cI : ClassId} {q : Nat} {r : Nat → Nat} {N : Nat} {T : Nat → Nat → Int32} {X pl : va_W} : X ++ (pl ++ tlO cO cI q r N T) = (X ++ (pl ++ [(q, .inl (cO, N, .inr (.inr (.inr (.inr (fun i => if i < N then some (r i) else none))))))])) ++ va_pl ((List.range N).map r) (rwF cI T) := by
  simp [tlO]
theorem tlO_at {cO cI : ClassId} {q : Nat} {r : Nat → Nat} {N : Nat} {T : Nat → Nat → Int32} {X pl : va_W} {i : Nat} (hi : i < N) : ∃ k : Nat, (X ++ (pl ++ tlO cO cI q r N T))[k]? = some ((r i, .inl (cI, 244, .inl (T (r i)))) : Nat × va_E) := by
  rw [tlO_eq]
  exact va_pl_get (List.mem_map.mpr ⟨i, List.mem_range.mpr hi, rfl⟩)
theorem tlO_out {cO cI : ClassId} {q : Nat} {r : Nat → Nat} {N : Nat} {T : Nat → Nat → Int32} {X pl : va_W} : (X ++ (pl ++ tlO cO cI q r N T))[X.length + pl.length]? = some (q, .inl (cO, N, .inr (.inr (.inr (.inr (fun i => if i < N then some (r i) else none)))))) := by
  rw [List.getElem?_append_right (by omega), List.getElem?_append_right (by omega)]
  rw [show X.length + pl.length - X.length - pl.length = 0 by omega]
  rfl
theorem rwF_up {cI : ClassId} {T : Nat → Nat → Int32} {a : Nat} {g : Nat → Int32} : va_up (rwF cI T) a (.inl (cI, 244, .inl g)) = rwF cI (va_up T a g) := by
  funext b
  by_cases h : b = a
  · subst h; simp only [rwF, va_up_self]
  · simp only [rwF, va_up_ne _ _ h]
section GT
variable {p : Program} {l : Launch} {e : Env} {R : Room} {s : State} {m : MethodId} {args : Array Value} {below : List Frame} {meth : Method} {c : Code} {H : Heap} {locs : List Loc} {cells slots : Nat} {Q : State → Prop}
variable {cc : ByteArray} {pc : Nat} {ls : Array Slot} {D : va_G} {cl : List vw_C} {A : Nat → Prop} {H0 : Heap} {tys tysC : List (ClassId × FieldType)} {X pl ws wc : va_W} {mc ms : Nat} {rest st0 : List Value} {a : Array Value}
theorem g_mna {cI cO : ClassId} {own : String} {index : Nat} (hexec : p.tables.exec = Jvm.exec) (hb : c.code = cc) (hown : s.vm.findClass own = some m.cls) (hclink : (Cond.classLink own index "[[I").before args s = true) (hover : va_AOA .int s) (harr : (Cond.arrayClass .int).before args s = true) (hK : va_K D cl tys s) (t0 t1 : Nat) (ht : tys[t0]? = some (cI, .int)) (ht1 : tys[t1]? = some (cO, .array .int)) (hP : va_P D cl (X ++ pl) H) (hD : va_D A (X ++ pl)) (hS : va_S A H0 H locs) (hA : ∀ q, H0.size ≤ q → A q)
    {N' : Nat} (hN : N' ≤ 10) (hcells : cells + 11 ≤ R.cells) (hslots : slots + 2450 ≤ R.slots) (hdg : decode cc pc = .ok (.multianewarray index 2, 4))
    (kk : ∀ (q : Nat) (r : Nat → Nat) (H1 : Heap), (∀ i j : Nat, i < N' → j < N' → r i = r j → i = j) → va_P D cl (X ++ (pl ++ tlO cO cI q r N' (fun _ _ => 0))) H1 → va_D A (X ++ (pl ++ tlO cO cI q r N' (fun _ _ => 0))) → va_S A H0 H1 locs → W p l e R s m args below meth c H1 locs (cells + 11) (slots + 2450) Q (F0 m (pc + 4) ls (.ref q :: rest))) : W p l e R s m args below meth c H locs cells slots Q (F0 m pc ls (.int 244 :: .int (nI N') :: rest)) := by
  have hI : s.vm.findClass (FieldType.array .int).toString = some cI := va_nm_int (hK.2 t0 _ ht).2
  have eX : X ++ pl = (X ++ pl) ++ va_pl [] (fun _ => .inr (0, [])) := by simp [va_pl]
  rw [eX] at hP hD
  have hs2 : N' * 244 ≤ 2440 := by omega
  refine va_mna (N' := N') (K' := 244) (z := (244, .inl (fun _ => 0))) hexec hb hown hclink hover harr hI hK hP hD hS hA (nI_pos (by omega)) (by decide) (nI_clamp (by omega)) (by decide) (by omega) (by decide) (by decide) rfl rfl (by omega) (by omega) (fun c => ?_) hdg (fun q r cA H1 h1 h2 hK' hP' hD' hS' => ?_)
  · show ({ cls := c, slots := Array.replicate 244 (.int 0), vm := .none } : Cell) = arrV c 244 (fun j => .int 0)
    exact arrV_new ..
  · have h3 := (hK'.2 tys.length (cA, .array .int) (by rw [List.getElem?_append_right (Nat.le_refl _)]; simp)).2
    have h4 := (hK.2 t1 _ ht1).2
    have ec : cA = cO := Option.some.inj (Eq.trans (Eq.symm h3) h4)
    subst ec
    have e2 : va_pl ([] ++ (List.range N').map r) (vr_up (fun _ => .inr (0, [])) ((List.range N').map r) (.inl (cI, 244, .inl (fun _ => 0)))) = va_pl ((List.range N').map r) (rwF cI (fun _ _ => 0)) := by
      rw [List.nil_append]
      unfold va_pl
      apply List.map_congr_left
      intro a ha
      rw [vr_up_in ha]
    rw [e2] at hP' hD'
    have e3 : ((X ++ pl) ++ ([(q, .inl (cA, N', .inr (.inr (.inr (.inr (fun i => if i < N' then some (r i) else none))))))] : va_W)) ++ va_pl ((List.range N').map r) (rwF cI (fun _ _ => 0)) = X ++ (pl ++ tlO cA cI q r N' (fun _ _ => 0)) := by
      rw [tlO_eq, List.append_assoc X]
    rw [e3] at hP' hD'
    exact W.widen (by omega) (by omega) (kk q r H1 h1 hP' hD' hS')
theorem g_tla {cI cO : ClassId} {q : Nat} {r : Nat → Nat} {N : Nat} {T : Nat → Nat → Int32} (hexec : p.tables.exec = Jvm.exec) (hb : c.code = cc) (hK : va_K D cl tys s) (t1 : Nat) (ht1 : tys[t1]? = some (cO, .array .int)) (hP : va_P D cl (X ++ (pl ++ tlO cO cI q r N T)) H) {i : Int32} (hin : vp_in i N) (hdg : decode cc pc = .ok (.aaload, 1))
    (kk : W p l e R s m args below meth c H locs cells slots Q (F0 m (pc + 1) ls (.ref (r i.toNatClampNeg) :: rest))) : W p l e R s m args below meth c H locs cells slots Q (F0 m pc ls (.int i :: .ref q :: rest)) := by
  have hlt : i.toNatClampNeg < N := Nat.not_le.mp fun q => hin (Or.inr q)
  have he : va_rf ((fun i => if i < N then some (r i) else none) i.toNatClampNeg) = .ref (r i.toNatClampNeg) := by
    show va_rf (if i.toNatClampNeg < N then some (r i.toNatClampNeg) else none) = _
    rw [if_pos hlt]
    rfl
  have hc := hP _ _ (tlO_out (X := X) (pl := pl) (cO := cO) (cI := cI) (q := q) (r := r) (N := N) (T := T))
  rw [← he] at kk
  exact W.aald (v := va_rf ((fun i => if i < N then some (r i) else none) i.toNatClampNeg)) (ty := .array .int) hexec hb hc ((hK.2 t1 _ ht1).1 N (fun j => va_rf ((fun i => if i < N then some (r i) else none) j))) rfl (fun q => by cases q) (by show ¬ (i < 0 ∨ (arrV _ _ _).slots.size ≤ _); rw [arrV_size]; exact hin) (by show (arrV _ _ _).slots[_]? = _; rw [arrV_read _ _ hlt]) rfl rfl hdg kk
theorem g_tli {cI cO : ClassId} {q b : Nat} {r : Nat → Nat} {N : Nat} {T : Nat → Nat → Int32} (hexec : p.tables.exec = Jvm.exec) (hb : c.code = cc) (hK : va_K D cl tys s) (t0 : Nat) (ht : tys[t0]? = some (cI, .int)) (hP : va_P D cl (X ++ (pl ++ tlO cO cI q r N T)) H) (hbN : b < N) {i : Int32} (hin : vp_in i 244) (hdg : decode cc pc = .ok (.iaload, 1))
    (kk : W p l e R s m args below meth c H locs cells slots Q (F0 m (pc + 1) ls (.int (T (r b) i.toNatClampNeg) :: rest))) : W p l e R s m args below meth c H locs cells slots Q (F0 m pc ls (.int i :: .ref (r b) :: rest)) := by
  obtain ⟨k, hk⟩ := tlO_at (cO := cO) (cI := cI) (q := q) (r := r) (T := T) (X := X) (pl := pl) hbN
  exact va_iald hexec hb hK hP k t0 hk ht hin hdg kk
theorem g_tls {cI cO : ClassId} {q b : Nat} {r : Nat → Nat} {N : Nat} {T : Nat → Nat → Int32} (hexec : p.tables.exec = Jvm.exec) (hb : c.code = cc) (hK : va_K D cl tys s) (t0 : Nat) (ht : tys[t0]? = some (cI, .int)) (hP : va_P D cl (X ++ (pl ++ tlO cO cI q r N T)) H) (hD : va_D A (X ++ (pl ++ tlO cO cI q r N T))) (hS : va_S A H0 H locs) (hbN : b < N) {i x : Int32} (hin : vp_in i 244) (hdg : decode cc pc = .ok (.iastore, 1))
    (kk : ∀ (H1 : Heap) (locs1 : List Loc), va_P D cl (X ++ (pl ++ tlO cO cI q r N (va_up T (r b) (upd (T (r b)) i.toNatClampNeg x)))) H1 → va_D A (X ++ (pl ++ tlO cO cI q r N (va_up T (r b) (upd (T (r b)) i.toNatClampNeg x)))) → va_S A H0 H1 locs1 → W p l e R s m args below meth c H1 locs1 cells slots Q (F0 m (pc + 1) ls rest)) : W p l e R s m args below meth c H locs cells slots Q (F0 m pc ls (.int x :: .int i :: .ref (r b) :: rest)) := by
  have hm : r b ∈ (List.range N).map r := List.mem_map.mpr ⟨b, List.mem_range.mpr hbN, rfl⟩
  rw [tlO_eq] at hP hD
  obtain ⟨k, hk⟩ := va_pl_get (X := X ++ (pl ++ [(q, .inl (cO, N, .inr (.inr (.inr (.inr (fun i => if i < N then some (r i) else none))))))])) (f := rwF cI T) hm
  refine va_iast hexec hb hK hP hD hS k t0 hk ht hin hdg (fun H1 locs1 hP1 hD1 hS1 => ?_)
  rw [va_pl_set hD hm hk, rwF_up, ← tlO_eq] at hP1 hD1
  exact kk H1 locs1 hP1 hD1 hS1
end GT
/-- one cell alone, and it stays as it is -/
theorem g_J.one {D : va_G} {cl : List vw_C} {A : Nat → Prop} {ws : va_W} {k a : Nat} {x : va_E} (hk : ws[k]? = some (a, x)) : g_J D cl A ws [(a, x)] (fun _ : Unit => [(a, x)]) (fun _ => ws) := by
  intro H H0 locs hP hD hS hA
  have hF : ∀ q, va_A [(a, x)] H.size q → A q := fun q h => by
    rcases h with ⟨j, e, h⟩ | h
    · have h0 : j < 1 := (List.getElem?_eq_some_iff.mp h).1
      rw [show j = 0 by omega] at h
      cases h
      exact hD.2 k _ hk
    · exact hA q (Nat.le_trans hS.1 h)
  refine ⟨fun j q hq => ?_, ⟨fun i j p q hi hj _ => ?_, fun j q hq => ?_⟩, hF, fun _ H1 hkp hP1 hD1 => ⟨fun j q hq => ?_, hD⟩⟩
  · have h0 : j < 1 := (List.getElem?_eq_some_iff.mp hq).1
    rw [show j = 0 by omega] at hq
    cases hq
    exact hP k _ hk
  · have h0 : i < 1 := (List.getElem?_eq_some_iff.mp hi).1
    have h1 : j < 1 := (List.getElem?_eq_some_iff.mp hj).1
    omega
  · have h0 : j < 1 := (List.getElem?_eq_some_iff.mp hq).1
    rw [show j = 0 by omega] at hq
    cases hq
    exact hD.2 k _ hk
  · by_cases hja : q.1 = a
    · have hjk : j = k := hD.1 j k _ _ hq hk hja
      subst hjk
      rw [hk] at hq
      cases hq
      exact hP1 0 _ rfl
    · have hlt : q.1 < H.size := (hP j q hq).lt
      refine (hP j q hq).kept (hkp q.1 hlt (fun h => ?_))
      rcases h with ⟨i, e, h⟩ | h
      · have h0 : i < 1 := (List.getElem?_eq_some_iff.mp h).1
        rw [show i = 0 by omega] at h
        cases h
        exact hja rfl
      · omega
theorem tlO_dropP {D : va_G} {cl : List vw_C} {H : Heap} {X pl t : va_W} (h : va_P D cl (X ++ (pl ++ t)) H) : va_P D cl (X ++ pl) H := by
  rw [← List.append_assoc] at h
  exact g_P_left h
theorem tlO_dropD {A : Nat → Prop} {X pl t : va_W} (h : va_D A (X ++ (pl ++ t))) : va_D A (X ++ pl) := by
  rw [← List.append_assoc] at h
  exact g_nodup_left h
