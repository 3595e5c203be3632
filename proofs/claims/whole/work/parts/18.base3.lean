/-! answers that are references: where they lie is read off the answer's own value; new rows of a known array class -/
abbrev g_qr {St : Type} (D : va_G) (cl : List vw_C) (tys : List (ClassId × FieldType)) (WL : St → va_W) (ρ : St → Nat) (Q : St → Prop) (A : Nat → Prop) : Array Value → State → Outcome → State → Prop := va_Qr Q (fun u a t => a = ρ u ∧ g_at D cl tys WL A u t) A
theorem g_startr {St : Type} {WL : St → va_W} {ρ : St → Nat} {Z : g_Z} {l : Launch} {y : MethodName} {ws ws' : List Cond} {rm : Room} {D : va_G} {cl : List vw_C} {tys tysC : List (ClassId × FieldType)} {wc : va_W} {sz : Nat} {av : List Value} {Q' : St → Prop} {mc ms : Nat} {cc : ByteArray} {maxL : Nat} {rt : FieldType} (hrt : (∃ n, rt = .object n) ∨ ∃ t, rt = .array t) (hy : plainName y.cls = true) (hw : ws = Cond.code y cc maxL (some rt) :: ws') (hlen : (lg_sl av).length ≤ maxL)
    (body : ∀ (p : Program) (e : Env) (s : State) (m : MethodId) (args : Array Value) (below : List Frame) (meth : Method) (c : Code) (A : Nat → Prop) (Q : State → Prop) (ls : Array Slot), p.tables.exec = Jvm.exec → c.code = cc → c.maxLocals = maxL → s.vm.findClass y.cls = some m.cls → (∀ w ∈ ws, w.before args s = true) → meth.name = y.name → va_K D cl tys s → va_P D cl wc s.heap → va_D A wc → (∀ q, s.heap.size ≤ q → A q) → va_S A s.heap s.heap [] → Z A s s.heap →
      (∀ {H : Heap} {locs : List Loc} {pc : Nat} {ls : Array Slot} {u : St}, decode cc pc = .ok (.areturn, 1) → va_K D cl tysC s → va_P D cl (WL u) H → va_D A (WL u) → va_S A s.heap H locs → Q' u → W p l e rm s m args below meth c H locs mc ms Q (F0 m pc ls [.ref (ρ u)])) → lv_has ls maxL (lv_args 0 av) →
      W p l e rm s m args below meth c s.heap [] 0 0 Q (F0 m 0 ls [])) :
    Met l y ws rm (g_pre Z D cl tys wc sz av) (g_qr D cl tysC WL ρ Q' (va_A wc sz)) mc ms (va_A wc sz) := by
  refine Met.ofW hy hw ?_
  intro p e s m args below meth c s₁ B hml hv
  obtain ⟨rfl, hsz, hP, hK, hD0, hZ⟩ := hv
  have hown : s.vm.findClass y.cls = some m.cls := findClass_of_methodNamed B.named
  have hin : meth.name = y.name := (name_of_methodNamed B.named B.method).1
  subst hsz
  have hl := lv_entry av (n := maxL) hlen
  rw [lg_entry_eq]
  exact body p e s m av.toArray below meth c (va_A wc s.heap.size) _ _ B.exec B.bytes hml hown (atoms_spec (ws := ws) B.pre) hin hK hP (hD0.self (sz := s.heap.size)) (fun q h => Or.inr h) va_S.rf hZ (fun {H locs pc ls u} hdg hKr hP hD hS hq => W.aret B.exec B.bytes B.returns hrt (Or.inr ⟨_, rfl⟩) (fun t ht hW => ⟨⟨u, ρ u, rfl, hq, rfl, by rw [ht]; exact hP, va_K.moved hW.alike hKr, hD⟩, hS.F ht⟩) hS.2.2 hdg B.notSynchronized) hl
section GR
variable {p : Program} {l : Launch} {e : Env} {R : Room} {s : State} {m : MethodId} {args : Array Value} {below : List Frame} {meth : Method} {c : Code} {H : Heap} {locs : List Loc} {cells slots : Nat} {Q : State → Prop}
variable {cc : ByteArray} {pc : Nat} {ls : Array Slot} {D : va_G} {cl : List vw_C} {A : Nat → Prop} {H0 : Heap} {tys tysC : List (ClassId × FieldType)} {ws wc : va_W} {mc ms : Nat} {rest st0 : List Value} {a : Array Value}
theorem g_cr {St : Type} {WL W2 : St → va_W} {ρ : St → Nat} {Q' : St → Prop} (J : g_J D cl A ws wc WL W2) (isT : List Nat) (hK : va_K D cl tys s) (hP : va_P D cl ws H) (hD : va_D A ws) (hS : va_S A H0 H locs) (hA : ∀ q, H0.size ≤ q → A q) (hT : isT.filterMap (fun i => tys[i]?) = tysC)
    (hr : va_P D cl wc H → va_D A wc → va_K D cl tysC s → (∀ q, va_A wc H.size q → A q) → va_Run p l e R s m args below meth c H locs cells slots mc ms (F0 m pc ls st0) rest (g_qr D cl tysC WL ρ Q' (va_A wc H.size) a) (va_A wc H.size))
    (kk : ∀ (u : St) (H1 : Heap) (locs1 : List Loc), Q' u → va_P D cl (W2 u) H1 → va_D A (W2 u) → va_S A H0 H1 locs1 → W p l e R s m args below meth c H1 locs1 (cells + mc) (slots + ms) Q (F0 m (pc + 3) ls (.ref (ρ u) :: rest))) :
    W p l e R s m args below meth c H locs cells slots Q (F0 m pc ls st0) := by
  obtain ⟨hPc, hDc, hFc, hj⟩ := J H H0 locs hP hD hS hA
  refine va_callr (hr hPc hDc (hK.sub isT hT) hFc) hS (fun q _ h => hFc q h) hFc (fun u ra t H1 locs ht hvm hw hB1 hz1 hk1 hS1 => ?_)
  obtain ⟨era, hP1, hK1, hD1⟩ := hB1
  rw [ht] at hP1
  obtain ⟨hP2, hD2⟩ := hj u H1 hk1 hP1 hD1
  rw [era]
  exact kk u H1 locs hw hP2 hD2 hS1
theorem g_newI {cI : ClassId} (hexec : p.tables.exec = Jvm.exec) (hb : c.code = cc) (harr : (Cond.arrayClass .int).before args s = true) (hK : va_K D cl tys s) (t0 : Nat) (ht : tys[t0]? = some (cI, .int)) (hP : va_P D cl ws H) (hD : va_D A ws) (hS : va_S A H0 H locs) (hA : ∀ q, H0.size ≤ q → A q)
    {n : Int32} {N' B : Nat} (hN : n = nI N') (hB : N' ≤ B) (hB2 : B ≤ 1000000) (hcells : cells + 1 ≤ R.cells) (hslots : slots + B ≤ R.slots) (hdg : decode cc pc = .ok (.newarray .int, 2))
    (kk : ∀ (q : Nat) (H1 : Heap), va_P D cl (ws ++ [(q, .inl (cI, N', .inl (fun _ => 0)))]) H1 → va_D A (ws ++ [(q, .inl (cI, N', .inl (fun _ => 0)))]) → va_S A H0 H1 locs → W p l e R s m args below meth c H1 locs (cells + 1) (slots + B) Q (F0 m (pc + 2) ls (.ref q :: rest))) : W p l e R s m args below meth c H locs cells slots Q (F0 m pc ls (.int n :: rest)) := by
  subst hN
  refine va_newa (atype := .int) hexec hb harr (ty := .int) rfl hK hP hD hS hA (N' := N') (a0 := (N', .inl (fun _ => 0))) (fun cA => rfl) (nI_pos (by omega)) (nI_clamp (by omega)) (by show N' * 4 ≤ 536870912; omega) hcells (Nat.le_trans (by omega) hslots) hdg (fun q cA H1 hK' hP' hD' hS' => ?_)
  have h1 := (hK'.2 tys.length (cA, .int) (by rw [List.getElem?_append_right (Nat.le_refl _)]; simp)).2
  have h2 := (hK.2 t0 _ ht).2
  have e : cA = cI := Option.some.inj ((va_nm_int h1).symm.trans (va_nm_int h2))
  subst e
  exact W.widen (Nat.le_refl _) (by omega) (kk q H1 hP' hD' hS')
theorem g_newIp {cI : ClassId} {X pl : va_W} (hexec : p.tables.exec = Jvm.exec) (hb : c.code = cc) (harr : (Cond.arrayClass .int).before args s = true) (hK : va_K D cl tys s) (t0 : Nat) (ht : tys[t0]? = some (cI, .int)) (hP : va_P D cl (X ++ pl) H) (hD : va_D A (X ++ pl)) (hS : va_S A H0 H locs) (hA : ∀ q, H0.size ≤ q → A q)
    {n : Int32} {N' B : Nat} (hN : n = nI N') (hB : N' ≤ B) (hB2 : B ≤ 1000000) (hcells : cells + 1 ≤ R.cells) (hslots : slots + B ≤ R.slots) (hdg : decode cc pc = .ok (.newarray .int, 2))
    (kk : ∀ (q : Nat) (H1 : Heap), va_P D cl ((X ++ [(q, .inl (cI, N', .inl (fun _ => 0)))]) ++ pl) H1 → va_D A ((X ++ [(q, .inl (cI, N', .inl (fun _ => 0)))]) ++ pl) → va_S A H0 H1 locs → W p l e R s m args below meth c H1 locs (cells + 1) (slots + B) Q (F0 m (pc + 2) ls (.ref q :: rest))) : W p l e R s m args below meth c H locs cells slots Q (F0 m pc ls (.int n :: rest)) :=
  g_newI hexec hb harr hK t0 ht hP hD hS hA hN hB hB2 hcells hslots hdg (fun q H1 hP' hD' hS' => kk q H1 hP'.swap hD'.swap hS')
theorem g_newQ {cB : ClassId} {own C : String} {index : Nat} (hexec : p.tables.exec = Jvm.exec) (hb : c.code = cc) (hown : s.vm.findClass own = some m.cls) (hclink : (Cond.classLink own index C).before args s = true) (hover : va_AO C s) (hK : va_K D cl tys s) (t0 : Nat) (ht : tys[t0]? = some (cB, .object C)) (hP : va_P D cl ws H) (hD : va_D A ws) (hS : va_S A H0 H locs) (hA : ∀ q, H0.size ≤ q → A q)
    {n : Int32} {N' B : Nat} (hN : n = nI N') (hB : N' ≤ B) (hB2 : B ≤ 1000000) (hcells : cells + 1 ≤ R.cells) (hslots : slots + B ≤ R.slots) (hdg : decode cc pc = .ok (.anewarray index, 3))
    (kk : ∀ (q : Nat) (H1 : Heap), va_P D cl (ws ++ [(q, .inl (cB, N', .inr (.inr (.inr (.inr (fun _ => none))))))]) H1 → va_D A (ws ++ [(q, .inl (cB, N', .inr (.inr (.inr (.inr (fun _ => none))))))]) → va_S A H0 H1 locs → W p l e R s m args below meth c H1 locs (cells + 1) (slots + B) Q (F0 m (pc + 3) ls (.ref q :: rest))) : W p l e R s m args below meth c H locs cells slots Q (F0 m pc ls (.int n :: rest)) := by
  subst hN
  refine va_newq hexec hb hown hclink hover hK hP hD hS hA (N' := N') (nI_pos (by omega)) (nI_clamp (by omega)) (by omega) hcells (Nat.le_trans (by omega) hslots) hdg (fun q cA H1 hK' hP' hD' hS' => ?_)
  have h1 := (hK'.2 tys.length (cA, .object C) (by rw [List.getElem?_append_right (Nat.le_refl _)]; simp)).2
  have h2 := (hK.2 t0 _ ht).2
  obtain ⟨k1, o1, a1, a2, a3, a4⟩ := h1
  obtain ⟨k2, o2, b1, b2, b3, b4⟩ := h2
  have e : cA = cB := Option.some.inj (a4.symm.trans b4)
  subst e
  exact W.widen (Nat.le_refl _) (by omega) (kk q H1 hP' hD' hS')
end GR
/-- sights in a row are sights -/
theorem sg_any {s : State} {H : Heap} {D : va_G} {tys : List (ClassId × FieldType)} {X : va_W} {sL : List Nat} {sf : Nat → Nat → Int32} {y : Nat} (hK : va_K D vwCl tys s) (hP : va_P D vwCl (X ++ va_pl sL (sgF sf)) H) (hy : y ∈ sL) : va_Any RX7 s H y := by
  obtain ⟨k, hk⟩ := va_pl_get (X := X) (f := sgF sf) hy
  exact va_rAny (r := (RX7, TX7, 4)) hK hP hk rfl (fun comp c0 h1 h2 => by
    have h2 : s.vm.findClass RX7 = some c0 := h2
    rw [h1] at h2
    cases h2
    exact va_asg _ _)
