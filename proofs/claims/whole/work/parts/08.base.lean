/-! the shape of every contract here: a world before, a family of worlds behind; start, calls, ends -/
/-- what is said besides of the tables and of cells that stay: by the region that may change, the state, the heap -/
abbrev g_Z : Type := (Nat → Prop) → State → Heap → Prop
def g_T : g_Z := fun _ _ _ => True
def g_zb (Z : g_Z) : Prop := ∀ (A : Nat → Prop) (U U' : State) (H : Heap), U'.vm = U.vm → Z A U H → Z A U' H
theorem g_Tb : g_zb g_T := fun _ _ _ _ _ _ => trivial
abbrev g_pre (Z : g_Z) (D : va_G) (cl : List vw_C) (tys : List (ClassId × FieldType)) (wc : va_W) (sz : Nat) (av : List Value) : Array Value → State → Prop := va_Pc av (fun U => U.heap.size = sz ∧ va_P D cl wc U.heap ∧ va_K D cl tys U ∧ va_D (fun _ => True) wc ∧ Z (va_A wc sz) U U.heap)
abbrev g_at {St : Type} (D : va_G) (cl : List vw_C) (tys : List (ClassId × FieldType)) (WL : St → va_W) (A : Nat → Prop) (u : St) (t : State) : Prop := va_P D cl (WL u) t.heap ∧ va_K D cl tys t ∧ va_D A (WL u)
abbrev g_qi {St : Type} (D : va_G) (cl : List vw_C) (tys : List (ClassId × FieldType)) (WL : St → va_W) (Q : Int32 → St → Prop) (A : Nat → Prop) : Array Value → State → Outcome → State → Prop := va_Qi Q (g_at D cl tys WL A) A
abbrev g_ql {St : Type} (D : va_G) (cl : List vw_C) (tys : List (ClassId × FieldType)) (WL : St → va_W) (Q : Int64 → St → Prop) (A : Nat → Prop) : Array Value → State → Outcome → State → Prop := va_Ql Q (g_at D cl tys WL A) A
abbrev g_qv {St : Type} (D : va_G) (cl : List vw_C) (tys : List (ClassId × FieldType)) (WL : St → va_W) (Q : St → Prop) (A : Nat → Prop) : Array Value → State → Outcome → State → Prop := va_Qv Q (g_at D cl tys WL A) A
theorem g_blind {Z : g_Z} (hz : g_zb Z) {D : va_G} {cl : List vw_C} {tys : List (ClassId × FieldType)} {wc : va_W} {sz : Nat} {av : List Value} : FrameBlind (g_pre Z D cl tys wc sz av) := by
  intro a U g mk q
  obtain ⟨q0, q1, qP, qK, qD, qZ⟩ := q
  exact ⟨q0, q1, qP, va_K.moved (u := U) (U := U.calling g mk a) (Vm.Alike.refl U.vm) qK, qD, hz _ U (U.calling g mk a) _ rfl qZ⟩
/-- a method that needs no cell: arguments in, a number out -/
abbrev g_pr0 (av : List Value) : Array Value → State → Prop := va_Pc av (fun _ => True)
theorem g_blind0 {av : List Value} : FrameBlind (g_pr0 av) := fun _ _ _ _ q => ⟨q.1, trivial⟩
def isB (r : Int32) : Prop := r = 0 ∨ r = 1
theorem isB_n {r : Int32} (h : isB r) : narrow .boolean (.int r) = .int r := by
  rcases h with rfl | rfl <;> rfl
theorem isB_0 : isB 0 := Or.inl rfl
theorem isB_1 : isB 1 := Or.inr rfl
section GE
variable {p : Program} {l : Launch} {e : Env} {R : Room} {s : State} {m : MethodId} {args : Array Value} {below : List Frame} {meth : Method} {c : Code} {H : Heap} {locs : List Loc} {cells slots : Nat} {Q : State → Prop}
variable {cc : ByteArray} {pc : Nat} {ls : Array Slot} {D : va_G} {cl : List vw_C} {A : Nat → Prop} {tys tysC : List (ClassId × FieldType)}
theorem g_iret {St : Type} {WL : St → va_W} {Q' : Int32 → St → Prop} {u : St} {v : Int32} (hx : p.tables.exec = Jvm.exec) (hb : c.code = cc) (hr : meth.sig.returnType = some .int) (hlocks : meth.locks = false) (hK : va_K D cl tysC s) (hP : va_P D cl (WL u) H) (hD : va_D A (WL u)) (hS : va_S A s.heap H locs) (hdg : decode cc pc = .ok (.ireturn, 1)) (hq : Q' v u) : W p l e R s m args below meth c H locs cells slots (MQ below (g_qi D cl tysC WL Q' A) args s cells slots A) (F0 m pc ls [.int v]) :=
  W.iret (v := v) hx hb hr (fun t ht hW => ⟨⟨v, u, rfl, hq, by rw [ht]; exact hP, va_K.moved hW.alike hK, hD⟩, hS.F ht⟩) hS.2.2 hdg
theorem g_zret {St : Type} {WL : St → va_W} {Q' : Int32 → St → Prop} {u : St} {v : Int32} (hx : p.tables.exec = Jvm.exec) (hb : c.code = cc) (hr : meth.sig.returnType = some .boolean) (hlocks : meth.locks = false) (hK : va_K D cl tysC s) (hP : va_P D cl (WL u) H) (hD : va_D A (WL u)) (hS : va_S A s.heap H locs) (hdg : decode cc pc = .ok (.ireturn, 1)) (hv : isB v) (hq : Q' v u) : W p l e R s m args below meth c H locs cells slots (MQ below (g_qi D cl tysC WL Q' A) args s cells slots A) (F0 m pc ls [.int v]) :=
  W.zret (v := v) hx hb hr (isB_n hv) (fun t ht hW => ⟨⟨v, u, rfl, hq, by rw [ht]; exact hP, va_K.moved hW.alike hK, hD⟩, hS.F ht⟩) hS.2.2 hdg
theorem g_lret {St : Type} {WL : St → va_W} {Q' : Int64 → St → Prop} {u : St} {v : Int64} (hx : p.tables.exec = Jvm.exec) (hb : c.code = cc) (hr : meth.sig.returnType = some .long) (hlocks : meth.locks = false) (hK : va_K D cl tysC s) (hP : va_P D cl (WL u) H) (hD : va_D A (WL u)) (hS : va_S A s.heap H locs) (hdg : decode cc pc = .ok (.lreturn, 1)) (hq : Q' v u) : W p l e R s m args below meth c H locs cells slots (MQ below (g_ql D cl tysC WL Q' A) args s cells slots A) (F0 m pc ls [.long v]) :=
  W.lret (v := v) hx hb hr (fun t ht hW => ⟨⟨v, u, rfl, hq, by rw [ht]; exact hP, va_K.moved hW.alike hK, hD⟩, hS.F ht⟩) hS.2.2 hdg
theorem g_vret {St : Type} {WL : St → va_W} {Q' : St → Prop} {u : St} (hx : p.tables.exec = Jvm.exec) (hb : c.code = cc) (hr : meth.sig.returnType = none) (hlocks : meth.locks = false) (hK : va_K D cl tysC s) (hP : va_P D cl (WL u) H) (hD : va_D A (WL u)) (hS : va_S A s.heap H locs) (hdg : decode cc pc = .ok (.return_, 1)) (hq : Q' u) : W p l e R s m args below meth c H locs cells slots (MQ below (g_qv D cl tysC WL Q' A) args s cells slots A) (F0 m pc ls []) :=
  W.vret hx hb hr (fun t ht hW => ⟨⟨u, rfl, hq, by rw [ht]; exact hP, va_K.moved hW.alike hK, hD⟩, hS.F ht⟩) hS.2.2 hdg
theorem g_iret0 {Q' : Int32 → Prop} {v : Int32} (hx : p.tables.exec = Jvm.exec) (hb : c.code = cc) (hr : meth.sig.returnType = some .int) (hlocks : meth.locks = false) (hdg : decode cc pc = .ok (.ireturn, 1)) (hq : Q' v) : W p l e R s m args below meth c s.heap [] cells slots (MQ below (vp_Si Q') args s cells slots (fun _ => False)) (F0 m pc ls [.int v]) :=
  W.iret (v := v) hx hb hr (fun t ht hW => ⟨v, rfl, hq, ht⟩) (fun _ h => by cases h) hdg
theorem g_zret0 {Q' : Int32 → Prop} {v : Int32} (hx : p.tables.exec = Jvm.exec) (hb : c.code = cc) (hr : meth.sig.returnType = some .boolean) (hlocks : meth.locks = false) (hdg : decode cc pc = .ok (.ireturn, 1)) (hv : isB v) (hq : Q' v) : W p l e R s m args below meth c s.heap [] cells slots (MQ below (vp_Si Q') args s cells slots (fun _ => False)) (F0 m pc ls [.int v]) :=
  W.zret (v := v) hx hb hr (isB_n hv) (fun t ht hW => ⟨v, rfl, hq, ht⟩) (fun _ h => by cases h) hdg
end GE
theorem g_starti {St : Type} {WL : St → va_W} {Z : g_Z} {l : Launch} {y : MethodName} {ws ws' : List Cond} {rm : Room} {D : va_G} {cl : List vw_C} {tys tysC : List (ClassId × FieldType)} {wc : va_W} {sz : Nat} {av : List Value} {Q' : Int32 → St → Prop} {mc ms : Nat} {cc : ByteArray} {maxL : Nat} (hy : plainName y.cls = true) (hw : ws = Cond.code y cc maxL (some .int) :: ws') (hlen : (lg_sl av).length ≤ maxL)
    (body : ∀ (p : Program) (e : Env) (s : State) (m : MethodId) (args : Array Value) (below : List Frame) (meth : Method) (c : Code) (A : Nat → Prop) (Q : State → Prop) (ls : Array Slot), p.tables.exec = Jvm.exec → c.code = cc → c.maxLocals = maxL → s.vm.findClass y.cls = some m.cls → (∀ w ∈ ws, w.before args s = true) → meth.name = y.name → va_K D cl tys s → va_P D cl wc s.heap → va_D A wc → (∀ q, s.heap.size ≤ q → A q) → va_S A s.heap s.heap [] → Z A s s.heap →
      (∀ {H : Heap} {locs : List Loc} {pc : Nat} {ls : Array Slot} {v : Int32} {u : St}, decode cc pc = .ok (.ireturn, 1) → va_K D cl tysC s → va_P D cl (WL u) H → va_D A (WL u) → va_S A s.heap H locs → Q' v u → W p l e rm s m args below meth c H locs mc ms Q (F0 m pc ls [.int v])) → lv_has ls maxL (lv_args 0 av) →
      W p l e rm s m args below meth c s.heap [] 0 0 Q (F0 m 0 ls [])) :
    Met l y ws rm (g_pre Z D cl tys wc sz av) (g_qi D cl tysC WL Q' (va_A wc sz)) mc ms (va_A wc sz) := by
  refine Met.ofW hy hw ?_
  intro p e s m args below meth c s₁ B hml hv
  obtain ⟨rfl, hsz, hP, hK, hD0, hZ⟩ := hv
  have hown : s.vm.findClass y.cls = some m.cls := findClass_of_methodNamed B.named
  have hin : meth.name = y.name := (name_of_methodNamed B.named B.method).1
  subst hsz
  have hl := lv_entry av (n := maxL) hlen
  rw [lg_entry_eq]
  exact body p e s m av.toArray below meth c (va_A wc s.heap.size) _ _ B.exec B.bytes hml hown (atoms_spec (ws := ws) B.pre) hin hK hP (hD0.self (sz := s.heap.size)) (fun q h => Or.inr h) va_S.rf hZ (fun hdg hKr hP hD hS hq => g_iret B.exec B.bytes B.returns B.notSynchronized hKr hP hD hS hdg hq) hl
theorem g_startz {St : Type} {WL : St → va_W} {Z : g_Z} {l : Launch} {y : MethodName} {ws ws' : List Cond} {rm : Room} {D : va_G} {cl : List vw_C} {tys tysC : List (ClassId × FieldType)} {wc : va_W} {sz : Nat} {av : List Value} {Q' : Int32 → St → Prop} {mc ms : Nat} {cc : ByteArray} {maxL : Nat} (hy : plainName y.cls = true) (hw : ws = Cond.code y cc maxL (some .boolean) :: ws') (hlen : (lg_sl av).length ≤ maxL)
    (body : ∀ (p : Program) (e : Env) (s : State) (m : MethodId) (args : Array Value) (below : List Frame) (meth : Method) (c : Code) (A : Nat → Prop) (Q : State → Prop) (ls : Array Slot), p.tables.exec = Jvm.exec → c.code = cc → c.maxLocals = maxL → s.vm.findClass y.cls = some m.cls → (∀ w ∈ ws, w.before args s = true) → meth.name = y.name → va_K D cl tys s → va_P D cl wc s.heap → va_D A wc → (∀ q, s.heap.size ≤ q → A q) → va_S A s.heap s.heap [] → Z A s s.heap →
      (∀ {H : Heap} {locs : List Loc} {pc : Nat} {ls : Array Slot} {v : Int32} {u : St}, decode cc pc = .ok (.ireturn, 1) → va_K D cl tysC s → va_P D cl (WL u) H → va_D A (WL u) → va_S A s.heap H locs → isB v → Q' v u → W p l e rm s m args below meth c H locs mc ms Q (F0 m pc ls [.int v])) → lv_has ls maxL (lv_args 0 av) →
      W p l e rm s m args below meth c s.heap [] 0 0 Q (F0 m 0 ls [])) :
    Met l y ws rm (g_pre Z D cl tys wc sz av) (g_qi D cl tysC WL Q' (va_A wc sz)) mc ms (va_A wc sz) := by
  refine Met.ofW hy hw ?_
  intro p e s m args below meth c s₁ B hml hv
  obtain ⟨rfl, hsz, hP, hK, hD0, hZ⟩ := hv
  have hown : s.vm.findClass y.cls = some m.cls := findClass_of_methodNamed B.named
  have hin : meth.name = y.name := (name_of_methodNamed B.named B.method).1
  subst hsz
  have hl := lv_entry av (n := maxL) hlen
  rw [lg_entry_eq]
  exact body p e s m av.toArray below meth c (va_A wc s.heap.size) _ _ B.exec B.bytes hml hown (atoms_spec (ws := ws) B.pre) hin hK hP (hD0.self (sz := s.heap.size)) (fun q h => Or.inr h) va_S.rf hZ (fun hdg hKr hP hD hS hv hq => g_zret B.exec B.bytes B.returns B.notSynchronized hKr hP hD hS hdg hv hq) hl
theorem g_startl {St : Type} {WL : St → va_W} {Z : g_Z} {l : Launch} {y : MethodName} {ws ws' : List Cond} {rm : Room} {D : va_G} {cl : List vw_C} {tys tysC : List (ClassId × FieldType)} {wc : va_W} {sz : Nat} {av : List Value} {Q' : Int64 → St → Prop} {mc ms : Nat} {cc : ByteArray} {maxL : Nat} (hy : plainName y.cls = true) (hw : ws = Cond.code y cc maxL (some .long) :: ws') (hlen : (lg_sl av).length ≤ maxL)
    (body : ∀ (p : Program) (e : Env) (s : State) (m : MethodId) (args : Array Value) (below : List Frame) (meth : Method) (c : Code) (A : Nat → Prop) (Q : State → Prop) (ls : Array Slot), p.tables.exec = Jvm.exec → c.code = cc → c.maxLocals = maxL → s.vm.findClass y.cls = some m.cls → (∀ w ∈ ws, w.before args s = true) → meth.name = y.name → va_K D cl tys s → va_P D cl wc s.heap → va_D A wc → (∀ q, s.heap.size ≤ q → A q) → va_S A s.heap s.heap [] → Z A s s.heap →
      (∀ {H : Heap} {locs : List Loc} {pc : Nat} {ls : Array Slot} {v : Int64} {u : St}, decode cc pc = .ok (.lreturn, 1) → va_K D cl tysC s → va_P D cl (WL u) H → va_D A (WL u) → va_S A s.heap H locs → Q' v u → W p l e rm s m args below meth c H locs mc ms Q (F0 m pc ls [.long v])) → lv_has ls maxL (lv_args 0 av) →
      W p l e rm s m args below meth c s.heap [] 0 0 Q (F0 m 0 ls [])) :
    Met l y ws rm (g_pre Z D cl tys wc sz av) (g_ql D cl tysC WL Q' (va_A wc sz)) mc ms (va_A wc sz) := by
  refine Met.ofW hy hw ?_
  intro p e s m args below meth c s₁ B hml hv
  obtain ⟨rfl, hsz, hP, hK, hD0, hZ⟩ := hv
  have hown : s.vm.findClass y.cls = some m.cls := findClass_of_methodNamed B.named
  have hin : meth.name = y.name := (name_of_methodNamed B.named B.method).1
  subst hsz
  have hl := lv_entry av (n := maxL) hlen
  rw [lg_entry_eq]
  exact body p e s m av.toArray below meth c (va_A wc s.heap.size) _ _ B.exec B.bytes hml hown (atoms_spec (ws := ws) B.pre) hin hK hP (hD0.self (sz := s.heap.size)) (fun q h => Or.inr h) va_S.rf hZ (fun hdg hKr hP hD hS hq => g_lret B.exec B.bytes B.returns B.notSynchronized hKr hP hD hS hdg hq) hl
theorem g_startv {St : Type} {WL : St → va_W} {Z : g_Z} {l : Launch} {y : MethodName} {ws ws' : List Cond} {rm : Room} {D : va_G} {cl : List vw_C} {tys tysC : List (ClassId × FieldType)} {wc : va_W} {sz : Nat} {av : List Value} {Q' : St → Prop} {mc ms : Nat} {cc : ByteArray} {maxL : Nat} (hy : plainName y.cls = true) (hw : ws = Cond.code y cc maxL none :: ws') (hlen : (lg_sl av).length ≤ maxL)
    (body : ∀ (p : Program) (e : Env) (s : State) (m : MethodId) (args : Array Value) (below : List Frame) (meth : Method) (c : Code) (A : Nat → Prop) (Q : State → Prop) (ls : Array Slot), p.tables.exec = Jvm.exec → c.code = cc → c.maxLocals = maxL → s.vm.findClass y.cls = some m.cls → (∀ w ∈ ws, w.before args s = true) → meth.name = y.name → va_K D cl tys s → va_P D cl wc s.heap → va_D A wc → (∀ q, s.heap.size ≤ q → A q) → va_S A s.heap s.heap [] → Z A s s.heap →
      (∀ {H : Heap} {locs : List Loc} {pc : Nat} {ls : Array Slot} {u : St}, decode cc pc = .ok (.return_, 1) → va_K D cl tysC s → va_P D cl (WL u) H → va_D A (WL u) → va_S A s.heap H locs → Q' u → W p l e rm s m args below meth c H locs mc ms Q (F0 m pc ls [])) → lv_has ls maxL (lv_args 0 av) →
      W p l e rm s m args below meth c s.heap [] 0 0 Q (F0 m 0 ls [])) :
    Met l y ws rm (g_pre Z D cl tys wc sz av) (g_qv D cl tysC WL Q' (va_A wc sz)) mc ms (va_A wc sz) := by
  refine Met.ofW hy hw ?_
  intro p e s m args below meth c s₁ B hml hv
  obtain ⟨rfl, hsz, hP, hK, hD0, hZ⟩ := hv
  have hown : s.vm.findClass y.cls = some m.cls := findClass_of_methodNamed B.named
  have hin : meth.name = y.name := (name_of_methodNamed B.named B.method).1
  subst hsz
  have hl := lv_entry av (n := maxL) hlen
  rw [lg_entry_eq]
  exact body p e s m av.toArray below meth c (va_A wc s.heap.size) _ _ B.exec B.bytes hml hown (atoms_spec (ws := ws) B.pre) hin hK hP (hD0.self (sz := s.heap.size)) (fun q h => Or.inr h) va_S.rf hZ (fun hdg hKr hP hD hS hq => g_vret B.exec B.bytes B.returns B.notSynchronized hKr hP hD hS hdg hq) hl
theorem g_start0i {l : Launch} {y : MethodName} {ws ws' : List Cond} {rm : Room} {av : List Value} {Q' : Int32 → Prop} {cc : ByteArray} {maxL : Nat} (hy : plainName y.cls = true) (hw : ws = Cond.code y cc maxL (some .int) :: ws') (hlen : (lg_sl av).length ≤ maxL)
    (body : ∀ (p : Program) (e : Env) (s : State) (m : MethodId) (args : Array Value) (below : List Frame) (meth : Method) (c : Code) (Q : State → Prop) (H : Heap) (ls : Array Slot), p.tables.exec = Jvm.exec → c.code = cc → c.maxLocals = maxL → s.vm.findClass y.cls = some m.cls → (∀ w ∈ ws, w.before args s = true) →
      (∀ {pc : Nat} {ls : Array Slot} {v : Int32}, decode cc pc = .ok (.ireturn, 1) → Q' v → W p l e rm s m args below meth c H [] 0 0 Q (F0 m pc ls [.int v])) → lv_has ls maxL (lv_args 0 av) →
      W p l e rm s m args below meth c H [] 0 0 Q (F0 m 0 ls [])) :
    Met l y ws rm (g_pr0 av) (vp_Si Q') 0 0 (fun _ => False) := by
  refine Met.ofW hy hw ?_
  intro p e s m args below meth c s₁ B hml hv
  obtain ⟨rfl, -⟩ := hv
  have hown : s.vm.findClass y.cls = some m.cls := findClass_of_methodNamed B.named
  have hl := lv_entry av (n := maxL) hlen
  rw [lg_entry_eq]
  exact body p e s m av.toArray below meth c _ s.heap _ B.exec B.bytes hml hown (atoms_spec (ws := ws) B.pre) (fun hdg hq => g_iret0 B.exec B.bytes B.returns B.notSynchronized hdg hq) hl
theorem g_start0z {l : Launch} {y : MethodName} {ws ws' : List Cond} {rm : Room} {av : List Value} {Q' : Int32 → Prop} {cc : ByteArray} {maxL : Nat} (hy : plainName y.cls = true) (hw : ws = Cond.code y cc maxL (some .boolean) :: ws') (hlen : (lg_sl av).length ≤ maxL)
    (body : ∀ (p : Program) (e : Env) (s : State) (m : MethodId) (args : Array Value) (below : List Frame) (meth : Method) (c : Code) (Q : State → Prop) (H : Heap) (ls : Array Slot), p.tables.exec = Jvm.exec → c.code = cc → c.maxLocals = maxL → s.vm.findClass y.cls = some m.cls → (∀ w ∈ ws, w.before args s = true) →
      (∀ {pc : Nat} {ls : Array Slot} {v : Int32}, decode cc pc = .ok (.ireturn, 1) → isB v → Q' v → W p l e rm s m args below meth c H [] 0 0 Q (F0 m pc ls [.int v])) → lv_has ls maxL (lv_args 0 av) →
      W p l e rm s m args below meth c H [] 0 0 Q (F0 m 0 ls [])) :
    Met l y ws rm (g_pr0 av) (vp_Si Q') 0 0 (fun _ => False) := by
  refine Met.ofW hy hw ?_
  intro p e s m args below meth c s₁ B hml hv
  obtain ⟨rfl, -⟩ := hv
  have hown : s.vm.findClass y.cls = some m.cls := findClass_of_methodNamed B.named
  have hl := lv_entry av (n := maxL) hlen
  rw [lg_entry_eq]
  exact body p e s m av.toArray below meth c _ s.heap _ B.exec B.bytes hml hown (atoms_spec (ws := ws) B.pre) (fun hdg hv hq => g_zret0 B.exec B.bytes B.returns B.notSynchronized hdg hv hq) hl
section GC
variable {p : Program} {l : Launch} {e : Env} {R : Room} {s : State} {m : MethodId} {args : Array Value} {below : List Frame} {meth : Method} {c : Code} {H : Heap} {locs : List Loc} {cells slots : Nat} {Q : State → Prop}
variable {cc : ByteArray} {nL : Nat} {pc : Nat} {ls : Array Slot} {D : va_G} {cl : List vw_C} {A : Nat → Prop} {H0 : Heap} {tys tysC : List (ClassId × FieldType)} {wsW wc wr : va_W}
variable {Ts ws : List Cond} {own C : String} {index : Nat} {y : MethodName} {bytes : ByteArray} {maxL : Nat} {ret : Option FieldType} {rm : Room} {mc ms n : Nat} {b : Nat} {rest : List Value}
theorem g_pick {X cx : va_W} {D : va_G} {cl : List vw_C} {H : Heap} (hP : va_P D cl X H) (is : List Nat) (hs : is.map (fun i => X[i]?) = cx.map some) : va_P D cl cx H := fun k q hk => by
  obtain ⟨i, _, hi⟩ := va_in_of is hs hk
  exact hP i q hi
/-- a virtual call that answers an int: the callee's cells are those at isC, the others (isR) stay; behind it the world is W2 u -/
theorem g_callVi {St : Type} {WL W2 : St → va_W} {Q' : Int32 → St → Prop} (As : List Value) (isC isR isT isB : List Nat) {Z : g_Z} (hzb : g_zb Z) (hZ : (∀ q, va_A wc H.size q → A q) → ∀ U : State, U.heap = H → s.WarmedH U.vm → Z (va_A wc H.size) U H) (S : CallFix p m c cc nL s args Ts own)
    (hM : Met l y ws rm (g_pre Z D cl tysC wc H.size (.ref b :: As)) (g_qi D cl tysC WL Q' (va_A wc H.size)) mc ms (va_A wc H.size)) (cw : CallW R s args own C index y bytes maxL ret ws rm mc ms n)
    (hK : va_K D cl tys s) (hP : va_P D cl wsW H) (hD : va_D A wsW) (hS : va_S A H0 H locs) (hA : ∀ q, H0.size ≤ q → A q)
    (hC : isC.map (fun i => wsW[i]?) = wc.map some) (hnC : va_nd isC = true) (hR : isR.map (fun i => wsW[i]?) = wr.map some) (hnR : va_nd isR = true) (hdis : ∀ i ∈ isR, i ∉ isC) (hT : isT.filterMap (fun i => tys[i]?) = tysC)
    (hB : ∀ u, isB.map (fun i => (wr ++ WL u)[i]?) = (W2 u).map some) (hnB : va_nd isB = true) {q0 ci : Nat} {fs : List Value} {T : u_T} {N : Nat} (hb0 : wc[q0]? = some (b, .inr (ci, fs))) (hcl : cl[ci]? = some (C, T, N))
    (hn : As.length = n) (hls : ls.size = nL) (hW : (rest.map fun v => v.category).sum ≤ 8) (hdg : decode cc pc = .ok (.invokevirtual index, 3)) (hf : cells + mc ≤ R.cells ∧ slots + ms ≤ R.slots)
    (kk : ∀ (r : Int32) (u : St) (H1 : Heap) (locs1 : List Loc), Q' r u → va_P D cl (W2 u) H1 → va_D A (W2 u) → va_S A H0 H1 locs1 → W p l e R s m args below meth c H1 locs1 (cells + mc) (slots + ms) Q (F0 m (pc + 3) ls (.int r :: rest))) :
    W p l e R s m args below meth c H locs cells slots Q (F0 m pc ls (As.reverse ++ .ref b :: rest)) := by
  have hPc := g_pick hP isC hC
  have hDc := hD.sub isC hnC hC
  have hKc := hK.sub isT hT
  have hFc := va_free (wc := wc) hD hS hA isC hC
  refine va_calli (va_runV (As := As) (rest := rest) S hM cw ⟨g_blind hzb, va_recv hKc hPc hcl hb0, fun U hU hW => ⟨rfl, by rw [hU], by rw [hU]; exact hPc, va_K.moved hW.alike hKc, hDc.weaken (fun _ _ _ _ => trivial), by rw [hU]; exact hZ hFc U hU hW⟩⟩ rfl hn hls rfl (lv_room hW) hdg hf) hS (fun q _ h => hFc q h) hFc (fun r u t H1 locs ht hvm hw hB1 hz1 hk1 hS1 => ?_)
  obtain ⟨hP1, hK1, hD1⟩ := hB1
  rw [ht] at hP1
  obtain ⟨hP2, hD2⟩ := va_join hP hD isC isR hC hR hnR hdis hk1 hFc hP1 hD1
  exact kk r u H1 locs hw (g_pick hP2 isB (hB u)) (hD2.sub isB hnB (hB u)) hS1
theorem g_callVl {St : Type} {WL W2 : St → va_W} {Q' : Int64 → St → Prop} (As : List Value) (isC isR isT isB : List Nat) {Z : g_Z} (hzb : g_zb Z) (hZ : (∀ q, va_A wc H.size q → A q) → ∀ U : State, U.heap = H → s.WarmedH U.vm → Z (va_A wc H.size) U H) (S : CallFix p m c cc nL s args Ts own)
    (hM : Met l y ws rm (g_pre Z D cl tysC wc H.size (.ref b :: As)) (g_ql D cl tysC WL Q' (va_A wc H.size)) mc ms (va_A wc H.size)) (cw : CallW R s args own C index y bytes maxL ret ws rm mc ms n)
    (hK : va_K D cl tys s) (hP : va_P D cl wsW H) (hD : va_D A wsW) (hS : va_S A H0 H locs) (hA : ∀ q, H0.size ≤ q → A q)
    (hC : isC.map (fun i => wsW[i]?) = wc.map some) (hnC : va_nd isC = true) (hR : isR.map (fun i => wsW[i]?) = wr.map some) (hnR : va_nd isR = true) (hdis : ∀ i ∈ isR, i ∉ isC) (hT : isT.filterMap (fun i => tys[i]?) = tysC)
    (hB : ∀ u, isB.map (fun i => (wr ++ WL u)[i]?) = (W2 u).map some) (hnB : va_nd isB = true) {q0 ci : Nat} {fs : List Value} {T : u_T} {N : Nat} (hb0 : wc[q0]? = some (b, .inr (ci, fs))) (hcl : cl[ci]? = some (C, T, N))
    (hn : As.length = n) (hls : ls.size = nL) (hW : (rest.map fun v => v.category).sum ≤ 8) (hdg : decode cc pc = .ok (.invokevirtual index, 3)) (hf : cells + mc ≤ R.cells ∧ slots + ms ≤ R.slots)
    (kk : ∀ (r : Int64) (u : St) (H1 : Heap) (locs1 : List Loc), Q' r u → va_P D cl (W2 u) H1 → va_D A (W2 u) → va_S A H0 H1 locs1 → W p l e R s m args below meth c H1 locs1 (cells + mc) (slots + ms) Q (F0 m (pc + 3) ls (.long r :: rest))) :
    W p l e R s m args below meth c H locs cells slots Q (F0 m pc ls (As.reverse ++ .ref b :: rest)) := by
  have hPc := g_pick hP isC hC
  have hDc := hD.sub isC hnC hC
  have hKc := hK.sub isT hT
  have hFc := va_free (wc := wc) hD hS hA isC hC
  refine va_calll (va_runV (As := As) (rest := rest) S hM cw ⟨g_blind hzb, va_recv hKc hPc hcl hb0, fun U hU hW => ⟨rfl, by rw [hU], by rw [hU]; exact hPc, va_K.moved hW.alike hKc, hDc.weaken (fun _ _ _ _ => trivial), by rw [hU]; exact hZ hFc U hU hW⟩⟩ rfl hn hls rfl (lv_room hW) hdg hf) hS (fun q _ h => hFc q h) hFc (fun r u t H1 locs ht hvm hw hB1 hz1 hk1 hS1 => ?_)
  obtain ⟨hP1, hK1, hD1⟩ := hB1
  rw [ht] at hP1
  obtain ⟨hP2, hD2⟩ := va_join hP hD isC isR hC hR hnR hdis hk1 hFc hP1 hD1
  exact kk r u H1 locs hw (g_pick hP2 isB (hB u)) (hD2.sub isB hnB (hB u)) hS1
theorem g_callVv {St : Type} {WL W2 : St → va_W} {Q' : St → Prop} (As : List Value) (isC isR isT isB : List Nat) {Z : g_Z} (hzb : g_zb Z) (hZ : (∀ q, va_A wc H.size q → A q) → ∀ U : State, U.heap = H → s.WarmedH U.vm → Z (va_A wc H.size) U H) (S : CallFix p m c cc nL s args Ts own)
    (hM : Met l y ws rm (g_pre Z D cl tysC wc H.size (.ref b :: As)) (g_qv D cl tysC WL Q' (va_A wc H.size)) mc ms (va_A wc H.size)) (cw : CallW R s args own C index y bytes maxL ret ws rm mc ms n)
    (hK : va_K D cl tys s) (hP : va_P D cl wsW H) (hD : va_D A wsW) (hS : va_S A H0 H locs) (hA : ∀ q, H0.size ≤ q → A q)
    (hC : isC.map (fun i => wsW[i]?) = wc.map some) (hnC : va_nd isC = true) (hR : isR.map (fun i => wsW[i]?) = wr.map some) (hnR : va_nd isR = true) (hdis : ∀ i ∈ isR, i ∉ isC) (hT : isT.filterMap (fun i => tys[i]?) = tysC)
    (hB : ∀ u, isB.map (fun i => (wr ++ WL u)[i]?) = (W2 u).map some) (hnB : va_nd isB = true) {q0 ci : Nat} {fs : List Value} {T : u_T} {N : Nat} (hb0 : wc[q0]? = some (b, .inr (ci, fs))) (hcl : cl[ci]? = some (C, T, N))
    (hn : As.length = n) (hls : ls.size = nL) (hW : (rest.map fun v => v.category).sum ≤ 8) (hdg : decode cc pc = .ok (.invokevirtual index, 3)) (hf : cells + mc ≤ R.cells ∧ slots + ms ≤ R.slots)
    (kk : ∀ (u : St) (H1 : Heap) (locs1 : List Loc), Q' u → va_P D cl (W2 u) H1 → va_D A (W2 u) → va_S A H0 H1 locs1 → W p l e R s m args below meth c H1 locs1 (cells + mc) (slots + ms) Q (F0 m (pc + 3) ls rest)) :
    W p l e R s m args below meth c H locs cells slots Q (F0 m pc ls (As.reverse ++ .ref b :: rest)) := by
  have hPc := g_pick hP isC hC
  have hDc := hD.sub isC hnC hC
  have hKc := hK.sub isT hT
  have hFc := va_free (wc := wc) hD hS hA isC hC
  refine va_callv (va_runV (As := As) (rest := rest) S hM cw ⟨g_blind hzb, va_recv hKc hPc hcl hb0, fun U hU hW => ⟨rfl, by rw [hU], by rw [hU]; exact hPc, va_K.moved hW.alike hKc, hDc.weaken (fun _ _ _ _ => trivial), by rw [hU]; exact hZ hFc U hU hW⟩⟩ rfl hn hls rfl (lv_room hW) hdg hf) hS (fun q _ h => hFc q h) hFc (fun u t H1 locs ht hvm hw hB1 hz1 hk1 hS1 => ?_)
  obtain ⟨hP1, hK1, hD1⟩ := hB1
  rw [ht] at hP1
  obtain ⟨hP2, hD2⟩ := va_join hP hD isC isR hC hR hnR hdis hk1 hFc hP1 hD1
  exact kk u H1 locs hw (g_pick hP2 isB (hB u)) (hD2.sub isB hnB (hB u)) hS1
theorem g_callSv {St : Type} {WL W2 : St → va_W} {Q' : St → Prop} (As : List Value) (isC isR isT isB : List Nat) {Z : g_Z} (hzb : g_zb Z) (hZ : (∀ q, va_A wc H.size q → A q) → ∀ U : State, U.heap = H → s.WarmedH U.vm → Z (va_A wc H.size) U H) (S : CallFix p m c cc nL s args Ts own)
    (hM : Met l y ws rm (g_pre Z D cl tysC wc H.size As) (g_qv D cl tysC WL Q' (va_A wc H.size)) mc ms (va_A wc H.size)) (cw : CallB R s args own index y bytes maxL ret ws rm mc ms n ∧ (Cond.static y).before args s = true)
    (hK : va_K D cl tys s) (hP : va_P D cl wsW H) (hD : va_D A wsW) (hS : va_S A H0 H locs) (hA : ∀ q, H0.size ≤ q → A q)
    (hC : isC.map (fun i => wsW[i]?) = wc.map some) (hnC : va_nd isC = true) (hR : isR.map (fun i => wsW[i]?) = wr.map some) (hnR : va_nd isR = true) (hdis : ∀ i ∈ isR, i ∉ isC) (hT : isT.filterMap (fun i => tys[i]?) = tysC)
    (hB : ∀ u, isB.map (fun i => (wr ++ WL u)[i]?) = (W2 u).map some) (hnB : va_nd isB = true)
    (hn : As.length = n) (hls : ls.size = nL) (hW : (rest.map fun v => v.category).sum ≤ 8) (hdg : decode cc pc = .ok (.invokestatic index, 3)) (hf : cells + mc ≤ R.cells ∧ slots + ms ≤ R.slots)
    (kk : ∀ (u : St) (H1 : Heap) (locs1 : List Loc), Q' u → va_P D cl (W2 u) H1 → va_D A (W2 u) → va_S A H0 H1 locs1 → W p l e R s m args below meth c H1 locs1 (cells + mc) (slots + ms) Q (F0 m (pc + 3) ls rest)) :
    W p l e R s m args below meth c H locs cells slots Q (F0 m pc ls (As.reverse ++ rest)) := by
  have hPc := g_pick hP isC hC
  have hDc := hD.sub isC hnC hC
  have hKc := hK.sub isT hT
  have hFc := va_free (wc := wc) hD hS hA isC hC
  refine va_callv (va_runS (As := As) (rest := rest) S hM cw ⟨g_blind hzb, fun U hU hW => ⟨rfl, by rw [hU], by rw [hU]; exact hPc, va_K.moved hW.alike hKc, hDc.weaken (fun _ _ _ _ => trivial), by rw [hU]; exact hZ hFc U hU hW⟩⟩ rfl hn hls rfl (lv_room hW) hdg hf) hS (fun q _ h => hFc q h) hFc (fun u t H1 locs ht hvm hw hB1 hz1 hk1 hS1 => ?_)
  obtain ⟨hP1, hK1, hD1⟩ := hB1
  rw [ht] at hP1
  obtain ⟨hP2, hD2⟩ := va_join hP hD isC isR hC hR hnR hdis hk1 hFc hP1 hD1
  exact kk u H1 locs hw (g_pick hP2 isB (hB u)) (hD2.sub isB hnB (hB u)) hS1
/-- a static call of a method that needs no cell -/
theorem g_callP {Q' : Int32 → Prop} (As : List Value) (S : CallFix p m c cc nL s args Ts own) (hM : Met l y ws rm (g_pr0 As) (vp_Si Q') 0 0 (fun _ => False)) (cw : CallB R s args own index y bytes maxL ret ws rm 0 0 n ∧ (Cond.static y).before args s = true)
    (hn : As.length = n) (hls : ls.size = nL) (hW : (rest.map fun v => v.category).sum ≤ 8) (hdg : decode cc pc = .ok (.invokestatic index, 3)) (hf : cells + 0 ≤ R.cells ∧ slots + 0 ≤ R.slots)
    (kk : ∀ r : Int32, Q' r → W p l e R s m args below meth c H locs cells slots Q (F0 m (pc + 3) ls (.int r :: rest))) :
    W p l e R s m args below meth c H locs cells slots Q (F0 m pc ls (As.reverse ++ rest)) :=
  vp_callSi (W.runS (As := As) (rest := rest) S hM cw ⟨g_blind0, fun U hU hW => ⟨rfl, trivial⟩⟩ rfl hn hls rfl (lv_room hW) hdg hf) kk
end GC
