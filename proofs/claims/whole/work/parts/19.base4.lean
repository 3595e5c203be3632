/-! texts: a String that stays as it is while a method runs (a constant, or one that its caller made) -/
def strZ (q v m : Nat) (bt : Nat → Int32) : g_Z := fun A U H => va_O "java/lang/String" q A U H ∧ va_OF "java/lang/String" "coder" "B" (.int 0) q A U H ∧ va_OF "java/lang/String" "value" "[B" (.ref v) q A U H ∧ va_T .byte v m (fun j => .int (bt j)) A U H
def czs (adK adV : Nat → Nat) (q v m : Nat) (bt : Nat → Int32) : g_Z := fun A U H => cz adK adV A U H ∧ strZ q v m bt A U H
theorem czsb {adK adV : Nat → Nat} {q v m : Nat} {bt : Nat → Int32} : g_zb (czs adK adV q v m bt) := by
  intro A U U' H hv h
  have ha := alike_of_eq hv
  exact ⟨czb A U U' H hv h.1, va_O.moved ha h.2.1, va_OF.moved ha h.2.2.1, va_OF.moved ha h.2.2.2.1, va_T.moved ha h.2.2.2.2⟩
theorem strZ_c {A : Nat → Prop} {s : State} {H : Heap} {locs : List Loc} {q v m : Nat} {bt : Nat → Int32} (hZ : strZ q v m bt A s s.heap) (hS : va_S A s.heap H locs) {B : Nat → Prop} (hF : ∀ q, B q → A q) : ∀ U : State, U.heap = H → s.WarmedH U.vm → strZ q v m bt B U H := by
  intro U hU hW
  have ha := hW.alike
  have hk : ∀ a : Nat, a < s.heap.size → ¬ A a → H[a]? = s.heap[a]? := hS.2.1
  exact ⟨((va_O.moved ha hZ.1).kept hk).narrow hF, ((va_OF.moved ha hZ.2.1).kept hk).narrow hF, ((va_OF.moved ha hZ.2.2.1).kept hk).narrow hF, ((va_T.moved ha hZ.2.2.2).kept hk).narrow hF⟩
theorem czsc {adK adV : Nat → Nat} {A : Nat → Prop} {s : State} {H : Heap} {locs : List Loc} {q v m : Nat} {bt : Nat → Int32} (hZ : czs adK adV q v m bt A s s.heap) (hS : va_S A s.heap H locs) {B : Nat → Prop} (hF : ∀ q, B q → A q) : ∀ U : State, U.heap = H → s.WarmedH U.vm → czs adK adV q v m bt B U H :=
  fun U hU hW => ⟨czc hZ.1 hS hF U hU hW, strZ_c hZ.2 hS hF U hU hW⟩
def czm (i : Nat) : Nat := cz_len.getD i 0
def czt (i j : Nat) : Int32 := (cz_byt.getD i []).getD j 0
/-- a constant is such a text -/
theorem strZ_k {adK adV : Nat → Nat} {A : Nat → Prop} {U : State} {H : Heap} (hZ : cz adK adV A U H) (i : Nat) (hi : i < 5) : strZ (adK i) (adV i) (czm i) (czt i) A U H :=
  ⟨(hZ.2.2.2.2.2.2.2.1 i hi).1, (hZ.2.2.2.2.2.2.2.1 i hi).2.1, (hZ.2.2.2.2.2.2.2.1 i hi).2.2.1, (hZ.2.2.2.2.2.2.2.1 i hi).2.2.2⟩
theorem czsk {adK adV : Nat → Nat} {A : Nat → Prop} {s : State} {H : Heap} {locs : List Loc} (hZ : cz adK adV A s s.heap) (hS : va_S A s.heap H locs) (i : Nat) (hi : i < 5) {B : Nat → Prop} (hF : ∀ q, B q → A q) : ∀ U : State, U.heap = H → s.WarmedH U.vm → czs adK adV (adK i) (adV i) (czm i) (czt i) B U H :=
  fun U hU hW => ⟨czc hZ hS hF U hU hW, strZ_c (strZ_k hZ i hi) hS hF U hU hW⟩
section GS
variable {p : Program} {l : Launch} {e : Env} {R : Room} {s : State} {m : MethodId} {args : Array Value} {below : List Frame} {meth : Method} {c : Code} {H : Heap} {locs : List Loc} {cells slots : Nat} {Q : State → Prop}
variable {D : va_G} {cl : List vw_C} {A : Nat → Prop} {tysC : List (ClassId × FieldType)} {wc : va_W}
/-- a call on a text -/
theorem g_pVs {Z : g_Z} (hzb : g_zb Z) {q v n : Nat} {bt : Nat → Int32} {As : List Value} (hs : strZ q v n bt A s s.heap) (hS : va_S A s.heap H locs) (hPc : va_P D cl wc H) (hDc : va_D A wc) (hKc : va_K D cl tysC s) (hZ : ∀ U : State, U.heap = H → s.WarmedH U.vm → Z (va_A wc H.size) U H) : PreV s H RJ0 q (g_pre Z D cl tysC wc H.size (.ref q :: As)) As := by
  obtain ⟨cell, h1, h2, h3, -⟩ := hs.1.kept hS.2.1
  exact ⟨g_blind hzb, ⟨cell, h1, h2, h3⟩, fun U hU hW => ⟨rfl, by rw [hU], by rw [hU]; exact hPc, va_K.moved hW.alike hKc, hDc.weaken (fun _ _ _ _ => trivial), by rw [hU]; exact hZ U hU hW⟩⟩
end GS
/-- answers of the narrow types -/
theorem g_startn {St : Type} {WL : St → va_W} {Z : g_Z} {l : Launch} {y : MethodName} {ws ws' : List Cond} {rm : Room} {D : va_G} {cl : List vw_C} {tys tysC : List (ClassId × FieldType)} {wc : va_W} {sz : Nat} {av : List Value} {Q' : Int32 → St → Prop} {mc ms : Nat} {cc : ByteArray} {maxL : Nat} {ty : FieldType} (hy : plainName y.cls = true) (hw : ws = Cond.code y cc maxL (some ty) :: ws') (hlen : (lg_sl av).length ≤ maxL)
    (body : ∀ (p : Program) (e : Env) (s : State) (m : MethodId) (args : Array Value) (below : List Frame) (meth : Method) (c : Code) (A : Nat → Prop) (Q : State → Prop) (ls : Array Slot), p.tables.exec = Jvm.exec → c.code = cc → c.maxLocals = maxL → s.vm.findClass y.cls = some m.cls → (∀ w ∈ ws, w.before args s = true) → meth.name = y.name → va_K D cl tys s → va_P D cl wc s.heap → va_D A wc → (∀ q, s.heap.size ≤ q → A q) → va_S A s.heap s.heap [] → Z A s s.heap →
      (∀ {H : Heap} {locs : List Loc} {pc : Nat} {ls : Array Slot} {v : Int32} {u : St}, decode cc pc = .ok (.ireturn, 1) → va_K D cl tysC s → va_P D cl (WL u) H → va_D A (WL u) → va_S A s.heap H locs → narrow ty (.int v) = .int v → Q' v u → W p l e rm s m args below meth c H locs mc ms Q (F0 m pc ls [.int v])) → lv_has ls maxL (lv_args 0 av) →
      W p l e rm s m args below meth c s.heap [] 0 0 Q (F0 m 0 ls [])) :
    Met l y ws rm (g_pre Z D cl tys wc sz av) (g_qi D cl tysC WL Q' (va_A wc sz)) mc ms (va_A wc sz) := by
  refine Met.ofW hy hw ?_
  intro p e s m args below meth c s₁ B hml hv
  obtain ⟨rfl, hsz, hP, hK, hD0, hZ⟩ := hv
  have hown : s.vm.findClass y.cls = some m.cls := findClass_of_methodNamed B.named
  have hin : meth.name = y.name := (name_of_methodNamed B.named B.method).1
  subst hsz
  have hl := lv_entry av (n := maxL) hlen
  rw [lg_entry_eq]
  exact body p e s m av.toArray below meth c (va_A wc s.heap.size) _ _ B.exec B.bytes hml hown (atoms_spec (ws := ws) B.pre) hin hK hP (hD0.self (sz := s.heap.size)) (fun q h => Or.inr h) va_S.rf hZ (fun {H locs pc ls v u} hdg hKr hP hD hS hn hq => W.zret B.exec B.bytes B.returns hn (fun t ht hW => ⟨⟨v, u, rfl, hq, by rw [ht]; exact hP, va_K.moved hW.alike hKr, hD⟩, hS.F ht⟩) hS.2.2 hdg B.notSynchronized) hl
