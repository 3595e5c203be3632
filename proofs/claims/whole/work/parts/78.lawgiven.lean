/-! THE CLAIM OUT OF ONE WALK OF THE LAW'S BODY. Your part is whole_start (and what it stands on); all else here is the same for every law, but numbers. -/
def R_law : String := "NumberPileLaw"
def lw_P (b : Addr) (xs : List Int32) (args : Array Value) (s : State) : Prop := args = #[.ref b] ∧ s.IntsAt b xs ∧ xs.length ≤ 2560 ∧ (Jvm.Cond.and given_1 narrow_1).before args s = true
def lw_Q (_ : Array Value) (s : State) (o : Outcome) (t : State) : Prop := o = .returned (some (.int 1)) ∧ Framed s o t [] 600000 7302250
def lw_Z (below : List Frame) (a : Array Value) (s : State) : State → Prop := fun t => ∃ o, t.status = .running ∧ Ended t below o ∧ lw_Q a s o t
/-- the law's own end, with 1 on the stack, nothing written that was there before, its room as the claim has it -/
theorem lw_ret {p : Program} {l : Launch} {e : Env} {s : State} {m : MethodId} {below : List Frame} {meth : Method} {c : Code} {b : Nat} (hx : p.tables.exec = Jvm.exec) (hb : c.code = code) (hr : meth.sig.returnType = ret) (hlocks : meth.locks = false) {pc : Nat} {H : Heap} {ls : Array Slot} (hdg : decode code pc = .ok (.ireturn, 1)) : W p l e room_1 s m #[Value.ref b] below meth c H [] 600000 7302250 (lw_Z below #[Value.ref b] s) (F0 m pc ls [.int 1]) := by
  intro T hT X
  obtain ⟨fs, hret, hrun, hended, hW, hframe⟩ := X.leave (v := some (.int 1)) (hlocks := hlocks) (fun h => by rw [hr] at h; cases h)
  have hmeth' : T.vm.method? m = some meth := X.method'
  refine ⟨T.setFrames fs, ?_, .returned (some (.int 1)), hrun, hended, rfl, ⟨_, rfl⟩, hW, hframe⟩
  jvm_step X.here [X.here.top, hx, hb, hdg, hmeth', hr, ret, narrow_b1]
  (try refine ⟨rfl, ?_⟩); (try refine ⟨rfl, ?_⟩)
  first | (intro acts; rw [hret _ acts rfl rfl rfl]) | rw [hret _ _ rfl rfl rfl]
  exact Steps.refl _
/-- what holds at the law's entry: the machine, the code, the tables' words (any of lw_tbl by 'hts w (by decide +kernel)'), the script of L ints xs at the cell b, what the Statement gives of the start (any of its parts by flat_of_before) -/
def lw_At (p : Program) (s : State) (m : MethodId) (meth : Method) (c : Code) (b L : Nat) (xs : Nat → Int32) : Prop :=
  p.tables.exec = Jvm.exec ∧ c.code = code ∧ meth.sig.returnType = ret ∧ c.maxLocals = 4 ∧ s.vm.findClass R_law = some m.cls ∧ (∀ w ∈ lw_tbl, w.before #[Value.ref b] s = true) ∧ va_X b L xs s s.heap ∧ b < s.heap.size ∧ meth.locks = false ∧ (Jvm.Cond.and given_1 narrow_1).before #[Value.ref b] s = true
/-! ===== the start: two new objects, nothing done ===== -/
theorem sz0 {i : Nat} (h : i < szN 0) : False := by simp [szN] at h
theorem J_0 {q : Nat → Nat} {bv t : Nat} {a' : Nat → Nat → Int32} {b' : Nat → Nat → Int32} : JInv 0 q 0 0 (fun _ => (0 : Int32)) bv 16 (0 : Int32) (0 : Int32) (fun _ => 0) (upd (fun _ => 0) 7 (-1)) t a' b' (fun _ _ => none) [] (fun _ _ => (0 : Int32)) (upd (fun _ => (0 : Int32)) 21 (-1 : Int32)) (0 : Int64) (fun _ _ => (0 : Int32)) := by
  refine ⟨fun _ => 0, fun _ => 0, fun _ => -1, 0, fun _ _ => 0, 0, false, fun _ => 0, fun _ => 0, fun _ => -1, 0, fun _ _ => 0, 0, 0, fun _ => 0, 0, 0, 0, ?_, ?_, ?_⟩
  · have ok : okSt (fun _ => 0) (fun _ => 0) (fun _ => -1) 0 (fun _ _ => 0) 0 := ⟨fun _ => Nat.zero_lt_succ _, fun _ => Nat.zero_le _, fun _ => Or.inl rfl, SI0, by omega⟩
    exact ⟨Or.inl rfl, ok, ok, fun _ => rfl, by omega, fun _ => Nat.zero_lt_succ _, by omega, by omega, by omega⟩
  · exact ⟨by decide, ⟨⟨fun i _ hi => (sz0 hi).elim, fun i _ hi => (sz0 hi).elim, fun i hi => (sz0 hi).elim, fun i hi => (sz0 hi).elim⟩, fun i hi => absurd hi (by omega), fun i hi => absurd hi (by omega), fun i hi => (sz0 hi).elim, fun i hi => (sz0 hi).elim, Or.inl rfl, ⟨rfl, fun i hi => absurd hi (by omega), fun i hi y hy => by cases hy⟩, rfl⟩, fun hc => absurd hc (by decide), rfl, ⟨rfl, by omega, Or.inl rfl, by omega, fun i hi => absurd hi (by omega)⟩, rfl, rfl, rfl⟩
  · exact ⟨⟨by decide, by decide, fun i _ hi => (sz0 hi).elim, fun i hi => absurd hi (by omega), fun i hi => (sz0 hi).elim⟩, ⟨by decide, fun i hi => absurd hi (by omega)⟩, by decide, fun hc => absurd hc (by decide), ⟨fun hc => absurd hc (by decide), fun hc => absurd hc (by decide)⟩, Or.inl rfl, by decide, fun i hi => absurd hi (by omega), by decide, by decide, by decide⟩
theorem i_I : w_X10_init (fun (u : (Nat × Nat × Nat × Nat × (Nat → Nat) × (Nat → Nat) × Nat × Nat × Nat × Nat × Int32 × Int32 × (Nat → Int32) × (Nat → Int32) × Nat × (Nat → Nat → Int32) × (Nat → Nat → Int32) × (Nat → Nat → Option Nat))) => JInv 0 (qm (u.2.2.1) (u.2.2.2.1) (u.2.2.2.2.1)) (u.2.2.2.2.2.2.1) (u.2.2.2.2.2.2.2.1) (fun _ => (0 : Int32)) (u.2.2.2.2.2.2.2.2.1) (u.2.2.2.2.2.2.2.2.2.1) (u.2.2.2.2.2.2.2.2.2.2.1) (u.2.2.2.2.2.2.2.2.2.2.2.1) (u.2.2.2.2.2.2.2.2.2.2.2.2.1) (u.2.2.2.2.2.2.2.2.2.2.2.2.2.1) (u.2.2.2.2.2.2.2.2.2.2.2.2.2.2.1) (u.2.2.2.2.2.2.2.2.2.2.2.2.2.2.2.1) (u.2.2.2.2.2.2.2.2.2.2.2.2.2.2.2.2.1) (u.2.2.2.2.2.2.2.2.2.2.2.2.2.2.2.2.2) [] (fun _ _ => (0 : Int32)) (upd (fun _ => (0 : Int32)) 21 (-1 : Int32)) (0 : Int64) (fun _ _ => (0 : Int32))) := by
  unfold w_X10_init
  intro q2 q3
  refine ⟨vp_in_nI (n := 0) (by omega) (by omega), fun q6 => ⟨vp_in_nI (n := 1) (by omega) (by omega), fun q9 => ⟨vp_in_nI (n := 2) (by omega) (by omega), fun q12 => ⟨vp_in_nI (n := 3) (by omega) (by omega), fun q15 => ⟨vp_in_nI (n := 4) (by omega) (by omega), fun qb q18 => ?_⟩⟩⟩⟩⟩
  unfold w_X4_init
  intro q1
  unfold w_J4_init_da8c8 w_J5_init_d00df
  refine ⟨fun hc => absurd hc (by decide), fun _ => ⟨16, rfl, by omega, fun q3 q22 => ?_⟩⟩
  refine k_init0 (fun q0 t a' b' => ?_)
  exact J_0
/-! what the Statement gives of the start -/
def lg_all : List Cond := lw_tbl ++ flatC (Jvm.Cond.and given_1 narrow_1)
theorem lg_nest : ∀ w ∈ cz_nest, w ∈ lg_all := by decide +kernel
theorem lg_nestT : ∀ w ∈ cz_nest, w.onTables = true := by decide +kernel
theorem lg_cast : ∀ w ∈ cz_cast, w ∈ lg_all := by decide +kernel
theorem lg_castT : ∀ w ∈ cz_cast, w.onTables = true := by decide +kernel
theorem lg_no : ∀ q ∈ cz_no, Cond.not (.castable q.1 q.2) ∈ lg_all := by decide +kernel
def lg_tm (i : Nat) : Term := if i = 0 then .string RX4 70 else if i = 1 then .string RX4 72 else if i = 2 then .string RX4 64 else if i = 3 then .string RX4 66 else .string RX4 68
theorem lg_ex : ∀ i, i < 5 → Cond.exactly (lg_tm i) "java/lang/String" ∈ lg_all := by decide +kernel
theorem lg_co : ∀ i, i < 5 → Cond.eq (.field (lg_tm i) "java/lang/String" "coder" "B") (.int 0) ∈ lg_all := by decide +kernel
theorem lg_ar : ∀ i, i < 5 → Cond.arrayOf (.field (lg_tm i) "java/lang/String" "value" "[B") .byte ∈ lg_all := by decide +kernel
theorem lg_le : ∀ i, i < 5 → Cond.eq (.length (.field (lg_tm i) "java/lang/String" "value" "[B")) (.int (Int32.ofNat (cz_len.getD i 0))) ∈ lg_all := by decide +kernel
theorem lg_el : ∀ i, i < 5 → ∀ j, j < cz_len.getD i 0 → Cond.eq (.elem (.field (lg_tm i) "java/lang/String" "value" "[B") (.int (Int32.ofNat j))) (.int ((cz_byt.getD i []).getD j 0)) ∈ lg_all := by decide +kernel
theorem lg_ne : ∀ i, i < 5 → ∀ j, j < 5 → (i = j ∨ Cond.not (Cond.eq (lg_tm i) (lg_tm j)) ∈ lg_all ∨ Cond.not (Cond.eq (lg_tm j) (lg_tm i)) ∈ lg_all) := by decide +kernel
