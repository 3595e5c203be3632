/-! what the class needs besides its cells: links among nest mates, casts, the String constants, statics: they stay over calls -/
def cz_nest : List Cond := [.methodLinkNest RX1 1 yX0_init "NumberPile", .methodLinkNest RX10 9 yX0_init "NumberPile", .methodLinkNest RX10 12 yX1_init "NumberPile", .methodLinkNest RX10 15 yX3_init "NumberPile", .methodLinkNest RX10 18 yX9_init "NumberPile", .methodLinkNest RX10 21 yX2_init "NumberPile", .methodLinkNest RX10 30 yX4_init "NumberPile", .fieldLinkNest RX10 81 "NumberPile$Pile" "size" "I" "NumberPile", .fieldLinkNest RX10 95 "NumberPile$Pile" "values" "[I" "NumberPile", .fieldLinkNest RX10 99 "NumberPile$Pile" "leftBelow" "[I" "NumberPile", .fieldLinkNest RX10 102 "NumberPile$Pile" "now" "LNumberPile$State;" "NumberPile", .fieldLinkNest RX10 106 "NumberPile$State" "told" "[I" "NumberPile", .fieldLinkNest RX10 131 "NumberPile$State" "changes" "I" "NumberPile", .fieldLinkNest RX10 134 "NumberPile$State" "figures" "[I" "NumberPile", .fieldLinkNest RX10 177 "NumberPile$Pile" "fittingWith" "[I" "NumberPile", .fieldLinkNest RX10 183 "NumberPile$State" "sights" "I" "NumberPile", .fieldLinkNest RX10 209 "NumberPile$Pile" "hasImage" "Z" "NumberPile", .fieldLinkNest RX10 216 "NumberPile$Pile" "wide" "I" "NumberPile", .methodLinkNest RX12 24 yX10_isWithin "NumberPile", .methodLinkNest RX2 3 yX9_init "NumberPile", .methodLinkNest RX3 1 yX0_init "NumberPile", .methodLinkNest RX4 22 yX10_isWithin "NumberPile", .methodLinkNest RX4 77 yX10_isDigit "NumberPile", .fieldLinkNest RX5 49 "NumberPile$State" "above" "[I" "NumberPile", .methodLinkNest RX5 94 yX10_isDigit "NumberPile", .fieldLinkNest RX5 98 "NumberPile$State" "figures" "[I" "NumberPile", .methodLinkNest RX5 104 yX10_copy "NumberPile", .fieldLinkNest RX5 118 "NumberPile$State" "told" "[I" "NumberPile", .fieldLinkNest RX5 121 "NumberPile$State" "changes" "I" "NumberPile", .methodLinkNest RX5 145 yX10_asNumber "NumberPile", .fieldLinkNest RX5 161 "NumberPile$Rows" "values" "[I" "NumberPile", .fieldLinkNest RX5 193 "NumberPile$State" "sights" "I" "NumberPile", .fieldLinkNest RX5 196 "NumberPile$State" "seen" "[LNumberPile$Sight;" "NumberPile", .methodLinkNest RX6 37 yX10_asNumber "NumberPile", .methodLinkNest RX8 37 yX10_copy "NumberPile", .methodLinkNest RX9 1 yX0_init "NumberPile"]
def cz_cast : List Cond := [.castable RX1 RX0, .castable RX2 RX0, .castable RX2 RX9, .castable RX3 RX0, .castable RX9 RX0]
def cz_no : List (String × String) := [(RX0, RX1), (RX0, RX3), (RX0, RX9), (RX0, RX2), (RX1, RX3), (RX1, RX9), (RX1, RX2), (RX3, RX1), (RX3, RX9), (RX3, RX2), (RX9, RX1), (RX9, RX3), (RX9, RX2), (RX2, RX1), (RX2, RX3)]
def cz_len : List Nat := [0, 5, 6, 10, 15]
def cz_byt : List (List Int32) := [[], [115, 103, 109, 119, 108], [50, 59, 75, 59, 68, 68], [51, 59, 75, 75, 44, 75, 59, 68, 68, 68], [52, 59, 75, 75, 75, 44, 75, 75, 44, 75, 59, 68, 68, 68, 68]]
def cz_str : List (String × Nat × String × Nat) := [(RX4, 64, "2;K;DD", 2), (RX4, 66, "3;KK,K;DDD", 3), (RX4, 68, "4;KKK,KK,K;DDDD", 4), (RX4, 70, "", 0), (RX4, 72, "sgmwl", 1), (RX5, 84, "sgmwl", 1)]
def cz_stat : List (String × String × String × Int32) := [("java/lang/String", "COMPACT_STRINGS", "Z", 1)]
def cz_ok : Cond → Bool
  | .fieldLinkNest .. => true
  | .methodLinkNest .. => true
  | .castable .. => true
  | _ => false
theorem cz_okw {w : Cond} (h : cz_ok w = true) {s U : State} (hW : s.WarmedH U.vm) (hz : va_Nw w s) : va_Nw w U := by
  cases w <;> simp [cz_ok] at h
  all_goals first | exact va_Nw.warmF hW hz | exact va_Nw.warmM hW hz | exact va_Nw.warmC hW hz
theorem cz_oks {w : Cond} (h : cz_ok w = true) {s U : State} (hv : U.vm = s.vm) (hz : va_Nw w s) : va_Nw w U := by
  cases w <;> simp [cz_ok] at h
  all_goals exact va_Nw.same rfl hv.symm hz
theorem cz_nest_ok : ∀ w ∈ cz_nest, cz_ok w = true := by decide +kernel
theorem cz_cast_ok : ∀ w ∈ cz_cast, cz_ok w = true := by decide +kernel
/-- the side predicate -/
def cz (adK adV : Nat → Nat) : g_Z := fun A U H => (∀ w ∈ cz_nest, va_Nw w U) ∧ (∀ w ∈ cz_cast, va_Nw w U) ∧ (∀ q ∈ cz_no, va_Nc q.1 q.2 U) ∧ (va_AO RX0 U ∧ va_AO RX7 U) ∧ (∀ q ∈ cz_str, vk_R q.1 q.2.1 q.2.2.1 (adK q.2.2.2) U) ∧ (∀ q ∈ cz_stat, va_Z q.1 q.2.1 q.2.2.1 (.int q.2.2.2) A U H) ∧ va_Zq "jdk/internal/util/Preconditions" "SIOOBE_FORMATTER" "Ljava/util/function/BiFunction;" A U H ∧ vk_S 5 cz_len cz_byt adK adV A U H
theorem alike_of_eq {u U : State} (h : U.vm = u.vm) : u.vm.Alike U.vm := by rw [h]; exact Vm.Alike.refl _
theorem czb {adK adV : Nat → Nat} : g_zb (cz adK adV) := by
  intro A U U' H hv h
  obtain ⟨h1, h2, h3, h4, h5, h6, h7, h8⟩ := h
  have ha := alike_of_eq hv
  refine ⟨fun w hw => cz_oks (cz_nest_ok w hw) hv (h1 w hw), fun w hw => cz_oks (cz_cast_ok w hw) hv (h2 w hw), fun q hq => va_Nc.moved ha (h3 q hq), ⟨va_AO.moved ha h4.1, va_AO.moved ha h4.2⟩, fun q hq => vk_R.same hv (h5 q hq), fun q hq => va_Z.moved ha (h6 q hq), ?_, vk_S.moved ha h8⟩
  rcases h7 with h | ⟨t, h⟩
  · exact Or.inl (va_Z.moved ha h)
  · exact Or.inr ⟨t, va_Z.moved ha h⟩
/-- at a call: for the callee's region, in the state that it starts from -/
theorem czc {adK adV : Nat → Nat} {A : Nat → Prop} {s : State} {H : Heap} {locs : List Loc} (hZ : cz adK adV A s s.heap) (hS : va_S A s.heap H locs) {B : Nat → Prop} (hF : ∀ q, B q → A q) : ∀ U : State, U.heap = H → s.WarmedH U.vm → cz adK adV B U H := by
  intro U hU hW
  obtain ⟨h1, h2, h3, h4, h5, h6, h7, h8⟩ := hZ
  have ha := hW.alike
  have hk : ∀ a : Nat, a < s.heap.size → ¬ A a → H[a]? = s.heap[a]? := hS.2.1
  refine ⟨fun w hw => cz_okw (cz_nest_ok w hw) hW (h1 w hw), fun w hw => cz_okw (cz_cast_ok w hw) hW (h2 w hw), fun q hq => va_Nc.moved ha (h3 q hq), ⟨va_AO.moved ha h4.1, va_AO.moved ha h4.2⟩, fun q hq => vk_R.warm hW (h5 q hq), fun q hq => ((va_Z.moved ha (h6 q hq)).kept hk).narrow hF, ?_, ((vk_S.moved ha h8).kept hk).narrow hF⟩
  rcases h7 with h | ⟨t, h⟩
  · exact Or.inl (((va_Z.moved ha h).kept hk).narrow hF)
  · exact Or.inr ⟨t, ((va_Z.moved ha h).kept hk).narrow hF⟩
theorem isB_f {r : Int32} (h : isB r) : fits .boolean (.int r) = true := by
  rcases h with rfl | rfl <;> rfl
/-! bricks: five objects, one a kind; an array of them holds kinds -/
theorem bk_rf {X : Nat → Option Nat} {qb : Nat → Nat} {i kd : Nat} (h : X i = some kd) : va_rf ((fun j => (X j).map qb) i) = .ref (qb kd) := by
  show va_rf ((X i).map qb) = _
  rw [h]
  rfl
theorem bk_up {X : Nat → Option Nat} {qb : Nat → Nat} {k kd : Nat} : va_up (fun i => (X i).map qb) k (some (qb kd)) = (fun i => (va_up X k (some kd) i).map qb) := by
  funext i
  by_cases h : i = k <;> simp [va_up, h]
theorem bk_cpy {X Y : Nat → Option Nat} {qb : Nat → Nat} {sp dp n : Nat} : va_cpy (fun i => (X i).map qb) (fun i => (Y i).map qb) sp dp n = (fun i => (va_cpy X Y sp dp n i).map qb) := by
  funext i
  by_cases h : dp ≤ i ∧ i < dp + n <;> simp [va_cpy, h]
def bk_ci (j : Nat) : Nat := if j = 0 then 2 else if j = 1 then 3 else if j = 2 then 5 else if j = 3 then 11 else 4
/-- an object of one of the five kinds is a brick -/
theorem bk_any {adK adV : Nat → Nat} {A : Nat → Prop} {s : State} {H H0 : Heap} {D : va_G} {tys : List (ClassId × FieldType)} {ws : va_W} {qb : Nat → Nat} {kd : Nat} (hk : kd < 5) (hZ : cz adK adV A s H0) (hK : va_K D vwCl tys s) (hP : va_P D vwCl ws H) (hB : ∀ j, j < 5 → ∃ (q0 : Nat) (fs : List Value), ws[q0]? = some (qb j, .inr (bk_ci j, fs))) : va_Any RX0 s H (qb kd) := by
  obtain ⟨q0, fs, he⟩ := hB kd hk
  have hc := hZ.2.1
  have cs : ∀ {C E : String}, va_Nw (.castable C E) s → ∀ comp c0 : ClassId, s.vm.findClass E = some comp → s.vm.findClass C = some c0 → s.vm.assignable c0 comp = true := by
    intro C E h comp c0 h1 h2
    have h3 := h
    simp only [va_Nw, Cond.before, Cond.holds, Cond.value, h1, h2] at h3
    simpa using h3
  rcases (show kd = 0 ∨ kd = 1 ∨ kd = 2 ∨ kd = 3 ∨ kd = 4 by omega) with rfl | rfl | rfl | rfl | rfl
  · exact va_rAny (r := (RX0, TX0, 0)) hK hP he rfl (fun comp c0 h1 h2 => by rw [show RX0 = RX0 from rfl] at h1; rw [h1] at h2; cases h2; exact va_asg _ _)
  · exact va_rAny (r := (RX1, TX1, 0)) hK hP he rfl (cs (hc _ (by decide +kernel)))
  · exact va_rAny (r := (RX3, TX3, 0)) hK hP he rfl (cs (hc _ (by decide +kernel)))
  · exact va_rAny (r := (RX9, TX9, 0)) hK hP he rfl (cs (hc _ (by decide +kernel)))
  · exact va_rAny (r := (RX2, TX2, 0)) hK hP he rfl (cs (hc _ (by decide +kernel)))
/-- the objects of Sight, pooled: what each holds, by its address -/
def sgF (sf : Nat → Nat → Int32) : Nat → va_E := fun y => .inr (9, [.int (sf y 0), .int (sf y 1), .int (sf y 2), .int (sf y 3)])
