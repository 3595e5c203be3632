/-! ===== the reference: sums, swing, sorts, tries, draws ===== -/
theorem p_layNow0 {f : Nat → Int32} {g : Int64} {a : Nat → Nat → Int32} {Q : MSt → Prop} (h7 : f 7 = nI 0) (h : ∀ a', Lay a a' → Q (f, g, a')) : w_X11_layNow f g a Q := by
  unfold w_X11_layNow
  refine p_copy (Nat.le_refl _) (by decide) (fun z hz _ => ?_)
  show w_X11_layValues f g (va_up (va_up a 11 (a 11)) 14 z) (fun u2 => Q u2)
  rw [va_up_id]
  unfold w_X11_layValues
  intro X hX
  exact hX _ _ (pk_le 0 0 (fun _ => h _ (Lay.v14 _ _)) (fun h9 => absurd h9 (by omega)) h7)
def sumN (f : Nat → Nat) : Nat → Nat
  | 0 => 0
  | i + 1 => sumN f i + f i
theorem sumN_le {f : Nat → Nat} {B m : Nat} (h : ∀ i, i < m → f i ≤ B) : ∀ i, i ≤ m → sumN f i ≤ B * i
  | 0, _ => by simp [sumN]
  | i + 1, hi => by
    have h1 := sumN_le h i (by omega)
    have h2 := h i (by omega)
    show sumN f i + f i ≤ B * (i + 1)
    rw [Nat.mul_add]; omega
theorem p_valuesAll {n : Nat} {kd D : Nat → Nat} {T : Nat → Int32} {f : Nat → Int32} {g : Int64} {a : Nat → Nat → Int32} {Q : Int32 → MSt → Prop} (hp : PI n kd D T) (hr : RI n kd D T f a) (h : ∀ a', Lay a a' → Q (nI (sumN (vl n kd D) (szN n))) (f, g, a')) : w_X11_valuesAll f g a Q := by
  unfold w_X11_valuesAll
  refine p_layNow hp hr (fun a' hl h14 h13 => ?_)
  have hs := hp.1.sz
  intro X hX
  have key : ∀ e i, i + e = szN n → X (nI (sumN (vl n kd D) i)) (nI i) := by
    intro e
    induction e with
    | zero =>
      intro i hi
      refine hX _ _ (pk_le (szN n) i (fun _ => ?_) (fun h9 => absurd h9 (by omega)) hr.2.1)
      rw [show i = szN n by omega]; exact h a' hl
    | succ e ih =>
      intro i hi
      refine hX _ _ (pk_le (szN n) i (fun h9 => absurd h9 (by omega)) (fun _ => ⟨vp_in_nI (by omega) (by omega), fun x7 e7 x8 e8 => ?_⟩) hr.2.1)
      have e7' : x7 = nI (sumN (vl n kd D) i) + a' 13 (nI i).toNatClampNeg := e7
      rw [e7', e8, nI_clamp (by omega), h13 i (by omega), nI_add, nI_1]
      exact ih (i + 1) (by omega)
  exact key (szN n) 0 (by omega)
/-- how many are told, all or those that are so -/
def tldN (T : Nat → Int32) (v : Nat → Nat) (right : Bool) : Nat → Nat := cnt (fun i => decide (T i ≠ -1) && (!right || decide (T i = nI (v i))))
theorem p_toldMany {n : Nat} {kd D : Nat → Nat} {T : Nat → Int32} {f : Nat → Int32} {g : Int64} {a : Nat → Nat → Int32} {Q : Int32 → MSt → Prop} {r : Bool} (hp : PI n kd D T) (hr : RI n kd D T f a) (h : ∀ a', Lay a a' → Q (nI (tldN T (vl n kd D) r (szN n))) (f, g, a')) : w_X11_toldMany f g a (if r then 1 else 0) Q := by
  unfold w_X11_toldMany
  refine p_layNow hp hr (fun a' hl h14 h13 => ?_)
  have hs := hp.1.sz
  have hr' := hr.lay hl
  intro X hX
  have key : ∀ e i, i + e = szN n → X (nI (tldN T (vl n kd D) r i)) (nI i) := by
    intro e
    induction e with
    | zero =>
      intro i hi
      refine hX _ _ (pk_le (szN n) i (fun _ => ?_) (fun h9 => absurd h9 (by omega)) hr.2.1)
      rw [show i = szN n by omega]; exact h a' hl
    | succ e ih =>
      intro i hi
      refine hX _ _ (pk_le (szN n) i (fun h9 => absurd h9 (by omega)) (fun _ => ⟨vp_in_nI (by omega) (by omega), fun J8 hJ8 J11 hJ11 => ?_⟩) hr.2.1)
      show (a' 12 (nI i).toNatClampNeg = -1 → J11) ∧ (¬ a' 12 (nI i).toNatClampNeg = -1 → ∀ J13 : Prop, (J8 1 → J13) → (((if r then (1 : Int32) else 0) = 0 → J13) ∧ (¬ (if r then (1 : Int32) else 0) = 0 → vp_in (nI i) 10 ∧ vp_in (nI i) 10 ∧ ((¬ a' 12 (nI i).toNatClampNeg = a' 13 (nI i).toNatClampNeg → J11) ∧ (a' 12 (nI i).toNatClampNeg = a' 13 (nI i).toNatClampNeg → J13)))))
      rw [nI_clamp (by omega), hr'.2.2.2.2 i (by omega), h13 i (by omega)]
      have hi1 : vp_in (nI i) 10 := vp_in_nI (by omega) (by omega)
      have no : (decide (T i ≠ -1) && (!r || decide (T i = nI (vl n kd D i)))) = false → J11 := fun h9 => hJ11 (hJ8 _ (fun x9 e9 x10 e10 => by
        rw [e9, e10, nI_1, show (0 : Int32) = nI 0 from rfl, nI_add]
        have : tldN T (vl n kd D) r i + 0 = tldN T (vl n kd D) r (i + 1) := by unfold tldN; rw [cnt_succ, h9]; rfl
        rw [this]
        exact ih (i + 1) (by omega)))
      have yes : (decide (T i ≠ -1) && (!r || decide (T i = nI (vl n kd D i)))) = true → J8 1 := fun h9 => hJ8 _ (fun x9 e9 x10 e10 => by
        rw [e9, e10, nI_1, nI_1]
        have : tldN T (vl n kd D) r i + 1 = tldN T (vl n kd D) r (i + 1) := by unfold tldN; rw [cnt_succ, h9]; rfl
        rw [this]
        exact ih (i + 1) (by omega))
      refine ⟨fun ht => no (by simp [ht]), fun ht J13 hJ13 => ?_⟩
      cases r with
      | false => exact ⟨fun _ => hJ13 (yes (by simp [ht])), fun h9 => absurd rfl h9⟩
      | true =>
        refine ⟨fun h9 => absurd h9 (by decide), fun _ => ⟨hi1, hi1, fun h9 => no (by simp [h9]), fun h9 => hJ13 (yes ?_)⟩⟩
        rw [h9] at ht
        simp [h9, ht]
  exact key (szN n) 0 (by omega)
theorem p_all0 {f : Nat → Int32} {g : Int64} {a : Nat → Nat → Int32} {Q : Int32 → MSt → Prop} (h7 : f 7 = nI 0) (h : ∀ a', Lay a a' → Q 0 (f, g, a')) : w_X11_valuesAll f g a Q := by
  unfold w_X11_valuesAll
  refine p_layNow0 h7 (fun a' hl => ?_)
  intro X hX
  exact hX _ _ (pk_le 0 0 (fun _ => h a' hl) (fun h9 => absurd h9 (by omega)) h7)
theorem p_told0 {f : Nat → Int32} {g : Int64} {a : Nat → Nat → Int32} {Q : Int32 → MSt → Prop} {p : Int32} (h7 : f 7 = nI 0) (h : ∀ a', Lay a a' → Q 0 (f, g, a')) : w_X11_toldMany f g a p Q := by
  unfold w_X11_toldMany
  refine p_layNow0 h7 (fun a' hl => ?_)
  intro X hX
  exact hX _ _ (pk_le 0 0 (fun _ => h a' hl) (fun h9 => absurd h9 (by omega)) h7)
/-- D, with one more at i -/
def incN (D : Nat → Nat) (i : Nat) : Nat → Nat := fun j => if j = i then D j + 1 else D j
def swV (n : Nat) (kd D : Nat → Nat) (i : Nat) : Int32 := if D i = 9 then -1 else 1000 + nI (topN n kd (incN D i)) - nI (topN n kd D)
theorem vl_cong {n : Nat} {kd x y : Nat → Nat} (hn : okN n) (h : ∀ j, j < n → x j = y j) : ∀ i, i < szN n → vl n kd x i = vl n kd y i := by
  intro i
  induction i using Nat.strongRecOn with
  | ind i ih =>
    intro hi
    by_cases hin : i < n
    · rw [vl_low hin, vl_low hin, h i hin]
    · have hl := lf_lt hn (by omega) hi
      rw [vl_up hn (by omega) hi, vl_up hn (by omega) hi, ih _ (by omega) (by omega), ih _ (by omega) (by omega)]
theorem p_swingOf {n i : Nat} {kd D : Nat → Nat} {T : Nat → Int32} {f : Nat → Int32} {g : Int64} {a : Nat → Nat → Int32} {Q : Int32 → MSt → Prop} (hp : PI n kd D T) (hr : RI n kd D T f a) (hi : i < n) (h : ∀ a', Lay a a' → Q (swV n kd D i) (f, g, a')) : w_X11_swingOf f g a (nI i) Q := by
  unfold w_X11_swingOf
  refine p_topNow hp hr (fun a' hl h14 h13 => ?_)
  have hs := hp.1.sz
  have hle := hp.1.le
  have hr' := hr.lay hl
  have hdi := hp.2.2.1 i
  have hin : vp_in (nI i) 4 := vp_in_nI (by omega) (by omega)
  refine ⟨hin, ?_⟩
  show (¬ a' 11 (nI i).toNatClampNeg = 9 → vp_in (nI i) 4 ∧ ∀ x7 : Int32, x7 = a' 14 (nI i).toNatClampNeg + 1 → vp_in (nI i) 4 ∧ w_X11_layValues f g (va_up a' 14 (upd (a' 14) (nI i).toNatClampNeg x7)) (fun u8 => vp_in (u8.1 7 - 1) 10 ∧ Q (1000 + u8.2.2 13 (u8.1 7 - 1).toNatClampNeg - nI (vl n kd D (szN n - 1))) u8)) ∧ (a' 11 (nI i).toNatClampNeg = 9 → Q (-1) (f, g, a'))
  rw [nI_clamp (by omega), hr'.2.2.2.1 i hi, h14 i hi, show (9 : Int32) = nI 9 from rfl, nI_eq (by omega) (by omega)]
  refine ⟨fun hne => ⟨hin, fun x7 e7 => ⟨hin, ?_⟩⟩, fun he => ?_⟩
  · rw [e7, nI_1]
    have hm : ∀ j, min (incN D i j) 9 ≤ 9 := fun j => Nat.min_le_right _ _
    have em : ∀ j, j < n → incN D i j = min (incN D i j) 9 := fun j _ => by
      have := hp.2.2.1 j
      unfold incN
      split
      · rename_i h9; subst h9; omega
      · omega
    refine p_layValues hp.1 hp.2.1 hm hr.1 hr.2.1 (fun j h1 h2 => by rw [va_up_ne _ _ (by decide)]; exact hr'.2.2.1 j h1 h2) (fun j hj => ?_) (fun v hv => ?_)
    · rw [va_up_self, ← em j hj]
      by_cases hji : j = i
      · subst hji; rw [pk_us]; simp [incN]
      · rw [pk_un hji, h14 j hj]; simp [incN, hji]
    · show vp_in (f 7 - 1) 10 ∧ Q (1000 + va_up (va_up a' 14 (upd (a' 14) i (nI (D i + 1)))) 13 v 13 (f 7 - 1).toNatClampNeg - nI (vl n kd D (szN n - 1))) (f, g, va_up (va_up a' 14 (upd (a' 14) i (nI (D i + 1)))) 13 v)
      rw [hr.2.1, show (1 : Int32) = nI 1 from rfl, pk_sub (by omega), nI_clamp (by omega), va_up_self, hv _ (by omega), ← vl_cong hp.1 em _ (by omega)]
      refine ⟨vp_in_nI (by omega) (by omega), ?_⟩
      have := h (va_up (va_up a' 14 (upd (a' 14) i (nI (D i + 1)))) 13 v) (hl.trans ⟨_, v, rfl⟩)
      unfold swV at this
      rw [if_neg hne] at this
      exact this
  · have := h a' hl
    unfold swV at this
    rw [if_pos he] at this
    exact this
