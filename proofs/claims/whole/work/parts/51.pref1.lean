/-! ===== the reference: rows of figures by their numbers ===== -/
def dg (n N i : Nat) : Nat := N / 10 ^ (n - 1 - i) % 10
theorem dg_le (n N i : Nat) : dg n N i ≤ 9 := by unfold dg; omega
/-- only what is laid has changed -/
def Lay (a a' : Nat → Nat → Int32) : Prop := ∃ s v, a' = va_up (va_up a 14 s) 13 v
theorem Lay.refl (a : Nat → Nat → Int32) : Lay a a := ⟨a 14, a 13, by rw [va_up_id, va_up_id]⟩
theorem Lay.trans {a b c : Nat → Nat → Int32} (h : Lay a b) (h2 : Lay b c) : Lay a c := by
  obtain ⟨s, v, rfl⟩ := h
  obtain ⟨s', v', rfl⟩ := h2
  exact ⟨s', v', by rw [va_up_comm _ (show (13 : Nat) ≠ 14 by decide), va_up_up, va_up_up]⟩
theorem Lay.at {a b : Nat → Nat → Int32} (h : Lay a b) {j : Nat} (h3 : j ≠ 13) (h4 : j ≠ 14) : b j = a j := by
  obtain ⟨s, v, rfl⟩ := h
  rw [va_up_ne _ _ h3, va_up_ne _ _ h4]
theorem Lay.v13 (a : Nat → Nat → Int32) (v : Nat → Int32) : Lay a (va_up a 13 v) := ⟨a 14, v, by rw [va_up_id]⟩
theorem Lay.v14 (a : Nat → Nat → Int32) (v : Nat → Int32) : Lay a (va_up a 14 v) := ⟨v, a 13, by rw [va_up_comm _ (show (14 : Nat) ≠ 13 by decide), va_up_id]⟩
/-- the reference's cells hold this pile: width, kinds, figures, what is told -/
def RI (n : Nat) (kd D : Nat → Nat) (T : Nat → Int32) (f : Nat → Int32) (a : Nat → Nat → Int32) : Prop := f 6 = nI n ∧ f 7 = nI (szN n) ∧ (∀ i, n ≤ i → i < szN n → a 10 i = nI (kd i)) ∧ (∀ i, i < n → a 11 i = nI (D i)) ∧ (∀ i, i < szN n → a 12 i = T i)
theorem RI.lay {n : Nat} {kd D : Nat → Nat} {T : Nat → Int32} {f : Nat → Int32} {a a' : Nat → Nat → Int32} (h : RI n kd D T f a) (hl : Lay a a') : RI n kd D T f a' := by
  obtain ⟨h1, h2, h3, h4, h5⟩ := h
  refine ⟨h1, h2, ?_, ?_, ?_⟩
  · rw [hl.at (by decide) (by decide)]; exact h3
  · rw [hl.at (by decide) (by decide)]; exact h4
  · rw [hl.at (by decide) (by decide)]; exact h5
/-- what a pile is: its width, kinds below 5, digits, told ones -/
def PI (n : Nat) (kd D : Nat → Nat) (T : Nat → Int32) : Prop := okN n ∧ (∀ i, kd i < 5) ∧ (∀ i, D i ≤ 9) ∧ (∀ i, T i = -1 ∨ ∃ t, t ≤ 999 ∧ T i = nI t)
theorem p_copy {n1 n2 : Nat} {y1 y2 : Nat → Int32} {Q : ((Nat → Int32) × (Nat → Int32)) → Prop} (hn : n1 ≤ n2) (h2 : n2 < 2 ^ 31) (h : ∀ z, (∀ i, i < n1 → z i = y1 i) → (∀ i, n1 ≤ i → z i = y2 i) → Q (y1, z)) : w_X11_copy n1 n2 y1 y2 Q := by
  unfold w_X11_copy
  intro X hX
  have key : ∀ d i z, i + d = n1 → (∀ j, j < i → z j = y1 j) → (∀ j, i ≤ j → z j = y2 j) → X (nI i) (y1, z) := by
    intro d
    induction d with
    | zero =>
      intro i z hi hz hz2
      exact hX _ _ (pk_le n1 i (fun _ => h z (fun j hj => hz j (by omega)) (fun j hj => hz2 j (by omega))) (fun _ => by omega))
    | succ d ih =>
      intro i z hi hz hz2
      refine hX _ _ (pk_le n1 i (fun _ => by omega) (fun _ => ⟨vp_in_nI (by omega) (by omega), fun x7 e7 => ⟨vp_in_nI (by omega) (by omega), fun x8 e8 => ?_⟩⟩))
      rw [e7, e8, nI_1]
      show X (nI (i + 1)) (y1, upd z (nI i).toNatClampNeg (y1 (nI i).toNatClampNeg))
      rw [nI_clamp (by omega)]
      refine ih (i + 1) _ (by omega) (fun j hj => ?_) (fun j hj => ?_)
      · by_cases hji : j = i
        · subst hji; rw [pk_us]
        · rw [pk_un hji]; exact hz j (by omega)
      · rw [pk_un (by omega)]; exact hz2 j (by omega)
  exact key n1 0 y2 (by omega) (fun j hj => by omega) (fun j _ => rfl)
theorem p_layNow {n : Nat} {kd D : Nat → Nat} {T : Nat → Int32} {f : Nat → Int32} {g : Int64} {a : Nat → Nat → Int32} {Q : MSt → Prop} (hp : PI n kd D T) (hr : RI n kd D T f a) (h : ∀ a', Lay a a' → (∀ i, i < n → a' 14 i = nI (D i)) → (∀ i, i < szN n → a' 13 i = nI (vl n kd D i)) → Q (f, g, a')) : w_X11_layNow f g a Q := by
  obtain ⟨hn, hk, hd, -⟩ := hp
  obtain ⟨h6, h7, h10, h11, h12⟩ := hr
  unfold w_X11_layNow
  refine p_copy (Nat.le_refl _) (by decide) (fun z hz _ => ?_)
  show w_X11_layValues f g (va_up (va_up a 11 (a 11)) 14 z) (fun u2 => Q u2)
  rw [va_up_id]
  have hl := hn.le
  have e14 : ∀ i, i < n → z i = nI (D i) := fun i hi => by rw [hz i (by omega), h11 i hi]
  refine p_layValues hn hk hd h6 h7 (fun i h1 h2 => by rw [va_up_ne _ _ (by decide)]; exact h10 i h1 h2) (fun i hi => by rw [va_up_self]; exact e14 i hi) (fun v hv => ?_)
  refine h _ ⟨z, v, rfl⟩ (fun i hi => ?_) (fun i hi => ?_)
  · rw [va_up_ne _ _ (by decide), va_up_self]; exact e14 i hi
  · rw [va_up_self]; exact hv i hi
theorem p_topNow {n : Nat} {kd D : Nat → Nat} {T : Nat → Int32} {f : Nat → Int32} {g : Int64} {a : Nat → Nat → Int32} {Q : Int32 → MSt → Prop} (hp : PI n kd D T) (hr : RI n kd D T f a) (h : ∀ a', Lay a a' → (∀ i, i < n → a' 14 i = nI (D i)) → (∀ i, i < szN n → a' 13 i = nI (vl n kd D i)) → Q (nI (vl n kd D (szN n - 1))) (f, g, a')) : w_X11_topNow f g a Q := by
  unfold w_X11_topNow
  refine p_layNow hp hr (fun a' hl h1 h2 => ?_)
  have hs := hp.1.sz
  show vp_in (f 7 - 1) 10 ∧ Q (a' 13 (f 7 - 1).toNatClampNeg) (f, g, a')
  rw [hr.2.1, show (1 : Int32) = nI 1 from rfl, pk_sub (by omega), nI_clamp (by omega), h2 _ (by omega)]
  exact ⟨vp_in_nI (by omega) (by omega), h a' hl h1 h2⟩
theorem pow_le4 {n : Nat} (h : okN n) : 10 ^ n ≤ 10000 ∧ 100 ≤ 10 ^ n := by
  rcases h with rfl | rfl | rfl <;> decide
theorem dg_step (n N i : Nat) (hi : i < n) : N / 10 ^ (n - 1 - i) % 10 = dg n N i := rfl
theorem p_layNumber {n N : Nat} {kd D : Nat → Nat} {T : Nat → Int32} {f : Nat → Int32} {g : Int64} {a : Nat → Nat → Int32} {Q : MSt → Prop} (hp : PI n kd D T) (hr : RI n kd D T f a) (hN : N < 10 ^ n) (h : ∀ a', Lay a a' → (∀ i, i < n → a' 14 i = nI (dg n N i)) → (∀ i, i < szN n → a' 13 i = nI (vl n kd (dg n N) i)) → Q (f, g, a')) : w_X11_layNumber f g a (nI N) Q := by
  obtain ⟨hn, hk, hd, -⟩ := hp
  obtain ⟨h6, h7, h10, h11, h12⟩ := hr
  have hl := hn.le
  have hpw := pow_le4 hn
  unfold w_X11_layNumber
  intro x1 e1 X hX
  rw [e1, h6, show (1 : Int32) = nI 1 from rfl, pk_sub (by omega)]
  have fin : ∀ z, (∀ i, i < n → z i = nI (dg n N i)) → w_X11_layValues f g (va_up a 14 z) (fun u => Q u) := by
    intro z hz
    refine p_layValues hn hk (dg_le n N) h6 h7 (fun i h1 h2 => by rw [va_up_ne _ _ (by decide)]; exact h10 i h1 h2) (fun i hi => by rw [va_up_self]; exact hz i hi) (fun v hv => ?_)
    refine h _ ⟨z, v, rfl⟩ (fun i hi => ?_) (fun i hi => ?_)
    · rw [va_up_ne _ _ (by decide), va_up_self]; exact hz i hi
    · rw [va_up_self]; exact hv i hi
  have neg : ∀ y, y = (-1 : Int32) → ∀ z x2, (∀ i, i < n → z i = nI (dg n N i)) → X x2 y (f, g, va_up a 14 z) := by
    intro y hy z x2 hz
    refine hX _ _ _ ⟨fun _ => fin z hz, fun hc => absurd (by rw [hy]; decide) hc⟩
  have key : ∀ j z, j < n → (∀ i, j < i → i < n → z i = nI (dg n N i)) → X (nI (N / 10 ^ (n - 1 - j))) (nI j) (f, g, va_up a 14 z) := by
    intro j
    induction j with
    | zero =>
      intro z hj hz
      refine hX _ _ _ ⟨fun hc => absurd hc (nI_pos (by omega)), fun _ x9 e9 => ⟨vp_in_nI (by omega) (by omega), fun x10 e10 x11 e11 => ?_⟩⟩
      have hb : N / 10 ^ (n - 1 - 0) ≤ N := Nat.div_le_self _ _
      rw [e9, e10, show (10 : Int32) = nI 10 from rfl, pk_rem (by omega) (by omega) (by omega), pk_div (by omega) (by omega) (by omega)]
      show X _ _ (f, g, va_up (va_up a 14 z) 14 (upd (va_up a 14 z 14) (nI 0).toNatClampNeg _))
      rw [va_up_up, va_up_self, nI_clamp (by omega)]
      refine neg _ (by rw [e11]; decide) _ _ (fun i hi => ?_)
      by_cases h0 : i = 0
      · subst h0; rw [pk_us]; rfl
      · rw [pk_un h0]; exact hz i (by omega) hi
    | succ j ih =>
      intro z hj hz
      refine hX _ _ _ ⟨fun hc => absurd hc (nI_pos (by omega)), fun _ x9 e9 => ⟨vp_in_nI (by omega) (by omega), fun x10 e10 x11 e11 => ?_⟩⟩
      have hb : N / 10 ^ (n - 1 - (j + 1)) ≤ N := Nat.div_le_self _ _
      rw [e9, e10, e11, pk_m1, show (10 : Int32) = nI 10 from rfl, pk_rem (by omega) (by omega) (by omega), pk_div (by omega) (by omega) (by omega)]
      show X _ _ (f, g, va_up (va_up a 14 z) 14 (upd (va_up a 14 z 14) (nI (j + 1)).toNatClampNeg _))
      rw [va_up_up, va_up_self, nI_clamp (by omega), Nat.div_div_eq_div_mul, show 10 ^ (n - 1 - (j + 1)) * 10 = 10 ^ (n - 1 - j) by rw [← Nat.pow_succ]; congr 1; omega]
      refine ih _ (by omega) (fun i h1 h2 => ?_)
      by_cases h0 : i = j + 1
      · subst h0; rw [pk_us]; rfl
      · rw [pk_un h0]; exact hz i (by omega) h2
  have := key (n - 1) (a 14) (by omega) (fun i h1 h2 => by omega)
  rw [show n - 1 - (n - 1) = 0 by omega, Nat.pow_zero, Nat.div_one, va_up_id] at this
  exact this
/-- whether the row N fits -/
def fitP (n : Nat) (kd : Nat → Nat) (T : Nat → Int32) (N : Nat) : Prop := ∀ i, i < szN n → T i = -1 ∨ T i = nI (vl n kd (dg n N) i)
def fitB (n : Nat) (kd : Nat → Nat) (T : Nat → Int32) (N : Nat) : Bool := decide (∀ i, i < szN n → T i = -1 ∨ T i = nI (vl n kd (dg n N) i))
theorem fitB_P {n : Nat} {kd : Nat → Nat} {T : Nat → Int32} {N : Nat} : fitB n kd T N = true ↔ fitP n kd T N := decide_eq_true_iff
theorem p_isFit {n N : Nat} {kd D : Nat → Nat} {T : Nat → Int32} {f : Nat → Int32} {g : Int64} {a : Nat → Nat → Int32} {Q : Int32 → MSt → Prop} (hp : PI n kd D T) (hr : RI n kd D T f a) (hN : N < 10 ^ n) (h : ∀ a', Lay a a' → (∀ i, i < n → a' 14 i = nI (dg n N i)) → (∀ i, i < szN n → a' 13 i = nI (vl n kd (dg n N) i)) → Q (if fitB n kd T N then 1 else 0) (f, g, a')) : w_X11_isFit f g a (nI N) Q := by
  unfold w_X11_isFit
  refine p_layNumber hp hr hN (fun a' hl h1 h2 => ?_)
  have hq := h a' hl h1 h2
  have hr' := hr.lay hl
  have hs := hp.1.sz
  intro X hX
  have key : ∀ d i, i + d = szN n → (∀ j, j < i → T j = -1 ∨ T j = nI (vl n kd (dg n N) j)) → X (nI i) := by
    intro d
    induction d with
    | zero =>
      intro i hi hb
      refine hX _ (pk_le (szN n) i (fun _ => ?_) (fun _ => by omega) hr'.2.1)
      have : fitB n kd T N = true := decide_eq_true (fun j hj => hb j (by omega))
      rwa [this] at hq
    | succ d ih =>
      intro i hi hb
      refine hX _ (pk_le (szN n) i (fun _ => by omega) (fun _ => ⟨vp_in_nI (by omega) (by omega), fun J hJ => ?_⟩) hr'.2.1)
      show (a' 12 (nI i).toNatClampNeg = -1 → J) ∧ (¬ a' 12 (nI i).toNatClampNeg = -1 → vp_in (nI i) 10 ∧ vp_in (nI i) 10 ∧ ((a' 12 (nI i).toNatClampNeg = a' 13 (nI i).toNatClampNeg → J) ∧ (¬ a' 12 (nI i).toNatClampNeg = a' 13 (nI i).toNatClampNeg → Q 0 (f, g, a'))))
      rw [nI_clamp (by omega), hr'.2.2.2.2 i (by omega), h2 i (by omega)]
      have go : (T i = -1 ∨ T i = nI (vl n kd (dg n N) i)) → J := fun ht => hJ (fun x7 e7 => by
        rw [e7, nI_1]
        refine ih (i + 1) (by omega) (fun j hj => ?_)
        by_cases hji : j = i
        · subst hji; exact ht
        · exact hb j (by omega))
      refine ⟨fun ht => go (Or.inl ht), fun ht => ⟨vp_in_nI (by omega) (by omega), vp_in_nI (by omega) (by omega), fun h3 => go (Or.inr h3), fun h3 => ?_⟩⟩
      have : fitB n kd T N = false := decide_eq_false (fun hf => by rcases hf i (by omega) with h9 | h9; exact ht h9; exact h3 h9)
      rw [this] at hq
      exact hq
  exact key (szN n) 0 (by omega) (fun j hj => by omega)
/-- how many below N -/
def cnt (p : Nat → Bool) : Nat → Nat
  | 0 => 0
  | n + 1 => cnt p n + (if p n then 1 else 0)
theorem cnt_le (p : Nat → Bool) : ∀ n, cnt p n ≤ n
  | 0 => Nat.le_refl _
  | n + 1 => by
    have := cnt_le p n
    unfold cnt
    split <;> omega
theorem cnt_mono (p : Nat → Bool) {m n : Nat} (h : m ≤ n) : cnt p m ≤ cnt p n := by
  induction n with
  | zero => rw [show m = 0 by omega]; exact Nat.le_refl _
  | succ n ih =>
    by_cases hm : m = n + 1
    · subst hm; exact Nat.le_refl _
    · have := ih (by omega)
      show _ ≤ cnt p n + _
      omega
theorem cnt_lt {p : Nat → Bool} {m n : Nat} (h : m < n) (hp : p m = true) : cnt p m < cnt p n := by
  have := cnt_mono p (show m + 1 ≤ n from h)
  have e : cnt p (m + 1) = cnt p m + 1 := by show cnt p m + _ = _; rw [if_pos hp]
  omega
theorem cnt_uniq {p : Nat → Bool} {m n : Nat} (hm : p m = true) (hn : p n = true) (h : cnt p m = cnt p n) : m = n := by
  rcases Nat.lt_trichotomy m n with h1 | h1 | h1
  · have := cnt_lt h1 hm; omega
  · exact h1
  · have := cnt_lt h1 hn; omega
theorem cnt_cong {p q : Nat → Bool} : ∀ {n : Nat}, (∀ i, i < n → p i = q i) → cnt p n = cnt q n
  | 0, _ => rfl
  | n + 1, h => by
    show cnt p n + _ = cnt q n + _
    rw [cnt_cong (fun i hi => h i (by omega)), h n (by omega)]
/-- a loop of the reference over all rows, each tried whether it fits -/
theorem p_leftMany {n : Nat} {kd D : Nat → Nat} {T : Nat → Int32} {f : Nat → Int32} {g : Int64} {a : Nat → Nat → Int32} {Q : Int32 → MSt → Prop} (hp : PI n kd D T) (hr : RI n kd D T f a) (h : ∀ a', Lay a a' → Q (nI (cnt (fitB n kd T) (10 ^ n))) (f, g, a')) : w_X11_leftMany f g a Q := by
  unfold w_X11_leftMany
  intro X hX
  have hpw := pow_le4 hp.1
  have hl := hp.1.le
  have key : ∀ d N a', N + d = 10 ^ n → Lay a a' → X (nI (cnt (fitB n kd T) N)) (nI N) (f, g, a') := by
    intro d
    induction d with
    | zero =>
      intro N a' hN hla
      refine hX _ _ _ ?_
      show w_X11_power (nI 10) (f 6) _
      rw [hr.1]
      refine p_power (by omega) (pk_le (10 ^ n) N (fun _ => ?_) (fun _ => by omega))
      rw [show N = 10 ^ n by omega]
      exact h a' hla
    | succ d ih =>
      intro N a' hN hla
      refine hX _ _ _ ?_
      show w_X11_power (nI 10) (f 6) _
      rw [hr.1]
      refine p_power (by omega) (pk_le (10 ^ n) N (fun _ => by omega) (fun _ => ?_))
      refine p_isFit hp (hr.lay hla) (by omega) (fun a2 hl2 _ _ => ?_)
      intro J hJ
      have hc := cnt_le (fitB n kd T) N
      cases hb : fitB n kd T N with
      | true =>
        refine ⟨fun h0 => absurd h0 (by decide), fun _ => hJ _ (fun x11 e11 x12 e12 => ?_)⟩
        rw [e11, e12, nI_1, nI_1]
        have e : cnt (fitB n kd T) (N + 1) = cnt (fitB n kd T) N + 1 := by show cnt _ N + _ = _; rw [if_pos hb]
        rw [← e]
        exact ih (N + 1) a2 (by omega) (hla.trans hl2)
      | false =>
        refine ⟨fun _ => hJ _ (fun x11 e11 x12 e12 => ?_), fun h0 => absurd rfl h0⟩
        rw [e11, e12, show (0 : Int32) = nI 0 from rfl, nI_add, nI_1]
        have e : cnt (fitB n kd T) (N + 1) = cnt (fitB n kd T) N + 0 := by show cnt _ N + _ = _; rw [if_neg (by rw [hb]; decide)]
        rw [← e]
        exact ih (N + 1) a2 (by omega) (hla.trans hl2)
  exact key (10 ^ n) 0 a (by omega) (Lay.refl a)
