/-! ===== the reference: worst of each brick, sums, sorts, tries, draws ===== -/
/-- what is laid, and the tally, may have changed -/
def LayW (a a' : Nat → Nat → Int32) : Prop := ∀ j, j ≠ 13 → j ≠ 14 → j ≠ 16 → a' j = a j
theorem LayW.refl (a : Nat → Nat → Int32) : LayW a a := fun _ _ _ _ => rfl
theorem LayW.trans {a b c : Nat → Nat → Int32} (h : LayW a b) (h2 : LayW b c) : LayW a c := fun j p q r => (h2 j p q r).trans (h j p q r)
theorem Lay.w {a b : Nat → Nat → Int32} (h : Lay a b) : LayW a b := fun _ p q _ => h.at p q
theorem LayW.v16 (a : Nat → Nat → Int32) (v : Nat → Int32) : LayW a (va_up a 16 v) := fun _ _ _ r => va_up_ne _ _ r
theorem RI.layW {n : Nat} {kd D : Nat → Nat} {T : Nat → Int32} {f : Nat → Int32} {a a' : Nat → Nat → Int32} (h : RI n kd D T f a) (hl : LayW a a') : RI n kd D T f a' := by
  obtain ⟨h1, h2, h3, h4, h5⟩ := h
  refine ⟨h1, h2, ?_, ?_, ?_⟩
  · rw [hl 10 (by decide) (by decide) (by decide)]; exact h3
  · rw [hl 11 (by decide) (by decide) (by decide)]; exact h4
  · rw [hl 12 (by decide) (by decide) (by decide)]; exact h5
/-- rows that fit and make brick i so great -/
def fitV (n : Nat) (kd : Nat → Nat) (T : Nat → Int32) (i v N : Nat) : Bool := fitB n kd T N && decide (vl n kd (dg n N) i = v)
def mxN (f : Nat → Nat) : Nat → Nat
  | 0 => 0
  | m + 1 => max (mxN f m) (f m)
theorem mxN_ge (f : Nat → Nat) : ∀ m v, v < m → f v ≤ mxN f m
  | 0, _, h => by omega
  | m + 1, v, h => by
    show _ ≤ max (mxN f m) (f m)
    by_cases e : v = m
    · subst e; omega
    · have := mxN_ge f m v (by omega); omega
theorem mxN_ex (f : Nat → Nat) : ∀ m, mxN f m = 0 ∨ ∃ v, v < m ∧ mxN f m = f v
  | 0 => Or.inl rfl
  | m + 1 => by
    show max (mxN f m) (f m) = 0 ∨ ∃ v, v < m + 1 ∧ max (mxN f m) (f m) = f v
    rcases Nat.le_total (mxN f m) (f m) with h | h
    · right; exact ⟨m, by omega, by omega⟩
    · rcases mxN_ex f m with h2 | ⟨v, h2, h3⟩
      · left; omega
      · right; exact ⟨v, by omega, by omega⟩
theorem mxN_le {f : Nat → Nat} {B : Nat} (h : ∀ v, f v ≤ B) : ∀ m, mxN f m ≤ B
  | 0 => Nat.zero_le _
  | m + 1 => by
    have := mxN_le h m
    have := h m
    show max _ _ ≤ B
    omega
theorem mxN_uniq {f : Nat → Nat} {m W : Nat} (h1 : ∀ v, v < m → f v ≤ W) (h2 : W = 0 ∨ ∃ v, v < m ∧ f v = W) : W = mxN f m := by
  have a1 : W ≤ mxN f m := by
    rcases h2 with h | ⟨v, hv, h⟩
    · omega
    · rw [← h]; exact mxN_ge f m v hv
  have a2 : mxN f m ≤ W := by
    rcases mxN_ex f m with h | ⟨v, hv, h⟩
    · omega
    · rw [h]; exact h1 v hv
  omega
def wst (n : Nat) (kd : Nat → Nat) (T : Nat → Int32) (i : Nat) : Nat := mxN (fun v => cnt (fitV n kd T i v) (10 ^ n)) 244
theorem wst_le {n : Nat} {kd : Nat → Nat} {T : Nat → Int32} {i : Nat} (hn : okN n) : wst n kd T i ≤ 10000 := mxN_le (fun v => Nat.le_trans (cnt_le _ _) (pow_le4 hn).1) _
theorem p_worstOf {n i : Nat} {kd D : Nat → Nat} {T : Nat → Int32} {f : Nat → Int32} {g : Int64} {a : Nat → Nat → Int32} {Q : Int32 → MSt → Prop} (hp : PI n kd D T) (hr : RI n kd D T f a) (hi : i < szN n) (h : ∀ a', LayW a a' → Q (nI (wst n kd T i)) (f, g, a')) : w_X11_worstOf f g a (nI i) Q := by
  unfold w_X11_worstOf
  intro X hX
  have hpw := pow_le4 hp.1
  have hs := hp.1.sz
  have main : ∀ a1, LayW a a1 → (∀ v, v < 1000 → a1 16 v = 0) → ∀ Y : Int32 → Int32 → MSt → Prop, (∀ (x5 x6 : Int32) (u7 : MSt), (w_X11_power (10 : Int32) (u7.1 6) (fun (r9 : Int32) => (((r9 ≤ x6) → Q x5 u7) ∧ (¬ (r9 ≤ x6) → w_X11_isFit u7.1 (u7.2.1) u7.2.2 x6 (fun (r12 : Int32) (u11 : MSt) => ∀ J15 : Int32 → MSt → Prop, (∀ (x13 : Int32) (u14 : MSt), (∀ x16 : Int32, x16 = x6 + (1 : Int32) → Y x13 x16 u14) → J15 x13 u14) → (((r12 = 0) → J15 x5 u11) ∧ (¬ (r12 = 0) → (vp_in (nI i) 10) ∧ (vp_in ((u11.2.2 13) (nI i).toNatClampNeg) 1000) ∧ ∀ x21 : Int32, x21 = (((u11.2.2 16) ((u11.2.2 13) (nI i).toNatClampNeg).toNatClampNeg) + (1 : Int32)) → (vp_in ((u11.2.2 13) (nI i).toNatClampNeg) 1000) ∧ (vp_in (nI i) 10) ∧ (vp_in ((u11.2.2 13) (nI i).toNatClampNeg) 1000) ∧ ∀ J25 : Int32 → Prop, (∀ (x24 : Int32), (J15 x24 (u11.1, u11.2.1, (va_up u11.2.2 16 (upd (u11.2.2 16) ((u11.2.2 13) (nI i).toNatClampNeg).toNatClampNeg x21)))) → J25 x24) → (((((upd (u11.2.2 16) ((u11.2.2 13) (nI i).toNatClampNeg).toNatClampNeg x21) ((u11.2.2 13) (nI i).toNatClampNeg).toNatClampNeg) ≤ x5) → J25 x5) ∧ (¬ (((upd (u11.2.2 16) ((u11.2.2 13) (nI i).toNatClampNeg).toNatClampNeg x21) ((u11.2.2 13) (nI i).toNatClampNeg).toNatClampNeg) ≤ x5) → (vp_in (nI i) 10) ∧ (vp_in ((u11.2.2 13) (nI i).toNatClampNeg) 1000) ∧ J25 ((upd (u11.2.2 16) ((u11.2.2 13) (nI i).toNatClampNeg).toNatClampNeg x21) ((u11.2.2 13) (nI i).toNatClampNeg).toNatClampNeg)))))))))) → Y x5 x6 u7) → Y 0 0 (f, g, a1) := by
    intro a1 hla1 hz1 Y hY
    have key : ∀ e N W a', N + e = 10 ^ n → LayW a a' → (∀ v, v < 1000 → a' 16 v = nI (cnt (fitV n kd T i v) N)) → (∀ v, cnt (fitV n kd T i v) N ≤ W) → (W = 0 ∨ ∃ v, v < 244 ∧ cnt (fitV n kd T i v) N = W) → Y (nI W) (nI N) (f, g, a') := by
      intro e
      induction e with
      | zero =>
        intro N W a' hN hla h16 hW1 hW2
        refine hY _ _ _ (p_rows (f := f) hp hr.1 (by omega) (fun e => ?_) (fun h9 => absurd h9 (by omega)))
        subst e
        rw [mxN_uniq (f := fun v => cnt (fitV n kd T i v) (10 ^ n)) (m := 244) (fun v _ => hW1 v) hW2]
        exact h a' hla
      | succ e ih =>
        intro N W a' hN hla h16 hW1 hW2
        refine hY _ _ _ (p_rows (f := f) hp hr.1 (by omega) (fun h9 => absurd h9 (by omega)) (fun hlt => ?_))
        refine p_isFit hp (hr.layW hla) hlt (fun a2 hl2 _ hv2 => ?_)
        have hla2 := hla.trans hl2.w
        have h162 : ∀ v, v < 1000 → a2 16 v = nI (cnt (fitV n kd T i v) N) := fun v hv => by rw [hl2.at (by decide) (by decide)]; exact h16 v hv
        have hvb := vl_le hp.1 (kd := kd) (fun j _ => dg_le n N j) hi
        have hWN : W ≤ N := by rcases hW2 with h9 | ⟨v, _, h9⟩; omega; rw [← h9]; exact cnt_le _ _
        intro J hJ
        cases hb : fitB n kd T N with
        | false =>
          refine ⟨fun _ => hJ _ _ (fun x16 e16 => ?_), fun h9 => absurd rfl h9⟩
          have e1 : ∀ v, cnt (fitV n kd T i v) (N + 1) = cnt (fitV n kd T i v) N := fun v => by rw [cnt_succ, show fitV n kd T i v N = false by simp [fitV, hb]]; rfl
          rw [e16, nI_1]
          refine ih (N + 1) W a2 (by omega) hla2 (fun v hv => by rw [e1]; exact h162 v hv) (fun v => by rw [e1]; exact hW1 v) ?_
          rcases hW2 with h9 | ⟨v, hv, h9⟩
          · exact Or.inl h9
          · exact Or.inr ⟨v, hv, by rw [e1]; exact h9⟩
        | true =>
          refine ⟨fun h9 => absurd h9 (by decide), fun _ => ?_⟩
          have ev : a2 13 (nI i).toNatClampNeg = nI (vl n kd (dg n N) i) := by rw [nI_clamp (by omega), hv2 i hi]
          show vp_in (nI i) 10 ∧ vp_in (a2 13 (nI i).toNatClampNeg) 1000 ∧ ∀ x21 : Int32, x21 = a2 16 (a2 13 (nI i).toNatClampNeg).toNatClampNeg + 1 → vp_in (a2 13 (nI i).toNatClampNeg) 1000 ∧ vp_in (nI i) 10 ∧ vp_in (a2 13 (nI i).toNatClampNeg) 1000 ∧ ∀ J25 : Int32 → Prop, (∀ (x24 : Int32), (J x24 (f, g, (va_up a2 16 (upd (a2 16) (a2 13 (nI i).toNatClampNeg).toNatClampNeg x21)))) → J25 x24) → ((((upd (a2 16) (a2 13 (nI i).toNatClampNeg).toNatClampNeg x21) (a2 13 (nI i).toNatClampNeg).toNatClampNeg) ≤ nI W → J25 (nI W)) ∧ (¬ (((upd (a2 16) (a2 13 (nI i).toNatClampNeg).toNatClampNeg x21) (a2 13 (nI i).toNatClampNeg).toNatClampNeg) ≤ nI W) → vp_in (nI i) 10 ∧ vp_in (a2 13 (nI i).toNatClampNeg) 1000 ∧ J25 ((upd (a2 16) (a2 13 (nI i).toNatClampNeg).toNatClampNeg x21) (a2 13 (nI i).toNatClampNeg).toNatClampNeg)))
          rw [ev, nI_clamp (by omega)]
          obtain ⟨V, eV⟩ : ∃ V, V = vl n kd (dg n N) i := ⟨_, rfl⟩
          rw [← eV] at hvb ⊢
          have i1 : vp_in (nI i) 10 := vp_in_nI (by omega) (by omega)
          have i2 : vp_in (nI V) 1000 := vp_in_nI (by omega) (by omega)
          refine ⟨i1, i2, fun x21 e21 => ⟨i2, i1, i2, fun J25 hJ25 => ?_⟩⟩
          have hcV := cnt_le (fitV n kd T i V) N
          have e1 : cnt (fitV n kd T i V) (N + 1) = cnt (fitV n kd T i V) N + 1 := by rw [cnt_succ, show fitV n kd T i V N = true by simp [fitV, hb, eV]]; rfl
          have e2 : ∀ v, v ≠ V → cnt (fitV n kd T i v) (N + 1) = cnt (fitV n kd T i v) N := fun v hv => by rw [cnt_succ, show fitV n kd T i v N = false by simp [fitV, ← eV, Ne.symm hv]]; rfl
          rw [h162 V (by omega), nI_1, ← e1] at e21
          rw [pk_us, e21]
          have hu : ∀ v, v < 1000 → va_up a2 16 (upd (a2 16) V (nI (cnt (fitV n kd T i V) (N + 1)))) 16 v = nI (cnt (fitV n kd T i v) (N + 1)) := fun v hv => by
            rw [va_up_self]
            by_cases hvV : v = V
            · subst hvV; rw [pk_us]
            · rw [pk_un hvV, h162 v hv, e2 v hvV]
          have hcV1 := cnt_le (fitV n kd T i V) (N + 1)
          rw [nI_leI (by omega) (by omega)]
          refine ⟨fun hle => hJ25 _ (hJ _ _ (fun x16 e16 => ?_)), fun hgt => ⟨i1, i2, hJ25 _ (hJ _ _ (fun x16 e16 => ?_))⟩⟩
          · rw [e16, nI_1, e21]
            refine ih (N + 1) W _ (by omega) (hla2.trans (LayW.v16 _ _)) hu (fun v => ?_) ?_
            · by_cases hvV : v = V
              · subst hvV; exact hle
              · rw [e2 v hvV]; exact hW1 v
            · rcases hW2 with h9 | ⟨v, hv, h9⟩
              · exact absurd hle (by omega)
              · by_cases hvV : v = V
                · subst hvV; omega
                · exact Or.inr ⟨v, hv, by rw [e2 v hvV]; exact h9⟩
          · rw [e16, nI_1, e21]
            refine ih (N + 1) _ _ (by omega) (hla2.trans (LayW.v16 _ _)) hu (fun v => ?_) (Or.inr ⟨V, by omega, rfl⟩)
            by_cases hvV : v = V
            · subst hvV; exact Nat.le_refl _
            · rw [e2 v hvV]; have := hW1 v; omega
    exact key (10 ^ n) 0 0 a1 (by omega) hla1 (fun v hv => hz1 v hv) (fun v => Nat.le_refl _) (Or.inl rfl)
  have zero : ∀ e j a', j + e = 1000 → LayW a a' → (∀ v, v < j → a' 16 v = 0) → X (nI j) (f, g, a') := by
    intro e
    induction e with
    | zero =>
      intro j a' hj hla hz
      exact hX _ _ (pk_le 1000 j (fun _ => main a' hla (fun v hv => hz v (by omega))) (fun h9 => absurd h9 (by omega)))
    | succ e ih =>
      intro j a' hj hla hz
      refine hX _ _ (pk_le 1000 j (fun h9 => absurd h9 (by omega)) (fun _ => ⟨vp_in_nI (by omega) (by omega), fun x30 e30 => ?_⟩))
      rw [e30, nI_1]
      show X (nI (j + 1)) (f, g, va_up a' 16 (upd (a' 16) (nI j).toNatClampNeg 0))
      rw [nI_clamp (by omega)]
      refine ih (j + 1) _ (by omega) (hla.trans (LayW.v16 _ _)) (fun v hv => ?_)
      rw [va_up_self]
      by_cases hvj : v = j
      · subst hvj; rw [pk_us]
      · rw [pk_un hvj]; exact hz v (by omega)
  exact zero 1000 0 a (by omega) (LayW.refl a) (fun v hv => by omega)
/-- which one to look at, of the first i: the best, and its worst -/
def lkB (T : Nat → Int32) (w : Nat → Nat) : Nat → Int32 × Nat
  | 0 => (-1, 100000)
  | i + 1 => if T i = -1 ∧ 0 < w i ∧ w i < (lkB T w i).2 then (nI i, w i) else lkB T w i
theorem lkB_le {T : Nat → Int32} {w : Nat → Nat} : ∀ i, (lkB T w i).2 ≤ 100000
  | 0 => Nat.le_refl _
  | i + 1 => by
    have := lkB_le (T := T) (w := w) i
    unfold lkB
    split
    · show w i ≤ 100000; omega
    · exact this
theorem p_lookOf {n : Nat} {kd D : Nat → Nat} {T : Nat → Int32} {f : Nat → Int32} {g : Int64} {a : Nat → Nat → Int32} {Q : Int32 → MSt → Prop} (hp : PI n kd D T) (hr : RI n kd D T f a) (h : ∀ a', LayW a a' → Q (lkB T (wst n kd T) (szN n)).1 (f, g, a')) : w_X11_lookOf f g a Q := by
  unfold w_X11_lookOf
  intro X hX
  have hs := hp.1.sz
  have key : ∀ e i a', i + e = szN n → LayW a a' → X (lkB T (wst n kd T) i).1 (nI (lkB T (wst n kd T) i).2) (nI i) (f, g, a') := by
    intro e
    induction e with
    | zero =>
      intro i a' hi hla
      refine hX _ _ _ _ (pk_le (szN n) i (fun _ => ?_) (fun h9 => absurd h9 (by omega)) hr.2.1)
      rw [show i = szN n by omega]
      exact h a' hla
    | succ e ih =>
      intro i a' hi hla
      have hr' := hr.layW hla
      refine hX _ _ _ _ (pk_le (szN n) i (fun h9 => absurd h9 (by omega)) (fun _ => ⟨vp_in_nI (by omega) (by omega), fun J hJ => ?_⟩) hr.2.1)
      have hwl := wst_le (kd := kd) (T := T) (i := i) hp.1
      have hll := lkB_le (T := T) (w := wst n kd T) i
      have keep : ∀ a2, LayW a a2 → lkB T (wst n kd T) (i + 1) = lkB T (wst n kd T) i → ∀ x14 : Int32, x14 = nI i + 1 → X (lkB T (wst n kd T) i).1 (nI (lkB T (wst n kd T) i).2) x14 (f, g, a2) := by
        intro a2 hl2 he x14 e14
        rw [e14, nI_1]
        have := ih (i + 1) a2 (by omega) hl2
        rwa [he] at this
      show (¬ a' 12 (nI i).toNatClampNeg = -1 → J 0 (f, g, a')) ∧ (a' 12 (nI i).toNatClampNeg = -1 → w_X11_worstOf f g a' (nI i) (fun r19 u18 => J r19 u18))
      rw [nI_clamp (by omega), hr'.2.2.2.2 i (by omega)]
      refine ⟨fun ht => hJ _ _ (fun J13 hJ13 => ⟨fun _ => hJ13 _ _ (keep a' hla ?_), fun h9 => absurd (by decide) h9⟩), fun ht => ?_⟩
      · show (if _ then _ else _) = _
        rw [if_neg (fun h9 => ht h9.1)]
      · refine p_worstOf hp hr' (by omega) (fun a2 hl2 => hJ _ _ (fun J13 hJ13 => ?_))
        by_cases h0 : wst n kd T i = 0
        · refine ⟨fun _ => hJ13 _ _ (keep a2 (hla.trans hl2) ?_), fun h9 => absurd (by rw [h0]; decide) h9⟩
          show (if _ then _ else _) = _
          rw [if_neg (fun h9 => by omega)]
        · refine ⟨fun h9 => absurd h9 (nI_nle (by omega) (by omega)), fun _ => ?_⟩
          rw [nI_leI (by omega) (by omega)]
          refine ⟨fun hle => hJ13 _ _ (keep a2 (hla.trans hl2) ?_), fun hgt => hJ13 _ _ (fun x14 e14 => ?_)⟩
          · show (if _ then _ else _) = _
            rw [if_neg (fun h9 => by omega)]
          · rw [e14, nI_1]
            have := ih (i + 1) a2 (by omega) (hla.trans hl2)
            have he : lkB T (wst n kd T) (i + 1) = (nI i, wst n kd T i) := by
              show (if _ then _ else _) = _
              rw [if_pos ⟨ht, by omega, by omega⟩]
            rwa [he] at this
  exact key (szN n) 0 a (by omega) (LayW.refl a)
