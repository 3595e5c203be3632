/-! ===== the numbers that both sides compute ===== -/
theorem nI1 : nI 1 = 1 := rfl
theorem nI0 : nI 0 = 0 := rfl
theorem q_lt {a b : Nat} (ha : a < 2 ^ 31) (hb : b < 2 ^ 31) : (nI a < nI b) = (a < b) := propext (nI_ltI ha hb)
theorem q_le {a b : Nat} (ha : a < 2 ^ 31) (hb : b < 2 ^ 31) : (nI a ≤ nI b) = (a ≤ b) := propext (nI_leI ha hb)
theorem q_eq {a b : Nat} (ha : a < 2 ^ 31) (hb : b < 2 ^ 31) : (nI a = nI b) = (a = b) := propext (nI_eq ha hb)
/-- what a brick of kind k is, made of two -/
def mkN (k l r : Nat) : Nat := if k = 1 then (if l ≤ r then r - l else l - r) else if k = 2 then (if l ≤ r then r else l) else if k = 3 then 2 * l + r else if k = 4 then (2 * l + r) % 10 else l + r
/-- the left one below brick i: row bricks wide, the first one of it -/
def lfN : Nat → Nat → Nat → Nat
  | 0, _, i => i
  | w + 1, fst, i => if i < fst + 2 * (w + 1) - 1 then i - (w + 1) else lfN w (fst + (w + 1)) i
/-- how great brick i is by the figures x, with fuel -/
def vlF (n : Nat) (kd x : Nat → Nat) : Nat → Nat → Nat
  | 0, _ => 0
  | t + 1, i => if i < n then x i else mkN (kd i) (vlF n kd x t (lfN n 0 i)) (vlF n kd x t (lfN n 0 i + 1))
def vl (n : Nat) (kd x : Nat → Nat) (i : Nat) : Nat := vlF n kd x (i + 1) i
def szN (n : Nat) : Nat := n * (n + 1) / 2
theorem w_cases {n : Nat} (h : n = 2 ∨ n = 3 ∨ n = 4) : n = 2 ∨ n = 3 ∨ n = 4 := h
theorem lf_lt {n i : Nat} (h : n = 2 ∨ n = 3 ∨ n = 4) (h1 : n ≤ i) (h2 : i < szN n) : lfN n 0 i + 1 < i := by
  rcases h with rfl | rfl | rfl
  · have : i = 2 := by simp [szN] at h2; omega
    subst this; decide
  · have : i = 3 ∨ i = 4 ∨ i = 5 := by simp [szN] at h2; omega
    rcases this with rfl | rfl | rfl <;> decide
  · have : i = 4 ∨ i = 5 ∨ i = 6 ∨ i = 7 ∨ i = 8 ∨ i = 9 := by simp [szN] at h2; omega
    rcases this with rfl | rfl | rfl | rfl | rfl | rfl <;> decide
theorem vlF_eq {n : Nat} {kd x : Nat → Nat} (h : n = 2 ∨ n = 3 ∨ n = 4) : ∀ i, i < szN n → ∀ t, i < t → vlF n kd x t i = vl n kd x i := by
  intro i
  induction i using Nat.strongRecOn with
  | ind i ih =>
    intro hi t ht
    obtain ⟨t, rfl⟩ : ∃ t', t = t' + 1 := ⟨t - 1, by omega⟩
    unfold vl
    simp only [vlF]
    by_cases hin : i < n
    · simp [hin]
    · have hl := lf_lt h (by omega) hi
      simp only [hin, if_false]
      rw [ih (lfN n 0 i) (by omega) (by omega) t (by omega), ih (lfN n 0 i + 1) (by omega) (by omega) t (by omega), ih (lfN n 0 i) (by omega) (by omega) i (by omega), ih (lfN n 0 i + 1) (by omega) (by omega) i (by omega)]
theorem vl_low {n : Nat} {kd x : Nat → Nat} {i : Nat} (hi : i < n) : vl n kd x i = x i := by simp [vl, vlF, hi]
theorem vl_up {n : Nat} {kd x : Nat → Nat} (h : n = 2 ∨ n = 3 ∨ n = 4) {i : Nat} (h1 : n ≤ i) (h2 : i < szN n) : vl n kd x i = mkN (kd i) (vl n kd x (lfN n 0 i)) (vl n kd x (lfN n 0 i + 1)) := by
  have hl := lf_lt h h1 h2
  have : vl n kd x i = mkN (kd i) (vlF n kd x i (lfN n 0 i)) (vlF n kd x i (lfN n 0 i + 1)) := by
    unfold vl
    simp only [vlF, show ¬ i < n by omega, if_false]
  rw [this, vlF_eq h _ (by omega) i (by omega), vlF_eq h _ (by omega) i (by omega)]
theorem mk_le {k l r m : Nat} (hl : l ≤ m) (hr : r ≤ m) (hm : 9 ≤ m) : mkN k l r ≤ 3 * m := by
  unfold mkN
  repeat' split
  all_goals omega
theorem vl_le {n : Nat} {kd x : Nat → Nat} (h : n = 2 ∨ n = 3 ∨ n = 4) (hx : ∀ j, j < n → x j ≤ 9) {i : Nat} (hi : i < szN n) : vl n kd x i ≤ 243 := by
  have b1 : ∀ i, i < szN n → n ≤ i → ∀ m, 9 ≤ m → vl n kd x (lfN n 0 i) ≤ m → vl n kd x (lfN n 0 i + 1) ≤ m → vl n kd x i ≤ 3 * m := by
    intro i hi h1 m hm h2 h3
    rw [vl_up h h1 hi]
    exact mk_le h2 h3 hm
  have b0 : ∀ i, i < n → vl n kd x i ≤ 9 := fun i hi => by rw [vl_low hi]; exact hx i hi
  rcases h with rfl | rfl | rfl
  · rcases (show i = 0 ∨ i = 1 ∨ i = 2 by simp [szN] at hi; omega) with rfl | rfl | rfl
    · exact Nat.le_trans (b0 0 (by omega)) (by omega)
    · exact Nat.le_trans (b0 1 (by omega)) (by omega)
    · exact Nat.le_trans (b1 2 (by decide) (by omega) 9 (by omega) (b0 0 (by omega)) (b0 1 (by omega))) (by omega)
  · have c3 := b1 3 (by decide) (by omega) 9 (by omega) (b0 0 (by omega)) (b0 1 (by omega))
    have c4 := b1 4 (by decide) (by omega) 9 (by omega) (b0 1 (by omega)) (b0 2 (by omega))
    have c5 := b1 5 (by decide) (by omega) 27 (by omega) c3 c4
    rcases (show i = 0 ∨ i = 1 ∨ i = 2 ∨ i = 3 ∨ i = 4 ∨ i = 5 by simp [szN] at hi; omega) with rfl | rfl | rfl | rfl | rfl | rfl
    · exact Nat.le_trans (b0 0 (by omega)) (by omega)
    · exact Nat.le_trans (b0 1 (by omega)) (by omega)
    · exact Nat.le_trans (b0 2 (by omega)) (by omega)
    · exact Nat.le_trans c3 (by omega)
    · exact Nat.le_trans c4 (by omega)
    · exact Nat.le_trans c5 (by omega)
  · have c4 := b1 4 (by decide) (by omega) 9 (by omega) (b0 0 (by omega)) (b0 1 (by omega))
    have c5 := b1 5 (by decide) (by omega) 9 (by omega) (b0 1 (by omega)) (b0 2 (by omega))
    have c6 := b1 6 (by decide) (by omega) 9 (by omega) (b0 2 (by omega)) (b0 3 (by omega))
    have c7 := b1 7 (by decide) (by omega) 27 (by omega) c4 c5
    have c8 := b1 8 (by decide) (by omega) 27 (by omega) c5 c6
    have c9 := b1 9 (by decide) (by omega) 81 (by omega) c7 c8
    rcases (show i = 0 ∨ i = 1 ∨ i = 2 ∨ i = 3 ∨ i = 4 ∨ i = 5 ∨ i = 6 ∨ i = 7 ∨ i = 8 ∨ i = 9 by simp [szN] at hi; omega) with rfl | rfl | rfl | rfl | rfl | rfl | rfl | rfl | rfl | rfl
    · exact Nat.le_trans (b0 0 (by omega)) (by omega)
    · exact Nat.le_trans (b0 1 (by omega)) (by omega)
    · exact Nat.le_trans (b0 2 (by omega)) (by omega)
    · exact Nat.le_trans (b0 3 (by omega)) (by omega)
    · exact Nat.le_trans c4 (by omega)
    · exact Nat.le_trans c5 (by omega)
    · exact Nat.le_trans c6 (by omega)
    · exact Nat.le_trans c7 (by omega)
    · exact Nat.le_trans c8 (by omega)
    · exact c9
/-! ===== the reference's small methods ===== -/
theorem p_in {x : Int32} {lo hi : Int64} {a b : Int} {Q : Int32 → Prop} (ha : lo.toInt = a) (hb : hi.toInt = b) (h1 : a ≤ x.toInt → x.toInt ≤ b → Q 1) (h0 : ¬ (a ≤ x.toInt ∧ x.toInt ≤ b) → Q 0) : w_X11_in x.toInt64 lo hi Q := by
  unfold w_X11_in
  have ex : x.toInt64.toInt = x.toInt := Int32.toInt_toInt64 x
  refine ⟨fun hc => ?_, fun hc => ⟨fun hd => ?_, fun hd => ?_⟩⟩
  · rw [lg_cmp_lt, Int64.lt_iff_toInt_lt] at hc
    exact h0 (by omega)
  · rw [lg_cmp_gt, Int64.lt_iff_toInt_lt] at hd
    exact h0 (by omega)
  · rw [lg_cmp_lt, Int64.lt_iff_toInt_lt] at hc
    rw [lg_cmp_gt, Int64.lt_iff_toInt_lt] at hd
    exact h1 (by omega) (by omega)
theorem p_power {b n : Nat} {Q : Int32 → Prop} (hn : n < 2 ^ 31) (h : Q (nI (b ^ n))) : w_X11_power (nI b) (nI n) Q := by
  unfold w_X11_power
  intro X hX
  have key : ∀ d j, j + d = n → X (nI (b ^ j)) (nI j) := by
    intro d
    induction d with
    | zero =>
      intro j hj
      have hj : j = n := by omega
      subst hj
      exact hX _ _ ⟨fun _ => h, fun hc => absurd (nI_le (Nat.le_refl _) hn) hc⟩
    | succ d ih =>
      intro j hj
      refine hX _ _ ⟨fun hc => absurd hc (nI_ge (by omega) hn), fun _ x5 e5 x6 e6 => ?_⟩
      rw [e5, e6, pk_mul, nI_1]
      exact ih (j + 1) (by omega)
  have := key n 0 (by omega)
  rwa [Nat.pow_zero] at this
theorem p_madeBy {k l r : Nat} {Q : Int32 → Prop} (hk : k < 5) (hl : l < 2 ^ 28) (hr : r < 2 ^ 28) (h : Q (nI (mkN k l r))) : w_X11_madeBy (nI k) (nI l) (nI r) Q := by
  unfold w_X11_madeBy
  have hs : ∀ {a b : Nat}, b ≤ a → nI a - nI b = nI (a - b) := fun h => pk_sub h
  rcases (show k = 0 ∨ k = 1 ∨ k = 2 ∨ k = 3 ∨ k = 4 by omega) with rfl | rfl | rfl | rfl | rfl
  · refine ⟨fun hc => absurd hc (by decide), fun _ => ⟨fun hc => absurd hc (by decide), fun _ => ⟨fun hc => absurd hc (by decide), fun _ => ⟨fun hc => absurd hc (by decide), fun _ => ?_⟩⟩⟩⟩
    rw [nI_add]
    exact h
  · refine ⟨fun _ => ⟨fun hc => ?_, fun hc => ?_⟩, fun hc => absurd rfl hc⟩
    · rw [q_le (by omega) (by omega)] at hc
      rw [hs hc]
      simpa [mkN, hc] using h
    · rw [q_le (by omega) (by omega)] at hc
      rw [hs (by omega)]
      simpa [mkN, hc] using h
  · refine ⟨fun hc => absurd hc (by decide), fun _ => ⟨fun _ => ⟨fun hc => ?_, fun hc => ?_⟩, fun hc => absurd rfl hc⟩⟩
    · rw [q_le (by omega) (by omega)] at hc
      simpa [mkN, hc] using h
    · rw [q_le (by omega) (by omega)] at hc
      simpa [mkN, hc] using h
  · refine ⟨fun hc => absurd hc (by decide), fun _ => ⟨fun hc => absurd hc (by decide), fun _ => ⟨fun _ => ?_, fun hc => absurd rfl hc⟩⟩⟩
    rw [show (2 : Int32) = nI 2 from rfl, pk_mul, nI_add]
    exact h
  · refine ⟨fun hc => absurd hc (by decide), fun _ => ⟨fun hc => absurd hc (by decide), fun _ => ⟨fun hc => absurd hc (by decide), fun _ => ⟨fun _ => ?_, fun hc => absurd rfl hc⟩⟩⟩⟩
    rw [show (2 : Int32) = nI 2 from rfl, pk_mul, nI_add, show (10 : Int32) = nI 10 from rfl, pk_rem (by omega) (by omega) (by omega)]
    exact h
theorem p_leftOf {f : Nat → Int32} {g : Int64} {a : Nat → Nat → Int32} {n i : Nat} {Q : Int32 → MSt → Prop} (hn : n = 2 ∨ n = 3 ∨ n = 4) (h6 : f 6 = nI n) (h1 : n ≤ i) (h2 : i < szN n) (h : Q (nI (lfN n 0 i)) (f, g, a)) : w_X11_leftOf f g a (nI i) Q := by
  unfold w_X11_leftOf
  intro x1 e1 X hX
  rw [e1, h6]
  have hi : i < 10 := by rcases hn with rfl | rfl | rfl <;> simp [szN] at h2 <;> omega
  have key : ∀ w fst, w ≤ 4 → fst ≤ 10 → fst + w ≤ i → i < fst + w * (w + 1) / 2 → lfN w fst i = lfN n 0 i → X (nI w) (nI fst) := by
    intro w
    induction w with
    | zero => intro fst _ _ h3 h4; simp at h4; omega
    | succ w ih =>
      intro fst hw hf h3 h4 h5
      refine hX _ _ ⟨fun hc => ?_, fun hc x6 e6 x7 e7 => ?_⟩
      · rw [show (2 : Int32) = nI 2 from rfl, pk_mul, nI_add, show (1 : Int32) = nI 1 from rfl, pk_sub (by omega), q_lt (by omega) (by omega)] at hc
        rw [pk_sub (by omega), pk_sub (by omega), nI_add]
        have : fst + (i - fst - (w + 1)) = lfN n 0 i := by
          rw [← h5]
          simp only [lfN]
          rw [if_pos hc]
          omega
        rw [this]
        exact h
      · rw [show (2 : Int32) = nI 2 from rfl, pk_mul, nI_add, show (1 : Int32) = nI 1 from rfl, pk_sub (by omega), q_lt (by omega) (by omega)] at hc
        rw [e6, e7, nI_add, pk_m1]
        have h5' : lfN w (fst + (w + 1)) i = lfN n 0 i := by
          rw [← h5]
          simp only [lfN]
          rw [if_neg hc]
        refine ih (fst + (w + 1)) (by omega) (by omega) (by omega) ?_ h5'
        have : (w + 1) * (w + 1 + 1) / 2 = w * (w + 1) / 2 + (w + 1) := by
          rw [show (w + 1) * (w + 1 + 1) = w * (w + 1) + (w + 1) * 2 by rw [Nat.add_mul, Nat.mul_comm 1, Nat.mul_one, Nat.mul_add w (w + 1) 1]; omega, Nat.add_mul_div_right _ _ (by omega)]
        omega
  have := key n 0 (by rcases hn with rfl | rfl | rfl <;> omega) (by omega) (by omega) (by simpa [szN] using h2) rfl
  exact this

/-! ===== the reference: figures laid, values made ===== -/
theorem va_up_id {α : Type} (f : Nat → α) (k : Nat) : va_up f k (f k) = f := by
  funext i
  by_cases h : i = k
  · subst h; rw [va_up_self]
  · rw [va_up_ne _ _ h]
theorem va_up_up {α : Type} (f : Nat → α) (k : Nat) (x y : α) : va_up (va_up f k x) k y = va_up f k y := by
  funext i
  by_cases h : i = k
  · subst h; rw [va_up_self, va_up_self]
  · rw [va_up_ne _ _ h, va_up_ne _ _ h, va_up_ne _ _ h]
theorem va_up_comm {α : Type} (f : Nat → α) {k l : Nat} (hkl : k ≠ l) (x y : α) : va_up (va_up f k x) l y = va_up (va_up f l y) k x := by
  funext i
  by_cases h : i = k
  · subst h; rw [va_up_ne _ _ hkl, va_up_self, va_up_self]
  · by_cases h2 : i = l
    · subst h2; rw [va_up_self, va_up_ne _ _ h, va_up_self]
    · rw [va_up_ne _ _ h2, va_up_ne _ _ h, va_up_ne _ _ h, va_up_ne _ _ h2]
def okN (n : Nat) : Prop := n = 2 ∨ n = 3 ∨ n = 4
theorem okN.le {n : Nat} (h : okN n) : n ≤ 4 ∧ 2 ≤ n := by unfold okN at h; omega
theorem okN.sz {n : Nat} (h : okN n) : szN n ≤ 10 ∧ n < szN n := by
  rcases h with rfl | rfl | rfl <;> simp [szN]
theorem p_layValues {n : Nat} {kd x : Nat → Nat} {f : Nat → Int32} {g : Int64} {a : Nat → Nat → Int32} {Q : MSt → Prop} (hn : okN n) (hk : ∀ i, kd i < 5) (hx : ∀ i, x i ≤ 9) (h6 : f 6 = nI n) (h7 : f 7 = nI (szN n)) (h10 : ∀ i, n ≤ i → i < szN n → a 10 i = nI (kd i)) (h14 : ∀ i, i < n → a 14 i = nI (x i)) (h : ∀ v, (∀ i, i < szN n → v i = nI (vl n kd x i)) → Q (f, g, va_up a 13 v)) : w_X11_layValues f g a Q := by
  unfold w_X11_layValues
  intro X hX
  have hs := hn.sz
  have hl := hn.le
  have key : ∀ d i v, i + d = szN n → (∀ j, j < i → v j = nI (vl n kd x j)) → X (nI i) (f, g, va_up a 13 v) := by
    intro d
    induction d with
    | zero =>
      intro i v hi hv
      refine hX _ _ (pk_le (szN n) i (fun _ => h v (fun j hj => hv j (by omega))) (fun _ => by omega) h7 rfl)
    | succ d ih =>
      intro i v hi hv
      refine hX _ _ (pk_le (szN n) i (fun _ => by omega) (fun _ J hJ => ?_) h7 rfl)
      have ci : (nI i).toNatClampNeg = i := nI_clamp (by omega)
      have fin : ∀ r, r = vl n kd x i → J (nI r) (f, g, va_up a 13 v) := fun r hr => by
        refine hJ _ _ ⟨vp_in_nI (by omega) (by omega), fun x9 e9 => ?_⟩
        rw [e9, nI_1]
        show X (nI (i + 1)) (f, g, va_up (va_up a 13 v) 13 (upd (va_up a 13 v 13) (nI i).toNatClampNeg (nI r)))
        rw [va_up_up, va_up_self, ci]
        refine ih (i + 1) _ (by omega) (fun j hj => ?_)
        by_cases hji : j = i
        · subst hji; rw [pk_us, hr]
        · rw [pk_un hji]; exact hv j (by omega)
      refine pk_le n i (fun hni => ⟨vp_in_nI (by omega) (by omega), ?_⟩) (fun hni => ⟨vp_in_nI (by omega) (by omega), ?_⟩) h6 rfl
      · have hlt := lf_lt hn hni (by omega)
        refine p_leftOf hn h6 hni (by omega) ⟨vp_in_nI (by omega) (by omega), ?_⟩
        refine p_leftOf hn h6 hni (by omega) ⟨by rw [nI_1]; exact vp_in_nI (by omega) (by omega), ?_⟩
        show w_X11_madeBy (va_up a 13 v 10 (nI i).toNatClampNeg) (va_up a 13 v 13 (nI (lfN n 0 i)).toNatClampNeg) (va_up a 13 v 13 (nI (lfN n 0 i) + 1).toNatClampNeg) (fun r18 => J r18 (f, g, va_up a 13 v))
        rw [va_up_ne _ _ (by decide), va_up_self, ci, nI_1, nI_clamp (by omega), nI_clamp (by omega), h10 i hni (by omega), hv _ (by omega), hv _ (by omega)]
        have b1 := vl_le hn (kd := kd) (fun j _ => hx j) (i := lfN n 0 i) (by omega)
        have b2 := vl_le hn (kd := kd) (fun j _ => hx j) (i := lfN n 0 i + 1) (by omega)
        exact p_madeBy (hk i) (by omega) (by omega) (fin _ (vl_up hn hni (by omega)).symm)
      · show J (va_up a 13 v 14 (nI i).toNatClampNeg) (f, g, va_up a 13 v)
        rw [va_up_ne _ _ (by decide), ci, h14 i hni]
        exact fin _ (vl_low hni).symm
  have := key (szN n) 0 (a 13) (by omega) (fun j hj => by omega)
  rwa [va_up_id] at this
