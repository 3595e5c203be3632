/-! ===== the class: rows of figures, one by one ===== -/
/-- the brick in row r that figure p is the last one for -/
def bk (n p : Nat) : Nat → Nat
  | 0 => p
  | r + 1 => bk n p r + n - r - 1
theorem bk_f : ∀ n, n < 5 → ∀ p, p < n → ∀ r, r < p → (n ≤ bk n p (r + 1) ∧ bk n p (r + 1) < szN n ∧ lfN n 0 (bk n p (r + 1)) + 1 = bk n p r ∧ bk n p r - 1 = bk n (p - 1) r ∧ 1 ≤ bk n p r) := by decide +kernel
theorem bk_lt : ∀ n, n < 5 → ∀ p, p < n → ∀ r, r < p + 1 → bk n p r < szN n := by decide +kernel
def bkP (n i : Nat) : Nat := if n = 2 then [0, 1, 1].getD i 0 else if n = 3 then [0, 1, 2, 1, 2, 2].getD i 0 else [0, 1, 2, 3, 1, 2, 3, 2, 3, 3].getD i 0
def bkR (n i : Nat) : Nat := if n = 2 then [0, 0, 1].getD i 0 else if n = 3 then [0, 0, 0, 1, 1, 2].getD i 0 else [0, 0, 0, 0, 1, 1, 1, 2, 2, 3].getD i 0
theorem bk_cov : ∀ n, n < 5 → 2 ≤ n → ∀ i, i < szN n → (bkP n i < n ∧ bkR n i < bkP n i + 1 ∧ bk n (bkP n i) (bkR n i) = i) := by decide +kernel
theorem bk_inv : ∀ n, n < 5 → 2 ≤ n → ∀ p, p < n → ∀ r, r < p + 1 → (bkP n (bk n p r) = p ∧ bkR n (bk n p r) = r) := by decide +kernel
theorem bk_inj (n : Nat) (hn : n < 5) (p : Nat) (hp : p < n) (r : Nat) (hr : r < p + 1) (p' : Nat) (hp' : p' < n) (r' : Nat) (hr' : r' < p' + 1) (h : bk n p r = bk n p' r') : p = p' ∧ r = r' := by
  by_cases h2 : 2 ≤ n
  · have h1 := bk_inv n hn h2 p hp r hr
    have h3 := bk_inv n hn h2 p' hp' r' hr'
    rw [h] at h1
    exact ⟨h1.1.symm.trans h3.1, h1.2.symm.trans h3.2⟩
  · omega
theorem vl_loc {n : Nat} {kd x y : Nat → Nat} (hn : okN n) : ∀ r p, p < n → r ≤ p → (∀ j, j ≤ p → x j = y j) → vl n kd x (bk n p r) = vl n kd y (bk n p r) := by
  have hl := hn.le
  intro r
  induction r with
  | zero =>
    intro p hp _ h
    show vl n kd x p = vl n kd y p
    rw [vl_low hp, vl_low hp, h p (Nat.le_refl _)]
  | succ r ih =>
    intro p hp hr h
    obtain ⟨f1, f2, f3, f4, f5⟩ := bk_f n (by omega) p hp r (by omega)
    have e1 : lfN n 0 (bk n p (r + 1)) = bk n (p - 1) r := by omega
    rw [vl_up hn f1 f2, vl_up hn f1 f2, f3, e1, ih p hp (by omega) h, ih (p - 1) (by omega) (by omega) (fun j hj => h j (by omega))]
def okT (n : Nat) (kd : Nat → Nat) (T : Nat → Int32) (x : Nat → Nat) (i : Nat) : Prop := T i = -1 ∨ T i = nI (vl n kd x i)
theorem fit_bk {n N : Nat} {kd : Nat → Nat} {T : Nat → Int32} (hn : okN n) : fitB n kd T N = true ↔ ∀ p, p < n → ∀ r, r ≤ p → okT n kd T (dg n N) (bk n p r) := by
  have hl := hn.le
  rw [fitB_P]
  refine ⟨fun h p hp r hr => h _ (bk_lt n (by omega) p hp r (by omega)), fun h i hi => ?_⟩
  obtain ⟨c1, c2, c3⟩ := bk_cov n (by omega) (by omega) i hi
  have := h _ c1 (bkR n i) (by omega)
  rwa [c3] at this
theorem numN_cong {x y : Nat → Nat} : ∀ m, (∀ j, j < m → x j = y j) → numN x m = numN y m
  | 0, _ => rfl
  | m + 1, h => by
    show 10 * numN x m + x m = 10 * numN y m + y m
    rw [numN_cong m (fun j hj => h j (by omega)), h m (by omega)]
theorem numN_dg {x : Nat → Nat} (hx : ∀ i, x i ≤ 9) : ∀ p j, j ≤ p → numN x (p + 1) / 10 ^ (p - j) % 10 = x j := by
  intro p
  induction p with
  | zero =>
    intro j hj
    have : j = 0 := by omega
    subst this
    have := hx 0
    show (10 * 0 + x 0) / 10 ^ 0 % 10 = x 0
    rw [Nat.pow_zero, Nat.div_one]; omega
  | succ p ih =>
    intro j hj
    by_cases h : j = p + 1
    · subst h
      have := hx (p + 1)
      rw [Nat.sub_self, Nat.pow_zero, Nat.div_one]
      show (10 * numN x (p + 1) + x (p + 1)) % 10 = _
      omega
    · have h9 := hx (p + 1)
      rw [show p + 1 - j = (p - j) + 1 by omega, Nat.pow_succ, Nat.mul_comm, ← Nat.div_div_eq_div_mul]
      rw [show numN x (p + 1 + 1) / 10 = numN x (p + 1) by show (10 * numN x (p + 1) + x (p + 1)) / 10 = _; omega]
      exact ih j (by omega)
theorem dg_pre {n N p : Nat} {x : Nat → Nat} (hx : ∀ i, x i ≤ 9) (hp : p < n) (h : N / 10 ^ (n - 1 - p) = numN x (p + 1)) : ∀ j, j ≤ p → dg n N j = x j := by
  intro j hj
  unfold dg
  rw [show n - 1 - j = (n - 1 - p) + (p - j) by omega, Nat.pow_add, ← Nat.div_div_eq_div_mul, h]
  exact numN_dg hx p j hj
theorem numN_of_dg {n N : Nat} (hN : N < 10 ^ n) : ∀ m, m ≤ n → numN (dg n N) m = N / 10 ^ (n - m) := by
  intro m
  induction m with
  | zero =>
    intro _
    rw [Nat.sub_zero, Nat.div_eq_of_lt hN]; rfl
  | succ m ih =>
    intro hm
    show 10 * numN (dg n N) m + dg n N m = _
    rw [ih (by omega)]
    unfold dg
    rw [show n - m = (n - 1 - m) + 1 by omega, Nat.pow_succ, ← Nat.div_div_eq_div_mul, show n - (m + 1) = n - 1 - m by omega]
    omega
theorem numN_dgn {n N : Nat} (hN : N < 10 ^ n) : numN (dg n N) n = N := by
  rw [numN_of_dg hN n (Nat.le_refl _), Nat.sub_self, Nat.pow_zero, Nat.div_one]
section PR
variable {n : Nat} {kd x : Nat → Nat} {T rv : Nat → Int32} {bO : Nat → Int32}
theorem k_other {m ka i v : Nat} {at_ : Int32} {Q : Int32 → Unit → Prop} (hm : m < 2 ^ 31) (hi : i < m) (hr : rv i = nI v) (h0 : (T i = -1 ∨ T i = nI v) → Q 0 ()) (h1 : ¬ (T i = -1 ∨ T i = nI v) → Q 1 ()) : w_X6_isOtherThanTold n m ka bO T at_ rv (nI i) Q := by
  unfold w_X6_isOtherThanTold
  rw [nI_clamp (by omega), hr]
  exact ⟨vp_in_nI hi hm, fun h => h0 (Or.inl h), fun h => ⟨vp_in_nI hi hm, vp_in_nI hi hm, fun h2 => h0 (Or.inr h2), fun h2 => h1 (fun h3 => by rcases h3 with h3 | h3; exact h h3; exact h2 h3)⟩⟩
theorem k_holds {p : Nat} {Q : Int32 → (Nat → Int32) → Prop} (hn : okN n) (hk : ∀ i, kd i < 5) (hx : ∀ i, x i ≤ 9) (hp : p < n) (hb : ∀ i, n ≤ i → i < szN n → bO (i - n) = nI (kd i)) (hrv : ∀ p', p' < p → ∀ r, r ≤ p' → rv (bk n p' r) = nI (vl n kd x (bk n p' r))) (hp0 : rv p = nI (x p))
    (h1 : ∀ z, (∀ r, r ≤ p → okT n kd T x (bk n p r)) → (∀ p', p' ≤ p → ∀ r, r ≤ p' → z (bk n p' r) = nI (vl n kd x (bk n p' r))) → Q 1 z)
    (h0 : ∀ z, (∃ r, r ≤ p ∧ ¬ okT n kd T x (bk n p r)) → (∀ p', p' < p → ∀ r, r ≤ p' → z (bk n p' r) = nI (vl n kd x (bk n p' r))) → z p = nI (x p) → Q 0 z) : w_X6_holds n (szN n) (szN n - n) bO T (nI p) rv Q := by
  have hl := hn.le
  have hs := hn.sz
  have vb : ∀ p', p' < n → ∀ r, r ≤ p' → vl n kd x (bk n p' r) ≤ 243 := fun p' h r h2 => vl_le hn (fun j _ => hx j) (bk_lt n (by omega) p' h r (by omega))
  unfold w_X6_holds
  refine k_other (v := vl n kd x p) (by omega) (by omega) (by rw [hp0, vl_low hp]) (fun hok => ?_) (fun hno => ?_)
  · refine ⟨fun _ X hX => ?_, fun hc => absurd rfl hc⟩
    have key : ∀ d r z, r + d = p → (∀ r', r' ≤ r → okT n kd T x (bk n p r')) → (∀ p', p' < p → ∀ r, r ≤ p' → z (bk n p' r) = nI (vl n kd x (bk n p' r))) → (∀ r', r' ≤ r → z (bk n p r') = nI (vl n kd x (bk n p r'))) → X (nI (bk n p r)) (nI r) z := by
      intro d
      induction d with
      | zero =>
        intro r z hr c1 c2 c3
        refine hX _ _ _ (pk_le p r (fun _ => h1 z (fun r' h => c1 r' (by omega)) (fun p' h r' h2 => ?_)) (fun _ => by omega))
        by_cases hpp : p' = p
        · subst hpp; exact c3 r' (by omega)
        · exact c2 p' (by omega) r' h2
      | succ d ih =>
        intro r z hr c1 c2 c3
        obtain ⟨f1, f2, f3, f4, f5⟩ := bk_f n (by omega) p hp r (by omega)
        refine hX _ _ _ (pk_le p r (fun _ => by omega) (fun _ x9 e9 => ?_))
        have e9' : x9 = nI (bk n p (r + 1)) := by
          rw [e9, nI_add, pk_sub (by omega), show (1 : Int32) = nI 1 from rfl, pk_sub (by show 1 ≤ bk n p r + n - r; have : bk n p (r + 1) = bk n p r + n - r - 1 := rfl; omega)]
          rfl
        subst e9'
        have g1 := vb (p - 1) (by omega) r (by omega)
        have g2 := vb p hp r (by omega)
        have blt := bk_lt n (by omega) p hp r (by omega)
        rw [pk_sub f1, nI_clamp (show bk n p (r + 1) - n < 2 ^ 31 by omega), show (1 : Int32) = nI 1 from rfl, pk_sub f5, nI_clamp (show bk n p r - 1 < 2 ^ 31 by omega), nI_clamp (show bk n p r < 2 ^ 31 by omega), nI_clamp (show bk n p (r + 1) < 2 ^ 31 by omega), f4, c2 (p - 1) (by omega) r (by omega), c3 r (Nat.le_refl _)]
        refine ⟨vp_in_nI (by omega) (by omega), k_kind (hk _) (hb _ f1 f2) ⟨vp_in_nI (by omega) (by omega), vp_in_nI (by omega) (by omega), ?_⟩⟩
        have ev : mkN (kd (bk n p (r + 1))) (vl n kd x (bk n (p - 1) r)) (vl n kd x (bk n p r)) = vl n kd x (bk n p (r + 1)) := by
          rw [vl_up hn f1 f2, f3, show lfN n 0 (bk n p (r + 1)) = bk n (p - 1) r by omega]
        refine k_made (hk _) (by omega) (by omega) ⟨vp_in_nI (by omega) (by omega), ?_⟩
        rw [ev]
        have d2 : ∀ p', p' < p → ∀ r', r' ≤ p' → upd z (bk n p (r + 1)) (nI (vl n kd x (bk n p (r + 1)))) (bk n p' r') = nI (vl n kd x (bk n p' r')) := fun p' h r' h2 => by
          rw [pk_un (fun h9 => by have := (bk_inj n (by omega) p' (by omega) r' (by omega) p hp (r + 1) (by omega) h9).1; omega)]
          exact c2 p' h r' h2
        have d3 : ∀ r', r' ≤ r + 1 → upd z (bk n p (r + 1)) (nI (vl n kd x (bk n p (r + 1)))) (bk n p r') = nI (vl n kd x (bk n p r')) := fun r' h => by
          by_cases hrr : r' = r + 1
          · subst hrr; rw [pk_us]
          · rw [pk_un (fun h9 => by have := (bk_inj n (by omega) p (by omega) r' (by omega) p hp (r + 1) (by omega) h9).2; omega)]
            exact c3 r' (by omega)
        refine k_other (v := vl n kd x (bk n p (r + 1))) (by omega) f2 (by rw [pk_us]) (fun hok2 => ?_) (fun hno2 => ?_)
        · refine ⟨fun _ x19 e19 => ?_, fun hc => absurd rfl hc⟩
          rw [e19, nI_add]
          refine ih (r + 1) _ (by omega) (fun r' h => ?_) d2 d3
          by_cases hrr : r' = r + 1
          · subst hrr; exact hok2
          · exact c1 r' (by omega)
        · refine ⟨fun hc => absurd hc (by decide), fun _ => h0 _ ⟨r + 1, by omega, hno2⟩ d2 ?_⟩
          have := d3 0 (by omega)
          rw [show bk n p 0 = p from rfl, vl_low hp] at this
          exact this
    refine key p 0 rv (by omega) (fun r' h => ?_) hrv (fun r' h => ?_)
    · rw [show r' = 0 by omega]; exact hok
    · rw [show r' = 0 by omega]
      show rv p = nI (vl n kd x p)
      rw [hp0, vl_low hp]
  · exact ⟨fun hc => absurd hc (by decide), fun _ => h0 rv ⟨0, by omega, hno⟩ hrv hp0⟩
/-- where the rows are gone through to: all below M are done -/
def RwS (n : Nat) (kd : Nat → Nat) (T : Nat → Int32) (at_ : Int32) (rv : Nat → Int32) (M : Nat) : Prop := (at_ = -1 ∧ M = 10 ^ n) ∨ ∃ (p e : Nat) (x : Nat → Nat), p < n ∧ (∀ i, x i ≤ 9) ∧ e ≤ 10 ∧ at_ = nI p ∧ rv p = nI e - 1 ∧ M = (10 * numN x p + e) * 10 ^ (n - 1 - p) ∧ ∀ p', p' < p → ∀ r, r ≤ p' → rv (bk n p' r) = nI (vl n kd x (bk n p' r)) ∧ okT n kd T x (bk n p' r)
theorem pow_split {n p : Nat} (hp : p < n) : 10 ^ n = 10 * 10 ^ p * 10 ^ (n - 1 - p) := by
  have e : n = (p + 1) + (n - 1 - p) := by omega
  have h1 : 10 ^ n = 10 ^ ((p + 1) + (n - 1 - p)) := congrArg (fun m => 10 ^ m) e
  rw [h1, Nat.pow_add 10 (p + 1), Nat.pow_succ, Nat.mul_comm (10 ^ p) 10]
theorem M_le {n p e : Nat} {x : Nat → Nat} (hx : ∀ i, x i ≤ 9) (hp : p < n) (he : e ≤ 10) : (10 * numN x p + e) * 10 ^ (n - 1 - p) ≤ 10 ^ n := by
  rw [pow_split hp]
  have := numN_lt hx p
  exact Nat.mul_le_mul_right _ (by omega)
def exR (n p e : Nat) : Nat := if e = 10 then n + 1 + p else n - p
theorem k_next {M : Nat} {at_ : Int32} {Q : Int32 → (Int32 × (Nat → Int32)) → Prop} (hn : okN n) (hk : ∀ i, kd i < 5) (hb : ∀ i, n ≤ i → i < szN n → bO (i - n) = nI (kd i)) (hS : RwS n kd T at_ rv M)
    (h1 : ∀ at' z N, M ≤ N → N < 10 ^ n → fitB n kd T N = true → (∀ N', M ≤ N' → N' < N → fitB n kd T N' = false) → (∀ i, i < szN n → z i = nI (vl n kd (dg n N) i)) → RwS n kd T at' z (N + 1) → Q 1 (at', z))
    (h0 : ∀ at' z, (∀ N', M ≤ N' → N' < 10 ^ n → fitB n kd T N' = false) → RwS n kd T at' z (10 ^ n) → Q 0 (at', z)) : w_X6_next n (szN n) (szN n - n) bO T at_ rv Q := by
  have hl := hn.le
  have hs := hn.sz
  have hpw := pow_le4 hn
  unfold w_X6_next
  intro X hX
  have fin : ∀ st z, st < 100000 → (∀ N', M ≤ N' → N' < 10 ^ n → fitB n kd T N' = false) → X (nI st) (-1) z := fun st z hst hno =>
    hX _ _ _ (pk_le 100000 st (fun _ => by omega) (fun _ => ⟨fun _ => h0 _ _ hno (Or.inl ⟨rfl, rfl⟩), fun hc => absurd (by decide) hc⟩))
  have key : ∀ F st p e x z M', st + F < 100000 → 8 * (10 ^ n - M') + exR n p e ≤ F → p < n → (∀ i, x i ≤ 9) → e ≤ 10 → z p = nI e - 1 → M' = (10 * numN x p + e) * 10 ^ (n - 1 - p) → (∀ p', p' < p → ∀ r, r ≤ p' → z (bk n p' r) = nI (vl n kd x (bk n p' r)) ∧ okT n kd T x (bk n p' r)) → M ≤ M' → (∀ N', M ≤ N' → N' < M' → fitB n kd T N' = false) → X (nI st) (nI p) z := by
    intro F
    induction F with
    | zero =>
      intro st p e x z M' _ hF hp
      unfold exR at hF
      split at hF <;> omega
    | succ F ih =>
      intro st p e x z M' hst hF hp hx he hz hM' hpre hMM hno
      have hMle : M' ≤ 10 ^ n := by rw [hM']; exact M_le hx hp he
      have hB : 0 < 10 ^ (n - 1 - p) := Nat.pow_pos (by decide)
      refine hX _ _ _ (pk_le 100000 st (fun _ => by omega) (fun _ => ⟨fun hc => absurd hc (nI_pos (by omega)), fun _ => ⟨vp_in_nI (by omega) (by omega), fun J hJ => ?_⟩⟩))
      rw [nI_clamp (show p < 2 ^ 31 by omega), hz]
      by_cases he10 : e = 10
      · subst he10
        refine ⟨fun hc => absurd hc (by decide), fun _ x22 e22 => hJ _ _ (fun x11 e11 => ?_)⟩
        rw [e11, nI_1]
        cases p with
        | zero =>
          rw [e22, show nI 0 - 1 = -1 by decide]
          refine fin (st + 1) z (by omega) (fun N' h9 h8 => hno N' h9 ?_)
          rw [hM']
          have := pow_split (n := n) (p := 0) (by omega)
          rw [this] at h8
          simpa [numN] using h8
        | succ p1 =>
          have hx1 := hx p1
          rw [e22, show (1 : Int32) = nI 1 from rfl, pk_sub (by omega), show p1 + 1 - 1 = p1 by omega]
          refine ih (st + 1) p1 (x p1 + 1) x z M' (by omega) ?_ (by omega) hx (by omega) ?_ ?_ (fun p' h9 => hpre p' (by omega)) hMM hno
          · unfold exR at hF ⊢
            rw [if_pos rfl] at hF
            split <;> omega
          · have := (hpre p1 (by omega) 0 (by omega)).1
            rw [show bk n p1 0 = p1 from rfl, vl_low (by omega)] at this
            rw [this, ← nI_1]
            grind
          · rw [hM', show n - 1 - p1 = (n - 1 - (p1 + 1)) + 1 by omega, Nat.pow_succ, Nat.mul_comm (10 ^ (n - 1 - (p1 + 1))) 10, ← Nat.mul_assoc]
            congr 1
            show 10 * (10 * numN x p1 + x p1) + 10 = _
            omega
      · have he9 : e ≤ 9 := by omega
        refine ⟨fun _ => ⟨vp_in_nI (by omega) (by omega), fun x15 e15 => ⟨vp_in_nI (by omega) (by omega), ?_⟩⟩, fun hc => absurd ?_ hc⟩
        · have e15' : x15 = nI e := by rw [e15]; grind
          subst e15'
          have hx' : ∀ i, va_up x p e i ≤ 9 := fun i => by
            by_cases h9 : i = p
            · subst h9; rw [va_up_self]; omega
            · rw [va_up_ne _ _ h9]; exact hx i
          have hxe : ∀ j, j < p → va_up x p e j = x j := fun j hj => va_up_ne _ _ (by omega)
          have hnum : numN (va_up x p e) (p + 1) = 10 * numN x p + e := by
            show 10 * numN (va_up x p e) p + va_up x p e p = _
            rw [numN_cong p hxe, va_up_self]
          have hvl : ∀ p', p' < p → ∀ r, r ≤ p' → vl n kd (va_up x p e) (bk n p' r) = vl n kd x (bk n p' r) := fun p' h9 r h8 => vl_loc hn r p' (by omega) h8 (fun j hj => hxe j (by omega))
          have hok : ∀ p', p' < p → ∀ r, r ≤ p' → okT n kd T (va_up x p e) (bk n p' r) := fun p' h9 r h8 => by
            unfold okT; rw [hvl p' h9 r h8]; exact (hpre p' h9 r h8).2
          refine k_holds (kd := kd) (x := va_up x p e) hn hk hx' hp hb (fun p' h9 r h8 => ?_) (by rw [pk_us, va_up_self]) (fun u hgood hu => ?_) (fun u hbad hu hup => ?_)
          · rw [pk_un (fun h7 => by have := (bk_inj n (by omega) p' (by omega) r (by omega) p hp 0 (by omega) h7).1; omega), hvl p' h9 r h8]
            exact (hpre p' h9 r h8).1
          · refine ⟨fun _ => ⟨fun hne x20 e20 => ?_, fun heq => ?_⟩, fun hc => absurd hc (by decide)⟩
            · have hpn : p + 1 < n := by
                rcases Nat.lt_or_ge (p + 1) n with h9 | h9
                · exact h9
                · exact absurd (by rw [show (1 : Int32) = nI 1 from rfl, pk_sub (by omega), show n - 1 = p by omega]) hne
              rw [nI_1] at e20
              subst e20
              refine ⟨vp_in_nI (by omega) (by omega), hJ _ _ (fun x11 e11 => ?_)⟩
              rw [e11, nI_1, nI_clamp (by omega)]
              refine ih (st + 1) (p + 1) 0 (va_up x p e) _ M' (by omega) ?_ hpn hx' (by omega) (by rw [pk_us]; decide) ?_ (fun p' h9 r h8 => ?_) hMM hno
              · unfold exR at hF ⊢
                rw [if_neg he10] at hF
                rw [if_neg (by decide)]
                omega
              · rw [hnum, hM', show n - 1 - p = (n - 1 - (p + 1)) + 1 by omega, Nat.pow_succ, Nat.mul_comm (10 ^ (n - 1 - (p + 1))) 10, ← Nat.mul_assoc]
                congr 1
                omega
              · rw [pk_un (fun h7 => by have := (bk_inj n (by omega) p' (by omega) r (by omega) (p + 1) hpn 0 (by omega) h7).1; omega)]
                refine ⟨hu p' (by omega) r h8, ?_⟩
                by_cases h7 : p' = p
                · subst h7; exact hgood r h8
                · exact hok p' (by omega) r h8
            · have hpn : p + 1 = n := by
                rw [show (1 : Int32) = nI 1 from rfl, pk_sub (by omega), nI_eq (by omega) (by omega)] at heq
                omega
              have hMN : M' = numN (va_up x p e) n := by
                rw [hM', ← hpn, hnum, show p + 1 - 1 - p = 0 by omega, Nat.pow_zero, Nat.mul_one]
              have hMlt : M' < 10 ^ n := by rw [hMN]; exact numN_lt hx' n
              have hdg : ∀ j, j ≤ p → dg n M' j = va_up x p e j := dg_pre hx' hp (by rw [show n - 1 - p = 0 by omega, Nat.pow_zero, Nat.div_one, hpn]; exact hMN)
              have hvd : ∀ p', p' < n → ∀ r, r ≤ p' → vl n kd (dg n M') (bk n p' r) = vl n kd (va_up x p e) (bk n p' r) := fun p' h9 r h8 => vl_loc hn r p' h9 h8 (fun j hj => hdg j (by omega))
              refine h1 _ u M' hMM hMlt ?_ hno (fun i hi => ?_) (Or.inr ⟨p, e + 1, va_up x p e, hp, hx', by omega, rfl, ?_, ?_, fun p' h9 r h8 => ⟨hu p' (by omega) r h8, hok p' h9 r h8⟩⟩)
              · refine (fit_bk hn).mpr (fun p' h9 r h8 => ?_)
                unfold okT
                rw [hvd p' h9 r h8]
                by_cases h7 : p' = p
                · subst h7; exact hgood r h8
                · exact hok p' (by omega) r h8
              · obtain ⟨c1, c2, c3⟩ := bk_cov n (by omega) (by omega) i hi
                have q1 := hu (bkP n i) (by omega) (bkR n i) (by omega)
                rw [← hvd (bkP n i) c1 (bkR n i) (by omega), c3] at q1
                exact q1
              · have q1 := hu p (Nat.le_refl _) 0 (by omega)
                rw [show bk n p 0 = p from rfl, vl_low hp, va_up_self] at q1
                rw [q1, ← nI_1]
                grind
              · rw [hM', ← hpn, numN_cong p hxe, show p + 1 - 1 - p = 0 by omega, Nat.pow_zero, Nat.mul_one, Nat.mul_one]
                omega
          · refine ⟨fun hc => absurd rfl hc, fun _ => hJ _ _ (fun x11 e11 => ?_)⟩
            rw [e11, nI_1]
            rw [va_up_self] at hup
            have hM2 : (10 * numN x p + (e + 1)) * 10 ^ (n - 1 - p) = M' + 10 ^ (n - 1 - p) := by
              rw [hM', show 10 * numN x p + (e + 1) = (10 * numN x p + e) + 1 by omega, Nat.add_mul, Nat.one_mul]
            have hM3 : M' + 10 ^ (n - 1 - p) ≤ 10 ^ n := by rw [← hM2]; exact M_le hx hp (by omega)
            refine ih (st + 1) p (e + 1) x u (M' + 10 ^ (n - 1 - p)) (by omega) ?_ hp hx (by omega) (by rw [hup, ← nI_1]; grind) hM2.symm (fun p' h9 r h8 => ?_) (by omega) (fun N' h9 h8 => ?_)
            · have hB2 : p + 1 < n → 10 ≤ 10 ^ (n - 1 - p) := fun h9 => by
                rw [show n - 1 - p = (n - 1 - p - 1) + 1 by omega, Nat.pow_succ]
                have : 0 < 10 ^ (n - 1 - p - 1) := Nat.pow_pos (by decide)
                omega
              unfold exR at hF ⊢
              rw [if_neg he10] at hF
              split <;> omega
            · rw [hu p' h9 r h8, hvl p' h9 r h8]
              exact ⟨rfl, (hpre p' h9 r h8).2⟩
            · rcases Nat.lt_or_ge N' M' with h7 | h7
              · exact hno N' h9 h7
              · have hdiv : N' / 10 ^ (n - 1 - p) = numN (va_up x p e) (p + 1) := by
                  rw [hnum]
                  refine Nat.div_eq_of_lt_le (by rw [← hM']; exact h7) ?_
                  rw [Nat.add_mul, Nat.one_mul, ← hM']
                  exact h8
                have hdg := dg_pre hx' hp hdiv
                obtain ⟨r, hr, hr2⟩ := hbad
                cases hfb : fitB n kd T N' with
                | false => rfl
                | true =>
                  have := (fit_bk hn).mp hfb p hp r hr
                  unfold okT at this hr2
                  rw [vl_loc hn r p hp hr hdg] at this
                  exact absurd this hr2
        · rw [Int32.lt_iff_toInt_lt, nI_sub1_toInt (by omega)]
          have : (9 : Int32).toInt = 9 := by decide
          omega
  rcases hS with ⟨e1, e2⟩ | ⟨p, e, x, hp, hx, he, ea, hz, hM, hpre⟩
  · subst e1 e2
    exact fin 0 rv (by omega) (fun N' h9 h8 => by omega)
  · subst ea
    refine key 99999 0 p e x rv M (by omega) ?_ hp hx he hz hM hpre (Nat.le_refl _) (fun N' h9 h8 => by omega)
    unfold exR
    split <;> omega
theorem k_start {t : Nat} {at_ : Int32} {Q : (Int32 × (Nat → Int32)) → Prop} (hn : okN n) (h : ∀ z, RwS n kd T 0 z 0 → Q (0, z)) : w_X6_start (szN n) n t at_ rv Q := by
  have hl := hn.le
  have hs := hn.sz
  unfold w_X6_start
  intro J2 hJ2 J5 hJ5
  refine ⟨fun hc => absurd hc (nI_nle (by omega) (by omega)), fun _ => ⟨fun hc => absurd rfl hc, fun _ => hJ2 _ ⟨fun hc => absurd rfl hc, fun _ => ⟨vp_in_nI (n := 0) (by omega) (by omega), h _ (Or.inr ⟨0, 0, fun _ => 0, by omega, fun _ => Nat.zero_le _, by omega, rfl, ?_, ?_, fun p' h9 => by omega⟩)⟩⟩⟩⟩
  · rw [show (0 : Int32).toNatClampNeg = 0 from rfl, pk_us]; decide
  · simp [numN]
end PR
