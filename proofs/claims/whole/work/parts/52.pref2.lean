/-! ===== the reference: which row fits, how likely, how few to change ===== -/
theorem p_rows {n : Nat} {kd D : Nat → Nat} {T : Nat → Int32} {f : Nat → Int32} (hp : PI n kd D T) (h6 : f 6 = nI n) {N : Nat} {A B : Prop} (hN : N ≤ 10 ^ n) (h1 : N = 10 ^ n → A) (h2 : N < 10 ^ n → B) : w_X11_power (10 : Int32) (f 6) (fun r => ((r ≤ nI N → A) ∧ (¬ (r ≤ nI N) → B))) := by
  have hpw := pow_le4 hp.1
  have hl := hp.1.le
  rw [h6]
  exact p_power (b := 10) (by omega) (pk_le (10 ^ n) N (fun h => h1 (by omega)) (fun h => h2 h))
theorem p_fitsOf {n m : Nat} {kd D : Nat → Nat} {T : Nat → Int32} {f : Nat → Int32} {g : Int64} {a : Nat → Nat → Int32} {Q : Int32 → MSt → Prop} (hp : PI n kd D T) (hr : RI n kd D T f a) (hm : m < 2 ^ 31) (h1 : ∀ a' N, Lay a a' → N < 10 ^ n → fitB n kd T N = true → cnt (fitB n kd T) N = m → Q (nI N) (f, g, a')) (h0 : ∀ a', Lay a a' → cnt (fitB n kd T) (10 ^ n) ≤ m → Q (-1) (f, g, a')) : w_X11_fitsOf f g a (nI m) Q := by
  unfold w_X11_fitsOf
  intro X hX
  have hpw := pow_le4 hp.1
  have key : ∀ d N a', N + d = 10 ^ n → Lay a a' → cnt (fitB n kd T) N ≤ m → X (nI (m - cnt (fitB n kd T) N)) (nI N) (f, g, a') := by
    intro d
    induction d with
    | zero =>
      intro N a' hN hla hc
      refine hX _ _ _ (p_rows (f := f) hp hr.1 (by omega) (fun e => ?_) (fun h9 => absurd h9 (by omega)))
      subst e
      exact h0 a' hla hc
    | succ d ih =>
      intro N a' hN hla hc
      refine hX _ _ _ (p_rows (f := f) hp hr.1 (by omega) (fun h9 => absurd h9 (by omega)) (fun hlt => ?_))
      refine p_isFit hp (hr.lay hla) (by omega) (fun a2 hl2 _ _ => ?_)
      intro J hJ
      have hcn := cnt_le (fitB n kd T) N
      cases hb : fitB n kd T N with
      | true =>
        refine ⟨fun h => absurd h (by decide), fun _ => ?_⟩
        refine ⟨fun hx => ?_, fun hx => ?_⟩
        · rw [show (0 : Int32) = nI 0 from rfl, nI_eq (by omega) (by omega)] at hx
          have e : cnt (fitB n kd T) (N + 1) = cnt (fitB n kd T) N + 1 := by show cnt _ N + _ = _; rw [if_pos hb]
          intro x14 e14
          refine hJ _ (fun x11 e11 => ?_)
          obtain ⟨w, hw⟩ : ∃ w, m - cnt (fitB n kd T) N = w + 1 := ⟨m - cnt (fitB n kd T) N - 1, by omega⟩
          rw [e14, e11, hw, pk_m1, nI_1, show w = m - cnt (fitB n kd T) (N + 1) by omega]
          exact ih (N + 1) a2 (by omega) (hla.trans hl2) (by omega)
        · rw [show (0 : Int32) = nI 0 from rfl, nI_eq (by omega) (by omega)] at hx
          exact h1 a2 N (hla.trans hl2) hlt hb (by omega)
      | false =>
        refine ⟨fun _ => hJ _ (fun x11 e11 => ?_), fun h => absurd rfl h⟩
        have e : cnt (fitB n kd T) (N + 1) = cnt (fitB n kd T) N + 0 := by show cnt _ N + _ = _; rw [if_neg (by rw [hb]; decide)]
        rw [e11, nI_1, show cnt (fitB n kd T) N = cnt (fitB n kd T) (N + 1) by omega]
        exact ih (N + 1) a2 (by omega) (hla.trans hl2) (by omega)
  exact key (10 ^ n) 0 a (by omega) (Lay.refl a) (Nat.zero_le _)
/-- rows that fit and have that digit at that figure -/
def fitD (n : Nat) (kd : Nat → Nat) (T : Nat → Int32) (i d N : Nat) : Bool := fitB n kd T N && decide (dg n N i = d)
theorem cnt_succ (p : Nat → Bool) (n : Nat) : cnt p (n + 1) = cnt p n + (if p n then 1 else 0) := rfl
theorem cnt_and_le (p q : Nat → Bool) : ∀ n, cnt (fun i => p i && q i) n ≤ cnt p n
  | 0 => Nat.le_refl _
  | n + 1 => by
    have := cnt_and_le p q n
    rw [cnt_succ, cnt_succ]
    cases p n <;> cases q n <;> simp <;> omega
def oddV (all up w : Nat) : Nat := if all = 0 then w else if w = 0 then up / Nat.gcd all up else all / Nat.gcd all up
theorem p_oddsOf {n i d w : Nat} {kd D : Nat → Nat} {T : Nat → Int32} {f : Nat → Int32} {g : Int64} {a : Nat → Nat → Int32} {Q : Int32 → MSt → Prop} (hp : PI n kd D T) (hr : RI n kd D T f a) (hi : i < n) (hd : d ≤ 9) (hw : w ≤ 1) (h : ∀ a', Lay a a' → Q (nI (oddV (cnt (fitB n kd T) (10 ^ n)) (cnt (fitD n kd T i d) (10 ^ n)) w)) (f, g, a')) : w_X11_oddsOf f g a (nI i) (nI d) (nI w) Q := by
  unfold w_X11_oddsOf
  intro X hX
  have hpw := pow_le4 hp.1
  have hl := hp.1.le
  have hs := hp.1.sz
  have key : ∀ e N a', N + e = 10 ^ n → Lay a a' → X (nI (cnt (fitB n kd T) N)) (nI (cnt (fitD n kd T i d) N)) (nI N) (f, g, a') := by
    intro e
    induction e with
    | zero =>
      intro N a' hN hla
      refine hX _ _ _ _ (p_rows (f := f) hp hr.1 (by omega) (fun e => ?_) (fun h9 => absurd h9 (by omega)))
      subst e
      have hq := h a' hla
      have hc1 := cnt_le (fitB n kd T) (10 ^ n)
      have hc2 : cnt (fitD n kd T i d) (10 ^ n) ≤ cnt (fitB n kd T) (10 ^ n) := cnt_and_le _ _ _
      generalize cnt (fitB n kd T) (10 ^ n) = all at hq hc1 hc2 ⊢
      generalize cnt (fitD n kd T i d) (10 ^ n) = up at hq hc2 ⊢
      intro Y hY
      have fin : ∀ x, x = Nat.gcd all up → Y (nI x) (nI 0) := by
        intro x ex
        have hx1 : Nat.gcd all up ≤ all ∨ all = 0 := by
          rcases Nat.eq_zero_or_pos all with h0 | h0
          · exact Or.inr h0
          · exact Or.inl (Nat.gcd_le_left _ h0)
        refine hY _ _ ⟨fun _ => ?_, fun hc => absurd (by decide) hc⟩
        have hg0 : all ≠ 0 → 0 < x := fun h0 => by rw [ex]; exact Nat.gcd_pos_of_pos_left _ (by omega)
        by_cases h0 : all = 0
        · subst h0
          refine ⟨fun hc => absurd rfl hc, fun _ => ?_⟩
          simpa [oddV] using hq
        · have hx2 : x ≤ all := by rcases hx1 with h9 | h9; omega; exact absurd h9 h0
          refine ⟨fun _ => ?_, fun hc => ?_⟩
          · by_cases hw0 : w = 0
            · subst hw0
              refine ⟨fun hc => absurd rfl hc, fun _ => ⟨nI_ne0 (hg0 h0) (by omega), ?_⟩⟩
              rw [pk_div (by omega) (hg0 h0) (by omega), ex]
              simpa [oddV, h0] using hq
            · refine ⟨fun _ => ⟨nI_ne0 (hg0 h0) (by omega), ?_⟩, fun hc => ?_⟩
              · rw [pk_div (by omega) (hg0 h0) (by omega), ex]
                simpa [oddV, h0, hw0] using hq
              · rw [show (0 : Int32) = nI 0 from rfl, nI_eq (by omega) (by omega)] at hc
                exact absurd hc hw0
          · rw [show (0 : Int32) = nI 0 from rfl, nI_eq (by omega) (by omega)] at hc
            exact absurd hc h0
      have euc : ∀ y x, x ≤ 10000 → y ≤ 10000 → Nat.gcd x y = Nat.gcd all up → Y (nI x) (nI y) := by
        intro y
        induction y using Nat.strongRecOn with
        | ind y ih =>
          intro x hx hy hg
          by_cases h0 : y = 0
          · subst h0
            rw [Nat.gcd_zero_right] at hg
            exact fin x hg
          · refine hY _ _ ⟨fun hc => absurd hc (nI_nle (by omega) (by omega)), fun _ => ⟨nI_ne0 (by omega) (by omega), fun x17 e17 => ?_⟩⟩
            rw [e17, pk_rem (by omega) (by omega) (by omega)]
            have hm : x % y < y := Nat.mod_lt _ (by omega)
            refine ih (x % y) hm y hy (by omega) ?_
            rw [← hg, Nat.gcd_comm x y, Nat.gcd_rec y x, Nat.gcd_comm]
      exact euc up all (by omega) (by omega) rfl
    | succ e ih =>
      intro N a' hN hla
      refine hX _ _ _ _ (p_rows (f := f) hp hr.1 (by omega) (fun h9 => absurd h9 (by omega)) (fun hlt => ?_))
      refine p_isFit hp (hr.lay hla) (by omega) (fun a2 hl2 _ hv2 => ?_)
      intro J hJ
      have hcn := cnt_le (fitB n kd T) N
      have hcd : cnt (fitD n kd T i d) N ≤ cnt (fitB n kd T) N := cnt_and_le _ _ _
      cases hb : fitB n kd T N with
      | false =>
        refine ⟨fun _ => hJ _ _ (fun x23 e23 => ?_), fun h => absurd rfl h⟩
        have e1 : cnt (fitB n kd T) (N + 1) = cnt (fitB n kd T) N := by rw [cnt_succ, hb]; rfl
        have e2 : cnt (fitD n kd T i d) (N + 1) = cnt (fitD n kd T i d) N := by rw [cnt_succ, show fitD n kd T i d N = false by simp [fitD, hb]]; rfl
        rw [e23, nI_1, ← e1, ← e2]
        exact ih (N + 1) a2 (by omega) (hla.trans hl2)
      | true =>
        refine ⟨fun h => absurd h (by decide), fun _ x25 e25 => ⟨vp_in_nI (by omega) (by omega), fun J28 hJ28 => ?_⟩⟩
        have e1 : cnt (fitB n kd T) (N + 1) = cnt (fitB n kd T) N + 1 := by rw [cnt_succ, hb]; rfl
        have ev : a2 13 (nI i).toNatClampNeg = nI (dg n N i) := by rw [nI_clamp (by omega), hv2 i (by omega), vl_low hi]
        have hdl := dg_le n N i
        show (¬ a2 13 (nI i).toNatClampNeg = nI d → J28 0) ∧ (a2 13 (nI i).toNatClampNeg = nI d → J28 1)
        rw [ev, nI_eq (by omega) (by omega)]
        refine ⟨fun hne => hJ28 _ (fun x29 e29 => hJ _ _ (fun x23 e23 => ?_)), fun he => hJ28 _ (fun x29 e29 => hJ _ _ (fun x23 e23 => ?_))⟩
        · have e2 : cnt (fitD n kd T i d) (N + 1) = cnt (fitD n kd T i d) N := by rw [cnt_succ, show fitD n kd T i d N = false by simp [fitD, hne]]; rfl
          rw [e25, e29, e23, nI_1, nI_1, show (0 : Int32) = nI 0 from rfl, nI_add, Nat.add_zero, ← e1, ← e2]
          exact ih (N + 1) a2 (by omega) (hla.trans hl2)
        · have e2 : cnt (fitD n kd T i d) (N + 1) = cnt (fitD n kd T i d) N + 1 := by rw [cnt_succ, show fitD n kd T i d N = true by simp [fitD, he, hb]]; rfl
          rw [e25, e29, e23, nI_1, nI_1, nI_1, ← e1, ← e2]
          exact ih (N + 1) a2 (by omega) (hla.trans hl2)
  exact key (10 ^ n) 0 a (by omega) (Lay.refl a)
/-- how many figures of x are other than those of D -/
def chg (D x : Nat → Nat) : Nat → Nat
  | 0 => 0
  | n + 1 => chg D x n + (if x n = D n then 0 else 1)
theorem chg_le (D x : Nat → Nat) : ∀ n, chg D x n ≤ n
  | 0 => Nat.le_refl _
  | n + 1 => by have := chg_le D x n; unfold chg; split <;> omega
theorem p_otherwise {n : Nat} {kd D x : Nat → Nat} {T : Nat → Int32} {f : Nat → Int32} {g : Int64} {a : Nat → Nat → Int32} {Q : Int32 → MSt → Prop} (hp : PI n kd D T) (hr : RI n kd D T f a) (hx : ∀ i, x i ≤ 9) (h14 : ∀ i, i < n → a 14 i = nI (x i)) (h : Q (nI (chg D x n)) (f, g, a)) : w_X11_otherwise f g a Q := by
  unfold w_X11_otherwise
  intro X hX
  have hl := hp.1.le
  have key : ∀ d i, i + d = n → X (nI (chg D x i)) (nI i) := by
    intro d
    induction d with
    | zero =>
      intro i hi
      refine hX _ _ (pk_le n i (fun _ => ?_) (fun _ => by omega) hr.1)
      rw [show i = n by omega]; exact h
    | succ d ih =>
      intro i hi
      refine hX _ _ (pk_le n i (fun _ => by omega) (fun _ => ⟨vp_in_nI (by omega) (by omega), vp_in_nI (by omega) (by omega), fun J hJ => ?_⟩) hr.1)
      have hdi := hp.2.2.1 i
      have hxi := hx i
      rw [nI_clamp (by omega), h14 i (by omega), hr.2.2.2.1 i (by omega), nI_eq (by omega) (by omega)]
      refine ⟨fun hne => hJ _ (fun x9 e9 x10 e10 => ?_), fun he => hJ _ (fun x9 e9 x10 e10 => ?_)⟩
      · rw [e9, e10, nI_1, nI_1, show chg D x i + 1 = chg D x (i + 1) by show _ = chg D x i + _; rw [if_neg hne]]
        exact ih (i + 1) (by omega)
      · rw [e9, e10, show (0 : Int32) = nI 0 from rfl, nI_add, nI_1, show chg D x i + 0 = chg D x (i + 1) by show _ = chg D x i + _; rw [if_pos he]]
        exact ih (i + 1) (by omega)
  exact key n 0 (by omega)
def topN (n : Nat) (kd x : Nat → Nat) : Nat := vl n kd x (szN n - 1)
/-- N is the nearest row with that top -/
def nearest (n : Nat) (kd D : Nat → Nat) (v N : Nat) : Prop := N < 10 ^ n ∧ topN n kd (dg n N) = v ∧ ∀ M, M < 10 ^ n → topN n kd (dg n M) = v → chg D (dg n N) n < chg D (dg n M) n ∨ (chg D (dg n N) n = chg D (dg n M) n ∧ N ≤ M)
theorem p_needOf {n v w : Nat} {kd D : Nat → Nat} {T : Nat → Int32} {f : Nat → Int32} {g : Int64} {a : Nat → Nat → Int32} {Q : Int32 → MSt → Prop} (hp : PI n kd D T) (hr : RI n kd D T f a) (hv : v ≤ 999) (hw : w ≤ 1) (h1 : ∀ a' N, Lay a a' → nearest n kd D v N → Q (nI (if w = 1 then N else chg D (dg n N) n)) (f, g, a')) (h0 : ∀ a', Lay a a' → (∀ N, N < 10 ^ n → topN n kd (dg n N) ≠ v) → Q (-1) (f, g, a')) : w_X11_needOf f g a (nI v) (nI w) Q := by
  unfold w_X11_needOf
  intro X hX
  have hpw := pow_le4 hp.1
  have hl := hp.1.le
  have hs := hp.1.sz
  have ht : ∀ N, topN n kd (dg n N) ≤ 243 := fun N => vl_le hp.1 (fun j _ => dg_le n N j) (by omega)
  have key : ∀ e N a' x1 x2, N + e = 10 ^ n → Lay a a' → ((x1 = -1 ∧ x2 = nI 5 ∧ ∀ M, M < N → topN n kd (dg n M) ≠ v) ∨ ∃ B, B < N ∧ x1 = nI B ∧ x2 = nI (chg D (dg n B) n) ∧ topN n kd (dg n B) = v ∧ ∀ M, M < N → topN n kd (dg n M) = v → chg D (dg n B) n < chg D (dg n M) n ∨ (chg D (dg n B) n = chg D (dg n M) n ∧ B ≤ M)) → X x1 x2 (nI N) (f, g, a') := by
    intro e
    induction e with
    | zero =>
      intro N a' x1 x2 hN hla hc
      refine hX _ _ _ _ (p_rows (f := f) hp hr.1 (by omega) (fun e => ?_) (fun h9 => absurd h9 (by omega)))
      subst e
      rcases hc with ⟨r1, r2, hno⟩ | ⟨B, hB, r1, r2, hB1, hB2⟩
      · subst r1 r2
        exact ⟨fun _ => h0 a' hla hno, fun hc => absurd rfl hc⟩
      · subst r1 r2
        have hq := h1 a' B hla ⟨hB, hB1, hB2⟩
        refine ⟨fun hc => ?_, fun _ => ⟨fun hc => ?_, fun hc => ?_⟩⟩
        · have := nI_pos (n := B) (by omega)
          rw [hc] at this
          exact absurd (by decide) this
        · have hw1 : w ≠ 1 := fun h9 => by subst h9; exact hc rfl
          rw [if_neg hw1] at hq; exact hq
        · have hw1 : w = 1 := (nI_eq (b := 1) (by omega) (by omega)).mp hc
          rw [if_pos hw1] at hq; exact hq
    | succ e ih =>
      intro N a' x1 x2 hN hla hc
      refine hX _ _ _ _ (p_rows (f := f) hp hr.1 (by omega) (fun h9 => absurd h9 (by omega)) (fun hlt => ?_))
      refine p_layNumber hp (hr.lay hla) hlt (fun a2 hl2 h14 h13 => ?_)
      have hr2 := (hr.lay hla).lay hl2
      refine p_otherwise hp hr2 (dg_le n N) h14 ?_
      have e7 : f 7 - 1 = nI (szN n - 1) := by rw [hr.2.1, show (1 : Int32) = nI 1 from rfl, pk_sub (by omega)]
      refine ⟨by show vp_in (f 7 - 1) 10; rw [e7]; exact vp_in_nI (by omega) (by omega), fun J hJ => ?_⟩
      show (¬ a2 13 (f 7 - 1).toNatClampNeg = nI v → J x1 x2) ∧ (a2 13 (f 7 - 1).toNatClampNeg = nI v → ((x2 ≤ nI (chg D (dg n N) n) → J x1 x2) ∧ (¬ (x2 ≤ nI (chg D (dg n N) n)) → J (nI N) (nI (chg D (dg n N) n)))))
      have htN := ht N
      have hch := chg_le D (dg n N) n
      rw [e7, nI_clamp (by omega), h13 _ (by omega), show vl n kd (dg n N) (szN n - 1) = topN n kd (dg n N) from rfl, nI_eq (by omega) (by omega)]
      have same : (∀ M, M < N + 1 → topN n kd (dg n M) = v → M < N ∨ (∃ B, x1 = nI B ∧ B < N ∧ x2 = nI (chg D (dg n B) n) ∧ chg D (dg n B) n ≤ chg D (dg n N) n)) → topN n kd (dg n N) = v ∨ topN n kd (dg n N) ≠ v → J x1 x2 := by
        intro hM _
        refine hJ _ _ (fun x17 e17 => ?_)
        rw [e17, nI_1]
        refine ih (N + 1) a2 x1 x2 (by omega) (hla.trans hl2) ?_
        rcases hc with ⟨r1, r2, hno⟩ | ⟨B, hB, r1, r2, hB1, hB2⟩
        · refine Or.inl ⟨r1, r2, fun M hM1 hM2 => ?_⟩
          rcases hM M hM1 hM2 with h9 | ⟨B, hB, hBN, -⟩
          · exact hno M h9 hM2
          · rw [r1] at hB
            have := nI_pos (n := B) (by omega)
            rw [← hB] at this
            exact this (by decide)
        · refine Or.inr ⟨B, by omega, r1, r2, hB1, fun M hM1 hM2 => ?_⟩
          rcases Nat.lt_or_ge M N with h9 | h9
          · exact hB2 M h9 hM2
          · have hMN : M = N := by omega
            subst hMN
            rcases hM M hM1 hM2 with h8 | ⟨B', hB', hB'N, hx2, hle⟩
            · omega
            · rw [r1, nI_eq (by omega) (by omega)] at hB'
              subst hB'
              omega
      refine ⟨fun hne => same (fun M hM1 hM2 => ?_) (Or.inr hne), fun he => ⟨fun hle => same (fun M hM1 hM2 => ?_) (Or.inl he), fun hgt => ?_⟩⟩
      · rcases Nat.lt_or_ge M N with h9 | h9
        · exact Or.inl h9
        · rw [show M = N by omega] at hM2; exact absurd hM2 hne
      · rcases Nat.lt_or_ge M N with h9 | h9
        · exact Or.inl h9
        · right
          rcases hc with ⟨r1, r2, hno⟩ | ⟨B, hB, r1, r2, hB1, hB2⟩
          · rw [r2, nI_leI (by omega) (by omega)] at hle
            omega
          · have hcb := chg_le D (dg n B) n
            rw [r2, nI_leI (by omega) (by omega)] at hle
            exact ⟨B, r1, hB, r2, hle⟩
      · refine hJ _ _ (fun x17 e17 => ?_)
        rw [e17, nI_1]
        refine ih (N + 1) a2 _ _ (by omega) (hla.trans hl2) (Or.inr ⟨N, by omega, rfl, rfl, he, fun M hM1 hM2 => ?_⟩)
        rcases Nat.lt_or_ge M N with h9 | h9
        · left
          rcases hc with ⟨r1, r2, hno⟩ | ⟨B, hB, r1, r2, hB1, hB2⟩
          · exact absurd hM2 (hno M h9)
          · have hcb := chg_le D (dg n B) n
            rw [r2, nI_leI (by omega) (by omega)] at hgt
            rcases hB2 M h9 hM2 with h8 | h8 <;> omega
        · right
          rw [show M = N by omega]
          exact ⟨rfl, Nat.le_refl _⟩
  exact key (10 ^ n) 0 a _ _ (by omega) (Lay.refl a) (Or.inl ⟨rfl, rfl, fun M hM => by omega⟩)
