/-! ===== the reference: the best order, which one to look at ===== -/
def numN (D : Nat → Nat) : Nat → Nat
  | 0 => 0
  | i + 1 => 10 * numN D i + D i
theorem numN_lt {D : Nat → Nat} (hd : ∀ i, D i ≤ 9) : ∀ n, numN D n < 10 ^ n
  | 0 => by simp [numN]
  | n + 1 => by
    have := numN_lt hd n
    have := hd n
    rw [Nat.pow_succ]
    show 10 * numN D n + D n < _
    omega
theorem p_numberOf {n : Nat} {kd D : Nat → Nat} {T : Nat → Int32} {f : Nat → Int32} {g : Int64} {a : Nat → Nat → Int32} {Q : Int32 → MSt → Prop} (hp : PI n kd D T) (hr : RI n kd D T f a) (h : Q (nI (numN D n)) (f, g, a)) : w_X11_numberOf f g a Q := by
  unfold w_X11_numberOf
  intro X hX
  have hl := hp.1.le
  have key : ∀ d i, i + d = n → X (nI (numN D i)) (nI i) := by
    intro d
    induction d with
    | zero =>
      intro i hi
      refine hX _ _ (pk_le n i (fun _ => ?_) (fun _ => by omega) hr.1)
      rw [show i = n by omega]; exact h
    | succ d ih =>
      intro i hi
      refine hX _ _ (pk_le n i (fun _ => by omega) (fun _ => ⟨vp_in_nI (by omega) (by omega), fun x6 e6 x7 e7 => ?_⟩) hr.1)
      rw [e6, e7, nI_clamp (by omega), hr.2.2.2.1 i (by omega), show (10 : Int32) = nI 10 from rfl, pk_mul, nI_add, nI_1]
      exact ih (i + 1) (by omega)
  exact key n 0 (by omega)
/-- how often d is among the n last figures of N -/
def dct (N d : Nat) : Nat → Nat
  | 0 => 0
  | i + 1 => dct N d i + (if N / 10 ^ i % 10 = d then 1 else 0)
theorem dct_le (N d : Nat) : ∀ n, dct N d n ≤ n
  | 0 => Nat.le_refl _
  | n + 1 => by have := dct_le N d n; unfold dct; split <;> omega
def srtP (n N M : Nat) : Prop := ∀ d, d < 10 → dct N d n = dct M d n
def srtB (n N M : Nat) : Bool := (List.range 10).all (fun d => decide (dct N d n = dct M d n))
theorem srtB_P {n N M : Nat} : srtB n N M = true ↔ srtP n N M := by
  unfold srtB srtP
  rw [List.all_eq_true]
  exact ⟨fun h d hd => of_decide_eq_true (h d (List.mem_range.mpr hd)), fun h d hd => decide_eq_true (h d (List.mem_range.mp hd))⟩
theorem nI_quad (a b e h : Nat) : nI a - nI b + (nI e - nI h) = nI (a + e) - nI (b + h) := by
  rw [← nI_add, ← nI_add]
  grind
theorem nI_sub0 {a b : Nat} (ha : a < 2 ^ 30) (hb : b < 2 ^ 30) : (nI a - nI b = 0) ↔ a = b := by
  constructor
  · intro h
    have := pk_sub_toInt ha hb
    rw [h] at this
    have e0 : (0 : Int32).toInt = 0 := by decide
    omega
  · intro h
    subst h
    rw [pk_sub (Nat.le_refl _), Nat.sub_self]
    rfl
theorem p_isSorted {n N M : Nat} {f : Nat → Int32} {g : Int64} {a : Nat → Nat → Int32} {Q : Int32 → MSt → Prop} (hn : okN n) (h6 : f 6 = nI n) (hN : N < 10 ^ n) (hM : M < 10 ^ n) (h : Q (if srtB n N M then 1 else 0) (f, g, a)) : w_X11_isSorted f g a (nI N) (nI M) Q := by
  unfold w_X11_isSorted
  intro X hX
  have hpw := pow_le4 hn
  have hl := hn.le
  have key : ∀ e d, d + e = 10 → (∀ c, c < d → dct N c n = dct M c n) → X (nI d) := by
    intro e
    induction e with
    | zero =>
      intro d hd hc
      refine hX _ (pk_le 10 d (fun _ => ?_) (fun h9 => absurd h9 (by omega)))
      rwa [if_pos (srtB_P.mpr (fun c h9 => hc c (by omega)))] at h
    | succ e ih =>
      intro d hd hc
      refine hX _ (pk_le 10 d (fun h9 => absurd h9 (by omega)) (fun _ Y hY => ?_))
      have inner : ∀ e2 i, i + e2 = n → Y (nI (dct N d i) - nI (dct M d i)) (nI (N / 10 ^ i)) (nI (M / 10 ^ i)) (nI i) := by
        intro e2
        induction e2 with
        | zero =>
          intro i hi
          refine hY _ _ _ _ (pk_le n i (fun _ => ?_) (fun h9 => absurd h9 (by omega)) h6)
          have hin : i = n := by omega
          subst hin
          have l1 := dct_le N d i
          have l2 := dct_le M d i
          rw [nI_sub0 (by omega) (by omega)]
          refine ⟨fun he x11 e11 => ?_, fun hne => ?_⟩
          · rw [e11, nI_1]
            refine ih (d + 1) (by omega) (fun c h9 => ?_)
            by_cases hcd : c = d
            · subst hcd; exact he
            · exact hc c (by omega)
          · rwa [if_neg (fun h9 => hne (srtB_P.mp h9 d (by omega)))] at h
        | succ e2 ih2 =>
          intro i hi
          refine hY _ _ _ _ (pk_le n i (fun h9 => absurd h9 (by omega)) (fun _ J hJ => ?_) h6)
          have b1 : N / 10 ^ i ≤ N := Nat.div_le_self _ _
          have b2 : M / 10 ^ i ≤ M := Nat.div_le_self _ _
          have fin : ∀ e1 h1 : Nat, e1 = (if N / 10 ^ i % 10 = d then 1 else 0) → h1 = (if M / 10 ^ i % 10 = d then 1 else 0) → ∀ x16 : Int32, x16 = nI (dct N d i) - nI (dct M d i) + (nI e1 - nI h1) → ∀ x17 : Int32, x17 = nI (N / 10 ^ i) / 10 → ∀ x18 : Int32, x18 = nI (M / 10 ^ i) / 10 → ∀ x19 : Int32, x19 = nI i + 1 → Y x16 x17 x18 x19 := by
            intro e1 h1 he1 hh1 x16 e16 x17 e17 x18 e18 x19 e19
            rw [e16, e17, e18, e19, nI_quad, nI_1, show (10 : Int32) = nI 10 from rfl, pk_div (by omega) (by omega) (by omega), pk_div (by omega) (by omega) (by omega), Nat.div_div_eq_div_mul, Nat.div_div_eq_div_mul, ← Nat.pow_succ, he1, hh1]
            exact ih2 (i + 1) (by omega)
          rw [show (10 : Int32) = nI 10 from rfl, pk_rem (by omega) (by omega) (by omega), nI_eq (by omega) (by omega)]
          refine ⟨fun hx => hJ _ ?_, fun hx => hJ _ ?_⟩
          · intro J2 hJ2
            rw [show (10 : Int32) = nI 10 from rfl, pk_rem (by omega) (by omega) (by omega), nI_eq (by omega) (by omega)]
            refine ⟨fun hy => hJ2 _ (fun x16 e16 x17 e17 x18 e18 x19 e19 => fin 0 0 (if_neg hx).symm (if_neg hy).symm x16 e16 x17 e17 x18 e18 x19 e19), fun hy => hJ2 _ (fun x16 e16 x17 e17 x18 e18 x19 e19 => fin 0 1 (if_neg hx).symm (if_pos hy).symm x16 e16 x17 e17 x18 e18 x19 e19)⟩
          · intro J2 hJ2
            rw [show (10 : Int32) = nI 10 from rfl, pk_rem (by omega) (by omega) (by omega), nI_eq (by omega) (by omega)]
            refine ⟨fun hy => hJ2 _ (fun x16 e16 x17 e17 x18 e18 x19 e19 => fin 1 0 (if_pos hx).symm (if_neg hy).symm x16 e16 x17 e17 x18 e18 x19 e19), fun hy => hJ2 _ (fun x16 e16 x17 e17 x18 e18 x19 e19 => fin 1 1 (if_pos hx).symm (if_pos hy).symm x16 e16 x17 e17 x18 e18 x19 e19)⟩
      have := inner n 0 (by omega)
      rw [Nat.pow_zero, Nat.div_one, Nat.div_one, show nI (dct N d 0) - nI (dct M d 0) = 0 by show nI 0 - nI 0 = 0; decide] at this
      exact this
  exact key 10 0 (by omega) (fun c hc => by omega)
/-- B is the best order of the figures of the row M -/
def bestO (n : Nat) (kd : Nat → Nat) (M B : Nat) : Prop := B < 10 ^ n ∧ srtP n B M ∧ ∀ N, N < 10 ^ n → srtP n N M → topN n kd (dg n N) < topN n kd (dg n B) ∨ (topN n kd (dg n N) = topN n kd (dg n B) ∧ B ≤ N)
theorem p_orderOf {n w : Nat} {kd D : Nat → Nat} {T : Nat → Int32} {f : Nat → Int32} {g : Int64} {a : Nat → Nat → Int32} {Q : Int32 → MSt → Prop} (hp : PI n kd D T) (hr : RI n kd D T f a) (hw : w ≤ 1) (h : ∀ a' B, Lay a a' → bestO n kd (numN D n) B → Q (nI (if w = 0 then topN n kd (dg n B) else B)) (f, g, a')) : w_X11_orderOf f g a (nI w) Q := by
  unfold w_X11_orderOf
  refine p_numberOf hp hr ?_
  intro X hX
  have hpw := pow_le4 hp.1
  have hs := hp.1.sz
  have hM := numN_lt hp.2.2.1 n
  have ht : ∀ N, topN n kd (dg n N) ≤ 243 := fun N => vl_le hp.1 (fun j _ => dg_le n N j) (by omega)
  have e7 : f 7 - 1 = nI (szN n - 1) := by rw [hr.2.1, show (1 : Int32) = nI 1 from rfl, pk_sub (by omega)]
  have key : ∀ e N a' x1 x2, N + e = 10 ^ n → Lay a a' → ((x1 = -1 ∧ x2 = -1 ∧ ∀ M, M < N → ¬ srtP n M (numN D n)) ∨ ∃ B, B < N ∧ x1 = nI B ∧ x2 = nI (topN n kd (dg n B)) ∧ srtP n B (numN D n) ∧ ∀ M, M < N → srtP n M (numN D n) → topN n kd (dg n M) < topN n kd (dg n B) ∨ (topN n kd (dg n M) = topN n kd (dg n B) ∧ B ≤ M)) → X x1 x2 (nI N) (f, g, a') := by
    intro e
    induction e with
    | zero =>
      intro N a' x1 x2 hN hla hc
      refine hX _ _ _ _ (p_rows (f := f) hp hr.1 (by omega) (fun e => ?_) (fun h9 => absurd h9 (by omega)))
      subst e
      rcases hc with ⟨r1, r2, hno⟩ | ⟨B, hB, r1, r2, hB1, hB2⟩
      · exact absurd (fun d _ => rfl) (hno _ hM)
      · subst r1 r2
        have hq := h a' B hla ⟨hB, hB1, hB2⟩
        refine ⟨fun hc => ?_, fun hc => ?_⟩
        · rw [show (0 : Int32) = nI 0 from rfl, nI_eq (by omega) (by omega)] at hc
          rw [if_neg hc] at hq; exact hq
        · rw [show (0 : Int32) = nI 0 from rfl, nI_eq (by omega) (by omega)] at hc
          rw [if_pos hc] at hq; exact hq
    | succ e ih =>
      intro N a' x1 x2 hN hla hc
      refine hX _ _ _ _ (p_rows (f := f) hp hr.1 (by omega) (fun h9 => absurd h9 (by omega)) (fun hlt => ?_))
      refine p_isSorted hp.1 hr.1 hlt hM ?_
      intro J hJ
      by_cases hsn : srtP n N (numN D n)
      · rw [if_pos (srtB_P.mpr hsn)]
        refine ⟨fun h9 => absurd h9 (by decide), fun _ => ?_⟩
        refine p_layNumber hp (hr.lay hla) hlt (fun a2 hl2 h14 h13 => ?_)
        have htN := ht N
        have ev : a2 13 (f 7 - 1).toNatClampNeg = nI (topN n kd (dg n N)) := by rw [e7, nI_clamp (by omega), h13 _ (by omega)]; rfl
        have hin : vp_in (f 7 - 1) 10 := by rw [e7]; exact vp_in_nI (by omega) (by omega)
        refine ⟨hin, fun J22 hJ22 => ?_⟩
        have same : (∃ B, x1 = nI B ∧ x2 = nI (topN n kd (dg n B)) ∧ B < N ∧ topN n kd (dg n N) ≤ topN n kd (dg n B)) → J x1 x2 (f, g, a2) := by
          rintro ⟨B, q1, q2, q3, q4⟩
          refine hJ _ _ _ (fun x17 e17 => ?_)
          rw [e17, nI_1]
          refine ih (N + 1) a2 x1 x2 (by omega) (hla.trans hl2) (Or.inr ?_)
          rcases hc with ⟨r1, r2, hno⟩ | ⟨B', hB, r1, r2, hB1, hB2⟩
          · exfalso
            rw [r1] at q1
            have := nI_pos (n := B) (by omega)
            rw [← q1] at this
            exact this (by decide)
          · rw [r1, nI_eq (by omega) (by omega)] at q1
            subst q1
            refine ⟨B', by omega, r1, r2, hB1, fun M hM1 hM2 => ?_⟩
            rcases Nat.lt_or_ge M N with h9 | h9
            · exact hB2 M h9 hM2
            · rw [show M = N by omega]
              omega
        have new : (∀ B, x2 = nI (topN n kd (dg n B)) → topN n kd (dg n B) < topN n kd (dg n N)) → J (nI N) (nI (topN n kd (dg n N))) (f, g, a2) := by
          intro hnew
          refine hJ _ _ _ (fun x17 e17 => ?_)
          rw [e17, nI_1]
          refine ih (N + 1) a2 _ _ (by omega) (hla.trans hl2) (Or.inr ⟨N, by omega, rfl, rfl, hsn, fun M hM1 hM2 => ?_⟩)
          rcases Nat.lt_or_ge M N with h9 | h9
          · left
            rcases hc with ⟨r1, r2, hno⟩ | ⟨B', hB, r1, r2, hB1, hB2⟩
            · exact absurd hM2 (hno M h9)
            · have := hnew B' r2
              rcases hB2 M h9 hM2 with h8 | h8 <;> omega
          · rw [show M = N by omega]
            exact Or.inr ⟨rfl, Nat.le_refl _⟩
        have dec : (nI (topN n kd (dg n N)) ≤ x2 → ∃ B, x1 = nI B ∧ x2 = nI (topN n kd (dg n B)) ∧ B < N ∧ topN n kd (dg n N) ≤ topN n kd (dg n B)) ∧ (¬ nI (topN n kd (dg n N)) ≤ x2 → ∀ B, x2 = nI (topN n kd (dg n B)) → topN n kd (dg n B) < topN n kd (dg n N)) := by
          refine ⟨fun hle => ?_, fun hgt B hB => ?_⟩
          · rcases hc with ⟨r1, r2, hno⟩ | ⟨B', hB, r1, r2, hB1, hB2⟩
            · rw [r2] at hle
              have h8 := nI_pos' (n := topN n kd (dg n N)) (by omega)
              rw [Int32.le_iff_toInt_le] at hle h8
              have e1 : (-1 : Int32).toInt = -1 := by decide
              have e0 : (0 : Int32).toInt = 0 := by decide
              omega
            · have := ht B'
              rw [r2, nI_leI (by omega) (by omega)] at hle
              exact ⟨B', r1, r2, hB, hle⟩
          · have := ht B
            rw [hB, nI_leI (by omega) (by omega)] at hgt
            omega
        have cont : ∀ x21 : Int32, (nI (topN n kd (dg n N)) ≤ x2 → x21 = x1) → (¬ nI (topN n kd (dg n N)) ≤ x2 → x21 = nI N) → J22 x21 := by
          intro x21 c1 c2
          refine hJ22 _ ⟨hin, fun J25 hJ25 => ?_⟩
          show (a2 13 (f 7 - 1).toNatClampNeg ≤ x2 → J25 x2) ∧ (¬ (a2 13 (f 7 - 1).toNatClampNeg ≤ x2) → vp_in (f 7 - 1) 10 ∧ J25 (a2 13 (f 7 - 1).toNatClampNeg))
          rw [ev]
          exact ⟨fun h9 => hJ25 _ (by rw [c1 h9]; exact same (dec.1 h9)), fun h9 => ⟨hin, hJ25 _ (by rw [c2 h9]; exact new (dec.2 h9))⟩⟩
        show (a2 13 (f 7 - 1).toNatClampNeg ≤ x2 → J22 x1) ∧ (¬ (a2 13 (f 7 - 1).toNatClampNeg ≤ x2) → J22 (nI N))
        rw [ev]
        exact ⟨fun h9 => cont _ (fun _ => rfl) (fun h8 => absurd h9 h8), fun h9 => cont _ (fun h8 => absurd h8 h9) (fun _ => rfl)⟩
      · rw [if_neg (fun h9 => hsn (srtB_P.mp h9))]
        refine ⟨fun _ => hJ _ _ _ (fun x17 e17 => ?_), fun h9 => absurd rfl h9⟩
        rw [e17, nI_1]
        refine ih (N + 1) a' x1 x2 (by omega) hla ?_
        rcases hc with ⟨r1, r2, hno⟩ | ⟨B', hB, r1, r2, hB1, hB2⟩
        · refine Or.inl ⟨r1, r2, fun M hM1 => ?_⟩
          rcases Nat.lt_or_ge M N with h9 | h9
          · exact hno M h9
          · rw [show M = N by omega]; exact hsn
        · refine Or.inr ⟨B', by omega, r1, r2, hB1, fun M hM1 hM2 => ?_⟩
          rcases Nat.lt_or_ge M N with h9 | h9
          · exact hB2 M h9 hM2
          · rw [show M = N by omega] at hM2; exact absurd hM2 hsn
  exact key (10 ^ n) 0 a _ _ (by omega) (Lay.refl a) (Or.inl ⟨rfl, rfl, fun M hM => by omega⟩)
