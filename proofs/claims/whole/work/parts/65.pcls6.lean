/-! ===== the class: the best order ===== -/
theorem cnt_rm {P P' : Nat → Bool} {i : Nat} (h : ∀ j, j ≠ i → P' j = P j) (h' : P' i = false) : ∀ n, i < n → cnt P n = cnt P' n + (if P i then 1 else 0) := by
  have same : ∀ m, m ≤ i → cnt P m = cnt P' m := fun m hm => cnt_cong (fun j hj => (h j (by omega)).symm)
  intro n
  induction n with
  | zero => intro hn; omega
  | succ n ih =>
    intro hn
    rw [cnt_succ, cnt_succ]
    by_cases he : n = i
    · subst he
      rw [same n (Nat.le_refl _), h']
      rfl
    · rw [ih (by omega), h n he]
      omega
theorem cnt_ex {P : Nat → Bool} : ∀ n, cnt P n ≠ 0 → ∃ i, i < n ∧ P i = true := by
  intro n
  induction n with
  | zero => intro h; exact absurd rfl h
  | succ n ih =>
    intro h
    cases hp : P n with
    | true => exact ⟨n, by omega, hp⟩
    | false =>
      rw [cnt_succ, hp] at h
      obtain ⟨i, h1, h2⟩ := ih (by simpa using h)
      exact ⟨i, by omega, h2⟩
/-- y has, from p on, the figures of D that aren't used, each once -/
def arrP (n : Nat) (D : Nat → Nat) : Nat → (Nat → Bool) → Nat → (Nat → Nat) → Prop
  | 0, _, _, _ => True
  | m + 1, U, p, y => ∃ i, i < n ∧ U i = false ∧ y p = D i ∧ arrP n D m (va_up U i true) (p + 1) y
theorem unused_rm {n i : Nat} {U : Nat → Bool} (hi : i < n) (hU : U i = false) : cnt (fun j => !U j) n = cnt (fun j => !(va_up U i true) j) n + 1 := by
  have := cnt_rm (P := fun j => !U j) (P' := fun j => !(va_up U i true) j) (i := i) (fun j hj => by simp only [va_up_ne _ _ hj]) (by simp only [va_up_self]; rfl) n hi
  rw [this, hU]
  rfl
theorem arr_cnt {n : Nat} {D y : Nat → Nat} : ∀ m U p, p + m = n → cnt (fun i => !U i) n = m → (arrP n D m U p y ↔ ∀ d, cnt (fun j => decide (p ≤ j) && decide (y j = d)) n = cnt (fun i => !U i && decide (D i = d)) n) := by
  intro m
  induction m with
  | zero =>
    intro U p hp hU
    refine ⟨fun _ d => ?_, fun _ => trivial⟩
    have h1 : cnt (fun i => !U i && decide (D i = d)) n ≤ cnt (fun i => !U i) n := cnt_and_le _ _ _
    have h2 : cnt (fun j => decide (p ≤ j) && decide (y j = d)) n = 0 := by
      rcases Nat.eq_zero_or_pos (cnt (fun j => decide (p ≤ j) && decide (y j = d)) n) with h9 | h9
      · exact h9
      · obtain ⟨i, hi, hi2⟩ := cnt_ex n (Nat.ne_of_gt h9)
        simp at hi2
        omega
    omega
  | succ m ih =>
    intro U p hp hU
    have hleft : ∀ d, cnt (fun j => decide (p ≤ j) && decide (y j = d)) n = cnt (fun j => decide (p + 1 ≤ j) && decide (y j = d)) n + (if y p = d then 1 else 0) := fun d => by
      have := cnt_rm (P := fun j => decide (p ≤ j) && decide (y j = d)) (P' := fun j => decide (p + 1 ≤ j) && decide (y j = d)) (i := p) (fun j hj => by
        congr 1
        exact decide_eq_decide.mpr (by omega)) (by simp; intro h9; omega) n (by omega)
      rw [this]
      simp
    have hright : ∀ i, i < n → U i = false → ∀ d, cnt (fun i => !U i && decide (D i = d)) n = cnt (fun j => !(va_up U i true) j && decide (D j = d)) n + (if D i = d then 1 else 0) := fun i hi hUi d => by
      have := cnt_rm (P := fun i => !U i && decide (D i = d)) (P' := fun j => !(va_up U i true) j && decide (D j = d)) (i := i) (fun j hj => by simp only [va_up_ne _ _ hj]) (by simp only [va_up_self]; rfl) n hi
      rw [this]
      simp [hUi]
    constructor
    · rintro ⟨i, hi, hUi, hy, hr⟩ d
      have h9 := unused_rm hi hUi
      have := (ih (va_up U i true) (p + 1) (by omega) (by omega)).mp hr d
      rw [hleft, hright i hi hUi, this, hy]
    · intro h
      have h0 := h (y p)
      rw [hleft, if_pos rfl] at h0
      obtain ⟨i, hi, hi2⟩ := cnt_ex n (show cnt (fun i => !U i && decide (D i = y p)) n ≠ 0 by omega)
      simp at hi2
      have h9 := unused_rm hi hi2.1
      refine ⟨i, hi, hi2.1, hi2.2.symm, (ih (va_up U i true) (p + 1) (by omega) (by omega)).mpr (fun d => ?_)⟩
      have h1 := h d
      rw [hleft, hright i hi hi2.1, hi2.2] at h1
      omega
theorem cnt_rev {g : Nat → Bool} {n : Nat} (hn : okN n) : cnt g n = cnt (fun j => g (n - 1 - j)) n := by
  rcases hn with rfl | rfl | rfl
  · show 0 + (if g 0 then 1 else 0) + (if g 1 then 1 else 0) = 0 + (if g 1 then 1 else 0) + (if g 0 then 1 else 0)
    omega
  · show 0 + (if g 0 then 1 else 0) + (if g 1 then 1 else 0) + (if g 2 then 1 else 0) = 0 + (if g 2 then 1 else 0) + (if g 1 then 1 else 0) + (if g 0 then 1 else 0)
    omega
  · show 0 + (if g 0 then 1 else 0) + (if g 1 then 1 else 0) + (if g 2 then 1 else 0) + (if g 3 then 1 else 0) = 0 + (if g 3 then 1 else 0) + (if g 2 then 1 else 0) + (if g 1 then 1 else 0) + (if g 0 then 1 else 0)
    omega
theorem dct_cnt0 {N d : Nat} : ∀ n, dct N d n = cnt (fun i => decide (N / 10 ^ i % 10 = d)) n
  | 0 => rfl
  | n + 1 => by
    rw [cnt_succ, ← dct_cnt0 n]
    show dct N d n + _ = _
    congr 1
    by_cases h : N / 10 ^ n % 10 = d
    · rw [if_pos h, if_pos (decide_eq_true h)]
    · rw [if_neg h, if_neg (by simpa using h)]
theorem dct_cnt {n N d : Nat} (hn : okN n) : dct N d n = cnt (fun j => decide (dg n N j = d)) n := by
  rw [dct_cnt0, cnt_rev hn]
  rfl
theorem cnt_zero {P : Nat → Bool} {n : Nat} (h : ∀ i, i < n → P i = false) : cnt P n = 0 := by
  rw [cnt_same (M := 0) n (Nat.zero_le _) (fun N' _ h2 => h N' h2)]
  rfl
theorem dg_num {n : Nat} {y : Nat → Nat} (hn : okN n) (hy : ∀ i, y i ≤ 9) : ∀ j, j < n → dg n (numN y n) j = y j := by
  have hl := hn.le
  intro j hj
  exact dg_pre (p := n - 1) hy (by omega) (by rw [show n - 1 - (n - 1) = 0 by omega, Nat.pow_zero, Nat.div_one, show n - 1 + 1 = n by omega]) j (by omega)
theorem arr_srt {n : Nat} {D y : Nat → Nat} (hn : okN n) (hD : ∀ i, D i ≤ 9) (hy : ∀ i, y i ≤ 9) : arrP n D n (fun _ => false) 0 y ↔ srtP n (numN y n) (numN D n) := by
  have hcn : cnt (fun i => !(fun _ : Nat => false) i) n = n := by
    have : ∀ m, cnt (fun i => !(fun _ : Nat => false) i) m = m := by
      intro m
      induction m with
      | zero => rfl
      | succ m ih => rw [cnt_succ, ih]; rfl
    exact this n
  rw [arr_cnt n (fun _ => false) 0 (by omega) hcn]
  have e1 : ∀ d, cnt (fun j => decide (0 ≤ j) && decide (y j = d)) n = dct (numN y n) d n := fun d => by
    rw [dct_cnt hn]
    exact cnt_cong (fun j hj => by rw [dg_num hn hy j hj]; simp)
  have e2 : ∀ d, cnt (fun i => !(fun _ : Nat => false) i && decide (D i = d)) n = dct (numN D n) d n := fun d => by
    rw [dct_cnt hn]
    exact cnt_cong (fun j hj => by rw [dg_num hn hD j hj]; simp)
  unfold srtP
  constructor
  · intro h d _
    rw [← e1, ← e2]; exact h d
  · intro h d
    by_cases hd : d < 10
    · rw [e1, e2]; exact h d hd
    · rw [cnt_zero (fun i _ => by have := hy i; simp; omega), cnt_zero (fun i _ => by have := hD i; simp; omega)]
def keyO (n : Nat) (kd y : Nat → Nat) : Nat := topN n kd y * 10000 + 9999 - numN y n
/-- the class's search, its own call left open -/
def bLF (R : (Nat → Nat → Int32) → Int32 → Int32 → (Int32 → (Nat → Nat → Int32) → Prop) → Prop) (n k : Nat) (q : Nat → Nat) (f : Nat → Int32) (t : Nat) (a : Nat → Nat → Int32) (b : Nat → Nat → Int32) (sg : Nat → Nat → Option Nat) (sL : List Nat) (sf : Nat → Nat → Int32) (p1 p2 : Int32) (Q : Int32 → (Nat → Nat → Int32) → Prop) : Prop := (((p1 < (nI n)) → (∀ X5 : Int32 → Int32 → (Nat → Nat → Int32) → Prop, (∀ (x2 : Int32) (x3 : Int32) (av4 : (Nat → Nat → Int32)), (((((nI n) ≤ x3) → Q x2 av4) ∧ (¬ ((nI n) ≤ x3) → ∀ J9 : Int32 → (Nat → Nat → Int32) → Prop, (∀ (x7 : Int32) (av8 : (Nat → Nat → Int32)), (∀ x10 : Int32, x10 = x3 + (1 : Int32) → X5 x7 x10 av8) → J9 x7 av8) → (((¬ ((p2 >>> (x3 &&& 31)) &&& (1 : Int32)) = 0) → J9 x2 av4) ∧ (((p2 >>> (x3 &&& 31)) &&& (1 : Int32)) = 0 → (vp_in x3 n) ∧ ∀ x14 : Int32, x14 = ((av4 1) x3.toNatClampNeg) → (vp_in p1 k) ∧ R (va_up av4 6 (upd (av4 6) p1.toNatClampNeg x14)) (p1 + (1 : Int32)) (p2 ||| ((1 : Int32) <<< (x3 &&& 31))) (fun (r16 : Int32) (u15 : ((Nat → Nat → Int32))) => ∀ x17 : Int32, x17 = (if x2 < r16 then r16 else x2) → J9 x17 u15)))))) → X5 x2 x3 av4) → X5 (0 : Int32) (0 : Int32) a)) ∧ (¬ (p1 < (nI n)) → w_X5_raise_g n k q f t a b sg sL sf  (fun (u18 : ((Nat → Nat → Int32))) => w_X5_guessedTop n k q f t u18 b sg sL sf  (fun (r20 : Int32) (u19 : Unit) => w_X10_asNumber k (u18 6)  (nI n) (fun (r22 : Int32) (u21 : Unit) => Q ((((r20 * (10000 : Int32)) + (10000 : Int32)) - (1 : Int32)) - r22) u18)))))
/-- what the search gives with m places left -/
def bSpec (n : Nat) (kd D : Nat → Nat) (b : Nat → Nat → Int32) (R : (Nat → Nat → Int32) → Int32 → Int32 → (Int32 → (Nat → Nat → Int32) → Prop) → Prop) (m : Nat) : Prop :=
  ∀ (p : Nat) (U : Nat → Bool) (y0 : Nat → Nat) (a : Nat → Nat → Int32) (Q : Int32 → (Nat → Nat → Int32) → Prop), p + m = n → cnt (fun i => !U i) n = m → (∀ j, y0 j ≤ 9) → (∀ j, j < p → a 6 j = nI (y0 j)) → (∀ i, i < n → a 1 i = nI (D i)) → CB n kd a b →
    (∀ r v, (∀ j, j < p → v j = nI (y0 j)) → (∃ y, (∀ j, j < p → y j = y0 j) ∧ (∀ j, y j ≤ 9) ∧ arrP n D m U p y ∧ r = keyO n kd y) → (∀ y, (∀ j, j < p → y j = y0 j) → (∀ j, y j ≤ 9) → arrP n D m U p y → keyO n kd y ≤ r) → Q (nI r) (va_up a 6 v)) → R a (nI p) (nI (bitsN U 5)) Q
theorem keyO_cong {n : Nat} {kd x y : Nat → Nat} (hn : okN n) (h : ∀ j, j < n → x j = y j) : keyO n kd x = keyO n kd y := by
  have hs := hn.sz
  unfold keyO topN
  rw [vl_cong hn h _ (by omega), numN_cong n h]
theorem keyO_le {n : Nat} {kd y : Nat → Nat} (hn : okN n) (hy : ∀ j, y j ≤ 9) : keyO n kd y ≤ 2439999 ∧ numN y n ≤ 9999 ∧ topN n kd y ≤ 243 := by
  have hs := hn.sz
  have h1 : topN n kd y ≤ 243 := vl_le hn (fun j _ => hy j) (by omega)
  have h2 := numN_lt hy n
  have h3 := pow_le4 hn
  refine ⟨?_, by omega, h1⟩
  show topN n kd y * 10000 + 9999 - numN y n ≤ 2439999
  omega
section PO
variable {n : Nat} {q : Nat → Nat} {f : Nat → Int32} {t : Nat} {b : Nat → Nat → Int32} {sg : Nat → Nat → Option Nat} {sL : List Nat} {sf : Nat → Nat → Int32} {kd D : Nat → Nat}
variable {R : (Nat → Nat → Int32) → Int32 → Int32 → (Int32 → (Nat → Nat → Int32) → Prop) → Prop}
theorem best_leaf (hn : okN n) (hk : ∀ i, kd i < 5) : bSpec n kd D b (fun a p1 p2 Q => bLF R n (szN n) q f t a b sg sL sf p1 p2 Q) 0 := by
  intro p U y0 a Q hp hU hy0 ha6 ha1 hb h
  have hl := hn.le
  have hs := hn.sz
  have hpn : p = n := by omega
  subst hpn
  show bLF R p (szN p) q f t a b sg sL sf (nI p) (nI (bitsN U 5)) Q
  unfold bLF
  refine ⟨fun hc => ?_, fun _ => ?_⟩
  · rw [nI_ltI (by omega) (by omega)] at hc
    exact absurd hc (Nat.lt_irrefl _)
  · refine k_raise_g (kd := kd) (x := y0) hn hk hy0 hb ha6 (fun v hv => ?_)
    refine k_guessedTop (kd := kd) (x := y0) hn (fun i hi => by rw [va_up_self]; exact hv i hi) ?_
    refine k_asNumber (D := y0) (by omega) (by omega) (fun i hi => by rw [va_up_self, hv i (by omega), vl_low hi]) ?_
    have hkl := keyO_le (kd := kd) hn hy0
    rw [show (10000 : Int32) = nI 10000 from rfl, pk_mul, nI_add, show (1 : Int32) = nI 1 from rfl, pk_sub (by omega), pk_sub (by omega), show topN p kd y0 * 10000 + 10000 - 1 - numN y0 p = keyO p kd y0 by unfold keyO; omega]
    refine h _ v (fun j hj => by rw [hv j (by omega), vl_low hj]) ⟨y0, fun _ _ => rfl, hy0, trivial, rfl⟩ (fun y hy _ _ => ?_)
    rw [keyO_cong hn hy]
    exact Nat.le_refl _
theorem or_new : ∀ B, B < 32 → ∀ j, j < 5 → B / 2 ^ j % 2 = 0 → nI B ||| ((1 : Int32) <<< (nI j &&& 31)) = nI (B + 2 ^ j) := by decide +kernel
theorem bits_up {U : Nat → Bool} {j : Nat} (hj : j < 5) (hU : U j = false) : bitsN (va_up U j true) 5 = bitsN U 5 + 2 ^ j := by
  rcases (show j = 0 ∨ j = 1 ∨ j = 2 ∨ j = 3 ∨ j = 4 by omega) with rfl | rfl | rfl | rfl | rfl <;> simp [bitsN, va_up, hU] <;> omega
theorem best_step {m : Nat} (hn : okN n) (hD : ∀ i, D i ≤ 9) (hR : bSpec n kd D b R m) : bSpec n kd D b (fun a p1 p2 Q => bLF R n (szN n) q f t a b sg sL sf p1 p2 Q) (m + 1) := by
  intro p U y0 a Q hp hU hy0 ha6 ha1 hb h
  have hl := hn.le
  have hs := hn.sz
  show bLF R n (szN n) q f t a b sg sL sf (nI p) (nI (bitsN U 5)) Q
  unfold bLF
  refine ⟨fun _ X hX => ?_, fun hc => absurd ((nI_ltI (by omega) (by omega)).mpr (by omega)) hc⟩
  have hB := bitsN_lt U 5
  have key : ∀ d i r v, i + d = n → r ≤ 2439999 → (∀ j, j < p → v j = nI (y0 j)) → (∀ y i', i' < i → U i' = false → y p = D i' → (∀ j, j < p → y j = y0 j) → (∀ j, y j ≤ 9) → arrP n D m (va_up U i' true) (p + 1) y → keyO n kd y ≤ r) → (r = 0 ∨ ∃ y, (∀ j, j < p → y j = y0 j) ∧ (∀ j, y j ≤ 9) ∧ arrP n D (m + 1) U p y ∧ r = keyO n kd y) → ((∃ i', i' < i ∧ U i' = false) → ∃ y, (∀ j, j < p → y j = y0 j) ∧ (∀ j, y j ≤ 9) ∧ arrP n D (m + 1) U p y) → X (nI r) (nI i) (va_up a 6 v) := by
    intro d
    induction d with
    | zero =>
      intro i r v hi hr hv c1 c2 c3
      have hin : i = n := by omega
      subst hin
      refine hX _ _ _ (pk_le i i (fun _ => ?_) (fun _ => by omega))
      have hall : ∀ y, (∀ j, j < p → y j = y0 j) → (∀ j, y j ≤ 9) → arrP i D (m + 1) U p y → keyO i kd y ≤ r := by
        rintro y hy hy9 ⟨i', h1, h2, h3, h4⟩
        exact c1 y i' h1 h2 h3 hy hy9 h4
      refine h r v hv ?_ hall
      rcases c2 with c2 | c2
      · obtain ⟨i', h1, h2⟩ := cnt_ex i (show cnt (fun i => !U i) i ≠ 0 by omega)
        obtain ⟨y, g1, g2, g3⟩ := c3 ⟨i', h1, by simpa using h2⟩
        refine ⟨y, g1, g2, g3, ?_⟩
        have := hall y g1 g2 g3
        omega
      · exact c2
    | succ d ih =>
      intro i r v hi hr hv c1 c2 c3
      refine hX _ _ _ (pk_le n i (fun _ => by omega) (fun _ J9 hJ9 => ?_))
      rw [shr_bit _ hB i (by omega), bits_at U i (by omega)]
      cases hUi : U i with
      | true =>
        refine ⟨fun _ => hJ9 _ _ (fun x10 e10 => ?_), fun hc => absurd hc (by decide)⟩
        rw [e10, nI_1]
        refine ih (i + 1) r v (by omega) hr hv (fun y i' h1 h2 => ?_) c2 (fun ⟨i', h1, h2⟩ => ?_)
        · by_cases hii : i' = i
          · subst hii; rw [hUi] at h2; cases h2
          · exact c1 y i' (by omega) h2
        · by_cases hii : i' = i
          · subst hii; rw [hUi] at h2; cases h2
          · exact c3 ⟨i', by omega, h2⟩
      | false =>
        refine ⟨fun hc => absurd rfl hc, fun _ => ⟨vp_in_nI (by omega) (by omega), fun x14 e14 => ⟨vp_in_nI (by omega) (by omega), ?_⟩⟩⟩
        rw [nI_clamp (show i < 2 ^ 31 by omega), va_up_ne a v (show (1 : Nat) ≠ 6 by decide), ha1 i (by omega)] at e14
        subst e14
        have hbi : bitsN U 5 / 2 ^ i % 2 = 0 := by rw [bits_at U i (by omega), hUi]; rfl
        rw [or_new _ hB i (by omega) hbi, ← bits_up (by omega) hUi, nI_1, nI_clamp (show p < 2 ^ 31 by omega), va_up_up, va_up_self]
        have hrm := unused_rm (show i < n by omega) hUi
        have hy1 : ∀ j, va_up y0 p (D i) j ≤ 9 := fun j => by
          by_cases hjp : j = p
          · subst hjp; rw [va_up_self]; exact hD i
          · rw [va_up_ne _ _ hjp]; exact hy0 j
        refine hR (p + 1) (va_up U i true) (va_up y0 p (D i)) _ _ (by omega) (by omega) hy1 (fun j hj => ?_) (fun j hj => by rw [va_up_ne _ _ (by decide)]; exact ha1 j hj) ⟨fun j h1 h2 => by rw [va_up_ne _ _ (by decide)]; exact hb.1 j h1 h2, hb.2⟩ (fun r1 v1 hv1 hex hall x17 e17 => ?_)
        · rw [va_up_self]
          by_cases hjp : j = p
          · subst hjp; rw [pk_us, va_up_self]
          · rw [pk_un hjp, va_up_ne _ _ hjp]; exact hv j (by omega)
        · obtain ⟨y1, g1, g2, g3, g4⟩ := hex
          have hy1p : y1 p = D i := by rw [g1 p (by omega), va_up_self]
          have hy1l : ∀ j, j < p → y1 j = y0 j := fun j hj => by rw [g1 j (by omega), va_up_ne _ _ (by omega)]
          have har : arrP n D (m + 1) U p y1 := ⟨i, by omega, hUi, hy1p, g3⟩
          have hk1 := (keyO_le (kd := kd) hn g2).1
          have hmx : x17 = nI (max r r1) := by
            rw [e17]
            by_cases hlt : r < r1
            · rw [if_pos ((nI_ltI (by omega) (by omega)).mpr hlt), show max r r1 = r1 by omega]
            · rw [if_neg (fun h9 => hlt ((nI_ltI (by omega) (by omega)).mp h9)), show max r r1 = r by omega]
          rw [hmx, va_up_up]
          refine hJ9 _ _ (fun x10 e10 => ?_)
          rw [e10, nI_1]
          refine ih (i + 1) (max r r1) v1 (by omega) (by omega) (fun j hj => ?_) (fun y i' h1 h2 h3 h4 h5 h6 => ?_) ?_ (fun _ => ⟨y1, hy1l, g2, har⟩)
          · rw [hv1 j (by omega), va_up_ne _ _ (by omega)]
          · by_cases hii : i' = i
            · subst hii
              have := hall y (fun j hj => by
                by_cases hjp : j = p
                · subst hjp; rw [va_up_self]; exact h3
                · rw [va_up_ne _ _ hjp]; exact h4 j (by omega)) h5 h6
              omega
            · have := c1 y i' (by omega) h2 h3 h4 h5 h6
              omega
          · by_cases hlt : r < r1
            · right
              exact ⟨y1, hy1l, g2, har, by omega⟩
            · rcases c2 with c2 | ⟨y, d1, d2, d3, d4⟩
              · left; omega
              · right
                exact ⟨y, d1, d2, d3, by omega⟩
  have := key n 0 0 (a 6) (by omega) (by omega) ha6 (fun y i' hi' => by omega) (Or.inl rfl) (fun ⟨i', hi', _⟩ => by omega)
  rw [va_up_id] at this
  exact this
theorem best_5 (hn : okN n) (hk : ∀ i, kd i < 5) (hD : ∀ i, D i ≤ 9) : bSpec n kd D b (fun a p1 p2 Q => w_X5_bestLaid_5 n (szN n) q f t a b sg sL sf p1 p2 Q) n := by
  have l1 : bSpec n kd D b (fun a p1 p2 Q => w_X5_bestLaid_1 n (szN n) q f t a b sg sL sf p1 p2 Q) 0 := best_leaf (R := fun a p1 p2 Q => w_X5_bestLaid_0 n (szN n) q f t a b sg sL sf p1 p2 Q) hn hk
  have l2 : bSpec n kd D b (fun a p1 p2 Q => w_X5_bestLaid_2 n (szN n) q f t a b sg sL sf p1 p2 Q) 0 := best_leaf (R := fun a p1 p2 Q => w_X5_bestLaid_1 n (szN n) q f t a b sg sL sf p1 p2 Q) hn hk
  have l3 : bSpec n kd D b (fun a p1 p2 Q => w_X5_bestLaid_3 n (szN n) q f t a b sg sL sf p1 p2 Q) 0 := best_leaf (R := fun a p1 p2 Q => w_X5_bestLaid_2 n (szN n) q f t a b sg sL sf p1 p2 Q) hn hk
  have s2 : ∀ m, bSpec n kd D b (fun a p1 p2 Q => w_X5_bestLaid_1 n (szN n) q f t a b sg sL sf p1 p2 Q) m → bSpec n kd D b (fun a p1 p2 Q => w_X5_bestLaid_2 n (szN n) q f t a b sg sL sf p1 p2 Q) (m + 1) := fun m h => best_step hn hD h
  have s3 : ∀ m, bSpec n kd D b (fun a p1 p2 Q => w_X5_bestLaid_2 n (szN n) q f t a b sg sL sf p1 p2 Q) m → bSpec n kd D b (fun a p1 p2 Q => w_X5_bestLaid_3 n (szN n) q f t a b sg sL sf p1 p2 Q) (m + 1) := fun m h => best_step hn hD h
  have s4 : ∀ m, bSpec n kd D b (fun a p1 p2 Q => w_X5_bestLaid_3 n (szN n) q f t a b sg sL sf p1 p2 Q) m → bSpec n kd D b (fun a p1 p2 Q => w_X5_bestLaid_4 n (szN n) q f t a b sg sL sf p1 p2 Q) (m + 1) := fun m h => best_step hn hD h
  have s5 : ∀ m, bSpec n kd D b (fun a p1 p2 Q => w_X5_bestLaid_4 n (szN n) q f t a b sg sL sf p1 p2 Q) m → bSpec n kd D b (fun a p1 p2 Q => w_X5_bestLaid_5 n (szN n) q f t a b sg sL sf p1 p2 Q) (m + 1) := fun m h => best_step hn hD h
  have c2 : n = 2 → bSpec n kd D b (fun a p1 p2 Q => w_X5_bestLaid_5 n (szN n) q f t a b sg sL sf p1 p2 Q) 2 := fun _ => s5 1 (s4 0 l3)
  have c3 : n = 3 → bSpec n kd D b (fun a p1 p2 Q => w_X5_bestLaid_5 n (szN n) q f t a b sg sL sf p1 p2 Q) 3 := fun _ => s5 2 (s4 1 (s3 0 l2))
  have c4 : n = 4 → bSpec n kd D b (fun a p1 p2 Q => w_X5_bestLaid_5 n (szN n) q f t a b sg sL sf p1 p2 Q) 4 := fun _ => s5 3 (s4 2 (s3 1 (s2 0 l1)))
  rcases hn with h | h | h
  · have := c2 h; subst h; exact this
  · have := c3 h; subst h; exact this
  · have := c4 h; subst h; exact this
theorem k_best {a : Nat → Nat → Int32} {Q : Int32 → (Nat → Nat → Int32) → Prop} (hn : okN n) (hk : ∀ i, kd i < 5) (hD : ∀ i, D i ≤ 9) (hb : CB n kd a b) (ha1 : ∀ i, i < n → a 1 i = nI (D i)) (h : ∀ v B, bestO n kd (numN D n) B → Q (nI (topN n kd (dg n B) * 10000 + 9999 - B)) (va_up a 6 v)) : w_X5_bestLaid_5 n (szN n) q f t a b sg sL sf 0 0 Q := by
  have hs := hn.sz
  have hcn : ∀ m, cnt (fun i => !(fun _ : Nat => false) i) m = m := by
    intro m
    induction m with
    | zero => rfl
    | succ m ih => rw [cnt_succ, ih]; rfl
  refine best_5 hn hk hD 0 (fun _ => false) (fun _ => 0) a Q (by omega) (hcn n) (fun _ => Nat.zero_le _) (fun j hj => by omega) ha1 hb (fun r v _ hex hall => ?_)
  obtain ⟨y, -, hy9, har, hr⟩ := hex
  have hdy := dg_num hn hy9
  have htop : topN n kd (dg n (numN y n)) = topN n kd y := vl_cong hn hdy _ (by omega)
  have hky := keyO_le (kd := kd) hn hy9
  have := h v (numN y n) ⟨numN_lt hy9 n, (arr_srt hn hD hy9).mp har, fun N hN hsr => ?_⟩
  · rw [htop] at this
    rw [hr]; exact this
  · have hNn := numN_dgn hN
    have g1 := hall (dg n N) (fun j hj => by omega) (dg_le n N) ((arr_srt hn hD (dg_le n N)).mpr (by rw [hNn]; exact hsr))
    have g2 := keyO_le (kd := kd) hn (dg_le n N)
    rw [hr] at g1
    unfold keyO at g1
    rw [hNn] at g1 g2
    rw [htop]
    omega
theorem bestO_uniq {M B B' : Nat} (h : bestO n kd M B) (h' : bestO n kd M B') : B = B' := by
  have g1 := h.2.2 B' h'.1 h'.2.1
  have g2 := h'.2.2 B h.1 h.2.1
  omega
theorem nearest_uniq {v B B' : Nat} (h : nearest n kd D v B) (h' : nearest n kd D v B') : B = B' := by
  have g1 := h.2.2 B' h'.1 h'.2.1
  have g2 := h'.2.2 B h.1 h.2.1
  omega
end PO
