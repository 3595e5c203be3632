/-! ===== the class at pure level: arguments, bricks, rows of numbers ===== -/
def outR (x : Int32) (a b : Nat) : Prop := ¬ ((a : Int) ≤ x.toInt ∧ x.toInt < (b : Int))
theorem arg_in (x : Int32) (a b : Nat) (hb : b < 2 ^ 31) : (∃ i, a ≤ i ∧ i < b ∧ x = nI i) ∨ outR x a b := by
  by_cases h : (a : Int) ≤ x.toInt ∧ x.toInt < (b : Int)
  · left
    refine ⟨x.toInt.toNat, by omega, by omega, ?_⟩
    apply Int32.toInt_inj.mp
    rw [nI_toInt (by omega)]
    omega
  · exact Or.inr h
theorem nI_sub1_toInt {n : Nat} (h : n < 2 ^ 30) : (nI n - 1).toInt = (n : Int) - 1 := pk_sub_toInt (b := 1) h (by decide)
theorem k_within {x lo hi : Int32} {a b : Int} {Q : Int32 → Prop} (ha : lo.toInt = a) (hb : hi.toInt = b) (h1 : a ≤ x.toInt → x.toInt ≤ b → Q 1) (h0 : ¬ (a ≤ x.toInt ∧ x.toInt ≤ b) → Q 0) : w_X10_isWithin x lo hi Q := by
  unfold w_X10_isWithin
  refine ⟨fun hc => ?_, fun hc => ⟨fun hd => ?_, fun hd => ?_⟩⟩
  · rw [Int32.lt_iff_toInt_lt] at hc
    exact h0 (by omega)
  · rw [Int32.lt_iff_toInt_lt] at hd
    exact h0 (by omega)
  · rw [Int32.lt_iff_toInt_lt] at hc hd
    exact h1 (by omega) (by omega)
theorem k_wy {i a b : Nat} {lo hi : Int32} {Q : Int32 → Prop} (hi1 : a ≤ i) (hi2 : i < b) (hb : b < 2 ^ 30) (hlo : lo.toInt = a) (hhi : hi.toInt = (b : Int) - 1) (h : Q 1) : w_X10_isWithin (nI i) lo hi Q :=
  k_within hlo hhi (fun _ _ => h) (fun hc => absurd (by rw [nI_toInt (by omega)]; omega) hc)
theorem k_wn {x : Int32} {a b : Nat} {lo hi : Int32} {Q : Int32 → Prop} (ho : outR x a b) (hlo : lo.toInt = a) (hhi : hi.toInt = (b : Int) - 1) (h : Q 0) : w_X10_isWithin x lo hi Q :=
  k_within hlo hhi (fun h1 h2 => absurd ⟨h1, by omega⟩ ho) (fun _ => h)
theorem k_dy {i : Nat} {Q : Int32 → Prop} (hi : i < 10) (h : Q 1) : w_X10_isDigit (nI i) Q := by
  unfold w_X10_isDigit
  exact k_wy (a := 0) (b := 10) (by omega) hi (by omega) rfl (by decide) ⟨Or.inr rfl, h⟩
theorem k_dn {x : Int32} {Q : Int32 → Prop} (ho : outR x 0 10) (h : Q 0) : w_X10_isDigit x Q := by
  unfold w_X10_isDigit
  exact k_wn (a := 0) (b := 10) ho rfl (by decide) ⟨Or.inl rfl, h⟩
theorem p_iny {i a b : Nat} {lo hi : Int64} {Q : Int32 → Prop} (hi1 : a ≤ i) (hi2 : i < b) (hb : b < 2 ^ 30) (hlo : lo.toInt = a) (hhi : hi.toInt = (b : Int) - 1) (h : Q 1) : w_X11_in (nI i).toInt64 lo hi Q :=
  p_in hlo hhi (fun _ _ => h) (fun hc => absurd (by rw [nI_toInt (by omega)]; omega) hc)
theorem p_inn {x : Int32} {a b : Nat} {lo hi : Int64} {Q : Int32 → Prop} (ho : outR x a b) (hlo : lo.toInt = a) (hhi : hi.toInt = (b : Int) - 1) (h : Q 0) : w_X11_in x.toInt64 lo hi Q :=
  p_in hlo hhi (fun h1 h2 => absurd ⟨h1, by omega⟩ ho) (fun _ => h)
theorem k_made {κ l r : Nat} {Q : Int32 → Prop} (hk : κ < 5) (hl : l < 2 ^ 28) (hr : r < 2 ^ 28) (h : Q (nI (mkN κ l r))) : wk_made κ (nI l) (nI r) Q := by
  unfold wk_made
  refine ⟨fun e => ?_, fun e => ?_, fun e => ?_, fun e => ?_, fun e => ?_⟩ <;> subst e
  · unfold w_X0_made
    rw [nI_add]; exact h
  · unfold w_X1_made
    have e1 : (nI l - nI r).toInt = (l : Int) - r := pk_sub_toInt (by omega) (by omega)
    have e0 : (0 : Int32).toInt = 0 := by decide
    by_cases hlr : r ≤ l
    · rw [if_pos (by rw [Int32.le_iff_toInt_le]; omega), pk_sub hlr]
      have : mkN 1 l r = l - r := by simp only [mkN]; split <;> first | omega | simp_all
      rw [this] at h; exact h
    · rw [if_neg (by rw [Int32.le_iff_toInt_le]; omega), show (0 : Int32) - (nI l - nI r) = nI r - nI l by grind, pk_sub (by omega)]
      have : mkN 1 l r = r - l := by simp only [mkN, if_true]; rw [if_pos (by omega)]
      rw [this] at h; exact h
  · unfold w_X3_made
    by_cases hlr : l < r
    · rw [if_pos ((nI_ltI (by omega) (by omega)).mpr hlr)]
      have : mkN 2 l r = r := by show (if l ≤ r then r else l) = r; rw [if_pos (by omega)]
      rw [this] at h; exact h
    · rw [if_neg (fun h9 => hlr ((nI_ltI (by omega) (by omega)).mp h9))]
      have : mkN 2 l r = l := by show (if l ≤ r then r else l) = l; split <;> omega
      rw [this] at h; exact h
  · unfold w_X9_made
    rw [show (2 : Int32) = nI 2 from rfl, pk_mul, nI_add]
    exact h
  · unfold w_X2_made w_X9_made
    show Q ((2 : Int32) * nI l + nI r - ((2 : Int32) * nI l + nI r) / (10 : Int32) * (10 : Int32))
    rw [show (2 : Int32) = nI 2 from rfl, pk_mul, nI_add, show (10 : Int32) = nI 10 from rfl, pk_rem (by omega) (by omega) (by omega)]
    exact h
theorem k_fill {m : Nat} {x : Nat → Int32} {v : Int32} {Q : (Nat → Int32) → Prop} (hm : m < 2 ^ 31) (h : ∀ z, (∀ i, i < m → z i = v) → (∀ i, m ≤ i → z i = x i) → Q z) : w_J7_fill_53178 m x v Q := by
  unfold w_J7_fill_53178
  intro x1 e1 X hX
  subst e1
  have key : ∀ d i z, i + d = m → (∀ j, j < i → z j = v) → (∀ j, i ≤ j → z j = x j) → X (nI i) z := by
    intro d
    induction d with
    | zero =>
      intro i z hi hz hz2
      exact hX _ _ (pk_le m i (fun _ => h z (fun j hj => hz j (by omega)) (fun j hj => hz2 j (by omega))) (fun _ => by omega))
    | succ d ih =>
      intro i z hi hz hz2
      refine hX _ _ (pk_le m i (fun _ => by omega) (fun _ => ⟨vp_in_nI (by omega) (by omega), fun x7 e7 => ?_⟩))
      rw [e7, nI_1, nI_clamp (by omega)]
      refine ih (i + 1) _ (by omega) (fun j hj => ?_) (fun j hj => ?_)
      · by_cases hji : j = i
        · subst hji; rw [pk_us]
        · rw [pk_un hji]; exact hz j (by omega)
      · rw [pk_un (by omega)]; exact hz2 j (by omega)
  exact key m 0 x (by omega) (fun j hj => by omega) (fun j _ => rfl)
theorem k_asNumber {m w : Nat} {x : Nat → Int32} {D : Nat → Nat} {Q : Int32 → Unit → Prop} (hm : m < 2 ^ 31) (hw : w ≤ m) (hx : ∀ i, i < w → x i = nI (D i)) (h : Q (nI (numN D w)) ()) : w_X10_asNumber m x (nI w) Q := by
  unfold w_X10_asNumber
  intro X hX
  have key : ∀ d i, i + d = w → X (nI (numN D i)) (nI i) := by
    intro d
    induction d with
    | zero =>
      intro i hi
      refine hX _ _ (pk_le w i (fun _ => ?_) (fun _ => by omega))
      rw [show i = w by omega]; exact h
    | succ d ih =>
      intro i hi
      refine hX _ _ (pk_le w i (fun _ => by omega) (fun _ => pk_le m i (fun _ => by omega) (fun _ => ⟨vp_in_nI (by omega) (by omega), fun x7 e7 x8 e8 => ?_⟩)))
      rw [e7, e8, nI_clamp (by omega), hx i (by omega), show (10 : Int32) = nI 10 from rfl, pk_mul, nI_add, nI_1, show numN D i * 10 + D i = numN D (i + 1) by show _ = 10 * numN D i + D i; omega]
      exact ih (i + 1) (by omega)
  exact key w 0 (by omega)
/-- where the tally's counts of brick i begin; how many they are -/
def bgN (n i : Nat) : Nat := ([[], [], [0, 10, 20, 48], [0, 10, 20, 30, 58, 86, 168], [0, 10, 20, 30, 40, 68, 96, 124, 206, 288, 532]].getD n []).getD i 0
/-- what is kept beside: where counts begin, what is wished -/
def BG (n : Nat) (b : Nat → Nat → Int32) : Prop := (∀ i, i < szN n → b 2 i = nI (bgN n i) ∧ b 2 (i + 1) = nI (bgN n (i + 1))) ∧ ∀ i, i + 1 < szN n → b 4 i = -1
theorem BG.cong {n : Nat} {b b' : Nat → Nat → Int32} (h : BG n b) (h2 : b' 2 = b 2) (h4 : b' 4 = b 4) : BG n b' := by
  unfold BG
  rw [h2, h4]
  exact h
theorem kAll_at {κ : Nat} (h : κ < 5) : kAll κ = some κ := if_pos h
/-- the kind that is kept by its number -/
theorem k_kind {κ : Nat} {z : Int32} {P : Nat → Prop} (hκ : κ < 5) (e : z = nI κ) (h : P κ) : (vp_in z (5)) ∧ ∃ kd : Nat, (kAll z.toNatClampNeg = some kd) ∧ (kd < 5) ∧ P kd := by
  subst e
  exact ⟨vp_in_nI hκ (by omega), κ, by rw [nI_clamp (by omega)]; exact kAll_at hκ, hκ, h⟩
/-- what the class makes of the rows of figures at c -/
def raiseF (n k c : Nat) (a : Nat → Nat → Int32) (b : Nat → Nat → Int32) (Q : (Nat → Nat → Int32) → Prop) : Prop := ∀ x1 : Int32, x1 = (nI n) → (∀ X4 : Int32 → (Nat → Nat → Int32) → Prop, (∀ (x2 : Int32) (av3 : (Nat → Nat → Int32)), (((((nI k) ≤ x2) → Q av3) ∧ (¬ ((nI k) ≤ x2) → (vp_in x2 k) ∧ ∀ x7 : Int32, x7 = ((av3 0) x2.toNatClampNeg) → (vp_in (x2 - (nI n)) (k - n)) ∧ (vp_in ((b 0) (x2 - (nI n)).toNatClampNeg) (5)) ∧ ∃ kd10 : Nat, (kAll ((b 0) (x2 - (nI n)).toNatClampNeg).toNatClampNeg = some kd10) ∧ (kd10 < 5) ∧ (vp_in x7 k) ∧ (vp_in (x7 + (1 : Int32)) k) ∧ wk_made kd10 ((av3 c) x7.toNatClampNeg) ((av3 c) (x7 + (1 : Int32)).toNatClampNeg) (fun (r13 : Int32) => (vp_in x2 k) ∧ ∀ x15 : Int32, x15 = x2 + (1 : Int32) → X4 x15 (va_up av3 c (upd (av3 c) x2.toNatClampNeg r13)))))) → X4 x2 av3) → X4 x1 a)
/-- the class's cells: which bricks are left below, of which kinds they are -/
def CB (n : Nat) (kd : Nat → Nat) (a : Nat → Nat → Int32) (b : Nat → Nat → Int32) : Prop := (∀ i, n ≤ i → i < szN n → a 0 i = nI (lfN n 0 i)) ∧ (∀ i, n ≤ i → i < szN n → b 0 (i - n) = nI (kd i)) ∧ BG n b
theorem k_raiseF {n c : Nat} {kd x : Nat → Nat} {a : Nat → Nat → Int32} {b : Nat → Nat → Int32} {Q : (Nat → Nat → Int32) → Prop} (hn : okN n) (hc0 : c ≠ 0) (hk : ∀ i, kd i < 5) (hx : ∀ i, x i ≤ 9) (hb : CB n kd a b) (h5 : ∀ i, i < n → a c i = nI (x i)) (h : ∀ v, (∀ i, i < szN n → v i = nI (vl n kd x i)) → Q (va_up a c v)) : raiseF n (szN n) c a b Q := by
  unfold raiseF
  intro x1 e1 X hX
  subst e1
  have hs := hn.sz
  have hl := hn.le
  have key : ∀ d i v, n ≤ i → i + d = szN n → (∀ j, j < i → v j = nI (vl n kd x j)) → X (nI i) (va_up a c v) := by
    intro d
    induction d with
    | zero =>
      intro i v hni hi hv
      exact hX _ _ (pk_le (szN n) i (fun _ => h v (fun j hj => hv j (by omega))) (fun _ => by omega))
    | succ d ih =>
      intro i v hni hi hv
      refine hX _ _ (pk_le (szN n) i (fun _ => by omega) (fun _ => ⟨vp_in_nI (by omega) (by omega), fun x7 e7 => ?_⟩))
      have hlt := lf_lt hn hni (by omega)
      rw [nI_clamp (by omega), va_up_ne _ _ (fun h9 => hc0 h9.symm), hb.1 i hni (by omega)] at e7
      subst e7
      have b1 := vl_le hn (kd := kd) (fun j _ => hx j) (i := lfN n 0 i) (by omega)
      have b2 := vl_le hn (kd := kd) (fun j _ => hx j) (i := lfN n 0 i + 1) (by omega)
      rw [pk_sub hni, nI_1, nI_clamp (show i - n < 2 ^ 31 by omega), nI_clamp (show lfN n 0 i < 2 ^ 31 by omega), nI_clamp (show lfN n 0 i + 1 < 2 ^ 31 by omega), nI_clamp (show i < 2 ^ 31 by omega), va_up_self, hv _ (by omega), hv _ (by omega)]
      refine ⟨vp_in_nI (by omega) (by omega), k_kind (hk i) (hb.2.1 i hni (by omega)) ⟨vp_in_nI (by omega) (by omega), vp_in_nI (by omega) (by omega), ?_⟩⟩
      refine k_made (hk i) (by omega) (by omega) ⟨vp_in_nI (by omega) (by omega), fun x14 e14 => ?_⟩
      rw [e14, nI_1, va_up_up, ← vl_up hn hni (by omega)]
      refine ih (i + 1) _ (by omega) (by omega) (fun j hj => ?_)
      by_cases hji : j = i
      · subst hji; rw [pk_us]
      · rw [pk_un hji]; exact hv j (by omega)
  have := key (szN n - n) n (a c) (Nat.le_refl _) (by omega) (fun j hj => by rw [h5 j hj, vl_low hj])
  rwa [va_up_id] at this
section PC
variable {n k : Nat} {q : Nat → Nat} {ni : Nat → Int32} {bv bm : Nat} {ml cn : Int32} {bt : Nat → Int32} {f : Nat → Int32} {t : Nat} {a : Nat → Nat → Int32} {b : Nat → Nat → Int32} {sg : Nat → Nat → Option Nat} {sL : List Nat} {sf : Nat → Nat → Int32}
variable {kd D x : Nat → Nat} {T : Nat → Int32}
theorem k_raise_v {Q : (Nat → Nat → Int32) → Prop} (hn : okN n) (hk : ∀ i, kd i < 5) (hx : ∀ i, x i ≤ 9) (hb : CB n kd a b) (h5 : ∀ i, i < n → a 5 i = nI (x i)) (h : ∀ v, (∀ i, i < szN n → v i = nI (vl n kd x i)) → Q (va_up a 5 v)) : w_X5_raise_v n (szN n) q f t a b sg sL sf Q :=
  k_raiseF (c := 5) hn (by decide) hk hx hb h5 h
theorem k_raise_g {Q : (Nat → Nat → Int32) → Prop} (hn : okN n) (hk : ∀ i, kd i < 5) (hx : ∀ i, x i ≤ 9) (hb : CB n kd a b) (h5 : ∀ i, i < n → a 6 i = nI (x i)) (h : ∀ v, (∀ i, i < szN n → v i = nI (vl n kd x i)) → Q (va_up a 6 v)) : w_X5_raise_g n (szN n) q f t a b sg sL sf Q :=
  k_raiseF (c := 6) hn (by decide) hk hx hb h5 h
theorem k_raise_0v {Q : (Nat → Nat → Int32) → Prop} (hn : okN n) (hk : ∀ i, kd i < 5) (hx : ∀ i, x i ≤ 9) (hb : CB n kd a b) (h5 : ∀ i, i < n → a 5 i = nI (x i)) (h : ∀ v, (∀ i, i < szN n → v i = nI (vl n kd x i)) → Q (va_up a 5 v)) : w_X5_raise_0v n (szN n) q f t a b sg Q :=
  k_raiseF (c := 5) hn (by decide) hk hx hb h5 h
theorem k_copy {n1 n2 : Nat} {x y : Nat → Int32} {Q : (Nat → Int32) → Prop} (h1 : n1 < 2 ^ 31) (h2 : n2 < 2 ^ 31) (h : ∀ z, (∀ i, i < n1 → i < n2 → z i = x i) → Q z) : w_X10_copy n1 n2 x y Q := by
  have e : (if nI n2 < nI n1 then nI n2 else nI n1) = nI (min n1 n2) := by
    by_cases hlt : n2 < n1
    · rw [if_pos ((nI_ltI h2 h1).mpr hlt), show min n1 n2 = n2 by omega]
    · rw [if_neg (fun h9 => hlt ((nI_ltI h2 h1).mp h9)), show min n1 n2 = n1 by omega]
  unfold w_X10_copy
  rw [e, nI_clamp (show min n1 n2 < 2 ^ 31 by omega), show (0 : Int32).toNatClampNeg = 0 from rfl]
  refine ⟨⟨by decide, by decide, nI_pos (by omega), by omega, by omega⟩, h _ (fun i hi1 hi2 => ?_)⟩
  rw [pk_cpy_in (by omega) (by omega)]
  congr 1
  omega
theorem cp_at {α : Type} {y z : Nat → α} {m i : Nat} (hm : m < 2 ^ 31) (hi : i < m) : va_cpy y z (0 : Int32).toNatClampNeg (0 : Int32).toNatClampNeg (nI m).toNatClampNeg i = y i := by
  rw [nI_clamp hm, show (0 : Int32).toNatClampNeg = 0 from rfl, pk_cpy_in (by omega) (by omega)]
  congr 1
  omega
theorem k_build {Q : (Nat → Nat → Int32) → Prop} (hn : okN n) (hk : ∀ i, kd i < 5) (hx : ∀ i, x i ≤ 9) (hb : CB n kd a b) (h1 : ∀ i, i < n → a 1 i = nI (x i)) (h : ∀ v, (∀ i, i < szN n → v i = nI (vl n kd x i)) → Q (va_up a 5 v)) : w_X5_build n (szN n) q f t a b sg sL sf Q := by
  have hs := hn.sz
  have hl := hn.le
  unfold w_X5_build
  refine k_copy (by omega) (by omega) (fun z hz => k_raise_v (kd := kd) (x := x) hn hk hx ⟨fun i p r => by rw [va_up_ne _ _ (by decide)]; exact hb.1 i p r, hb.2⟩ (fun i hi => ?_) (fun v hv => ?_))
  · rw [va_up_self, hz i hi (by omega)]; exact h1 i hi
  · rw [va_up_up]; exact h v hv
theorem k_build_0 {Q : (Nat → Nat → Int32) → Prop} (hn : okN n) (hk : ∀ i, kd i < 5) (hx : ∀ i, x i ≤ 9) (hb : CB n kd a b) (h1 : ∀ i, i < n → a 1 i = nI (x i)) (h : ∀ v, (∀ i, i < szN n → v i = nI (vl n kd x i)) → Q (va_up a 5 v)) : w_X5_build_0 n (szN n) q f t a b sg Q := by
  have hs := hn.sz
  have hl := hn.le
  unfold w_X5_build_0
  refine k_copy (by omega) (by omega) (fun z hz => k_raise_0v (kd := kd) (x := x) hn hk hx ⟨fun i p r => by rw [va_up_ne _ _ (by decide)]; exact hb.1 i p r, hb.2⟩ (fun i hi => ?_) (fun v hv => ?_))
  · rw [va_up_self, hz i hi (by omega)]; exact h1 i hi
  · rw [va_up_up]; exact h v hv
theorem k_top {Q : Int32 → Unit → Prop} (hn : okN n) (h5 : ∀ i, i < szN n → a 5 i = nI (vl n kd x i)) (h : Q (nI (topN n kd x)) ()) : w_X5_top n (szN n) q f t a b sg sL sf Q := by
  have hs := hn.sz
  unfold w_X5_top
  refine ⟨fun hc => absurd hc (nI_nle (by omega) (by omega)), fun _ => ?_⟩
  rw [show (1 : Int32) = nI 1 from rfl, pk_sub (by omega), nI_clamp (by omega), h5 _ (by omega)]
  exact ⟨vp_in_nI (by omega) (by omega), h⟩
theorem k_guessedTop {Q : Int32 → Unit → Prop} (hn : okN n) (h6 : ∀ i, i < szN n → a 6 i = nI (vl n kd x i)) (h : Q (nI (topN n kd x)) ()) : w_X5_guessedTop n (szN n) q f t a b sg sL sf Q := by
  have hs := hn.sz
  unfold w_X5_guessedTop
  refine ⟨fun hc => absurd hc (nI_nle (by omega) (by omega)), fun _ => ?_⟩
  rw [show (1 : Int32) = nI 1 from rfl, pk_sub (by omega), nI_clamp (by omega), h6 _ (by omega)]
  exact ⟨vp_in_nI (by omega) (by omega), h⟩
theorem k_sum {m : Nat} {v : Nat → Nat} {Q : Int32 → Unit → Prop} (hm : m < 2 ^ 31) (h5 : ∀ i, i < m → a 5 i = nI (v i)) (h : Q (nI (sumN v m)) ()) : w_X5_sum n m q f t a b sg sL sf Q := by
  unfold w_X5_sum
  intro x1 e1 X hX
  subst e1
  have key : ∀ d i, i + d = m → X (nI (sumN v i)) (nI i) := by
    intro d
    induction d with
    | zero =>
      intro i hi
      refine hX _ _ (pk_le m i (fun _ => ?_) (fun _ => by omega))
      rw [show i = m by omega]; exact h
    | succ d ih =>
      intro i hi
      refine hX _ _ (pk_le m i (fun _ => by omega) (fun _ => ⟨vp_in_nI (by omega) (by omega), fun x7 e7 x8 e8 x9 e9 => ?_⟩))
      rw [e8, e9, e7, nI_clamp (by omega), h5 i (by omega), nI_add, nI_1]
      exact ih (i + 1) (by omega)
  exact key m 0 (by omega)
theorem k_countTold {m : Nat} {v : Nat → Nat} {Q : Int32 → Unit → Prop} (hm : m < 2 ^ 31) (h2 : ∀ i, i < m → a 2 i = T i) (h : Q (nI (tldN T v false m)) ()) : w_X5_countTold n m q f t a b sg sL sf Q := by
  unfold w_X5_countTold
  intro x1 e1 X hX
  subst e1
  have key : ∀ d i, i + d = m → X (nI (tldN T v false i)) (nI i) := by
    intro d
    induction d with
    | zero =>
      intro i hi
      refine hX _ _ (pk_le m i (fun _ => ?_) (fun _ => by omega))
      rw [show i = m by omega]; exact h
    | succ d ih =>
      intro i hi
      refine hX _ _ (pk_le m i (fun _ => by omega) (fun _ => ⟨vp_in_nI (by omega) (by omega), fun x7 e7 J hJ => ?_⟩))
      rw [nI_clamp (by omega), h2 i (by omega)] at e7
      subst e7
      have hst : tldN T v false (i + 1) = tldN T v false i + (if (decide (T i ≠ -1) && (!false || decide (T i = nI (v i)))) then 1 else 0) := rfl
      refine ⟨fun hne => hJ _ (fun x10 e10 x11 e11 => ?_), fun he => hJ _ (fun x10 e10 x11 e11 => ?_)⟩
      · rw [e10, e11, nI_1, nI_1, show tldN T v false i + 1 = tldN T v false (i + 1) by rw [hst]; simp [hne]]
        exact ih (i + 1) (by omega)
      · rw [e10, e11, show (0 : Int32) = nI 0 from rfl, nI_add, nI_1, show tldN T v false i + 0 = tldN T v false (i + 1) by rw [hst]; simp [he]]
        exact ih (i + 1) (by omega)
  exact key m 0 (by omega)
theorem nI_nem1 {v : Nat} (h : v < 2 ^ 31) : nI v ≠ -1 := fun e => by
  have h1 := nI_toInt h
  rw [e] at h1
  have e1 : (-1 : Int32).toInt = -1 := by decide
  omega
theorem k_countTrue {m : Nat} {v : Nat → Nat} {Q : Int32 → Unit → Prop} (hm : m < 2 ^ 31) (hv : ∀ i, i < m → v i < 2 ^ 31) (h2 : ∀ i, i < m → a 2 i = T i) (h5 : ∀ i, i < m → a 5 i = nI (v i)) (h : Q (nI (tldN T v true m)) ()) : w_X5_countTrue n m q f t a b sg sL sf Q := by
  unfold w_X5_countTrue
  intro X hX
  have key : ∀ d i, i + d = m → X (nI (tldN T v true i)) (nI i) := by
    intro d
    induction d with
    | zero =>
      intro i hi
      refine hX _ _ (pk_le m i (fun _ => ?_) (fun _ => by omega))
      rw [show i = m by omega]; exact h
    | succ d ih =>
      intro i hi
      refine hX _ _ (pk_le m i (fun _ => by omega) (fun _ => ⟨vp_in_nI (by omega) (by omega), vp_in_nI (by omega) (by omega), fun J hJ => ?_⟩))
      rw [nI_clamp (by omega), h2 i (by omega), h5 i (by omega)]
      have hst : tldN T v true (i + 1) = tldN T v true i + (if (decide (T i ≠ -1) && (!true || decide (T i = nI (v i)))) then 1 else 0) := rfl
      have hnm := nI_nem1 (hv i (by omega))
      refine ⟨fun hne => hJ _ (fun x10 e10 x11 e11 => ?_), fun he => hJ _ (fun x10 e10 x11 e11 => ?_)⟩
      · rw [e10, e11, show (0 : Int32) = nI 0 from rfl, nI_add, nI_1, show tldN T v true i + 0 = tldN T v true (i + 1) by rw [hst]; simp [hne]]
        exact ih (i + 1) (by omega)
      · rw [e10, e11, nI_1, nI_1, show tldN T v true i + 1 = tldN T v true (i + 1) by rw [hst]; simp [he, hnm]]
        exact ih (i + 1) (by omega)
  exact key m 0 (by omega)
theorem k_swingOf {i : Nat} {Q : Int32 → (Nat → Nat → Int32) → Prop} (hp : PI n kd D T) (hb : CB n kd a b) (h1 : ∀ j, j < n → a 1 j = nI (D j)) (h5 : ∀ j, j < szN n → a 5 j = nI (vl n kd D j)) (hi : i < n) (h : ∀ v, Q (swV n kd D i) (va_up a 6 v)) : w_X5_swingOf n (szN n) q f t a b sg sL sf (nI i) Q := by
  obtain ⟨hn, hk, hd, -⟩ := hp
  have hs := hn.sz
  have hl := hn.le
  have hdi := hd i
  unfold w_X5_swingOf
  refine ⟨vp_in_nI (by omega) (by omega), ?_⟩
  rw [nI_clamp (by omega), h1 i hi]
  refine ⟨fun hne => k_copy (by omega) (by omega) (fun z hz => ⟨vp_in_nI (by omega) (by omega), fun x10 e10 => ⟨vp_in_nI (by omega) (by omega), ?_⟩⟩), fun he => ?_⟩
  · rw [show (9 : Int32) = nI 9 from rfl, nI_eq (by omega) (by omega)] at hne
    rw [hz i hi (by omega), h1 i hi, nI_1] at e10
    have hm : ∀ j, min (incN D i j) 9 ≤ 9 := fun j => Nat.min_le_right _ _
    have em : ∀ j, j < n → incN D i j = min (incN D i j) 9 := fun j _ => by
      have := hd j
      unfold incN
      split
      · rename_i h9; subst h9; omega
      · omega
    refine k_raise_g (kd := kd) hn hk hm ⟨fun j p r => by rw [va_up_ne _ _ (by decide)]; exact hb.1 j p r, hb.2⟩ (fun j hj => ?_) (fun v hv => ?_)
    · rw [va_up_self, ← em j hj]
      by_cases hji : j = i
      · subst hji; rw [pk_us, e10]; simp [incN]
      · rw [pk_un hji, hz j hj (by omega), h1 j hj]; simp [incN, hji]
    · rw [va_up_up]
      refine k_guessedTop (kd := kd) (x := incN D i) hn (fun j hj => by rw [va_up_self, hv j hj, ← vl_cong hn em j hj]) ?_
      refine k_top (kd := kd) (x := D) hn (fun j hj => by rw [va_up_ne _ _ (by decide)]; exact h5 j hj) ?_
      have := h v
      unfold swV at this
      rw [if_neg hne] at this
      exact this
  · rw [show (9 : Int32) = nI 9 from rfl, nI_eq (by omega) (by omega)] at he
    have := h (a 6)
    unfold swV at this
    rw [if_pos he, va_up_id] at this
    exact this
end PC
