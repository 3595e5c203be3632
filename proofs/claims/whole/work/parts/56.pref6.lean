/-! ===== the reference: of which kind a brick can be, which two to try ===== -/
/-- the sights as the reference keeps them -/
def RS (s : Nat) (SG : Nat → Nat → Nat) (f : Nat → Int32) (a : Nat → Nat → Int32) : Prop := f 18 = nI s ∧ ∀ i, i < s → ∀ c, c < 4 → a 19 (4 * i + c) = nI (SG i c)
def SI (s : Nat) (SG : Nat → Nat → Nat) : Prop := s ≤ 6 ∧ ∀ i, SG i 0 < 10 ∧ SG i 1 ≤ 9 ∧ SG i 2 ≤ 9 ∧ SG i 3 ≤ 30
def canP (s : Nat) (SG : Nat → Nat → Nat) (br κ : Nat) : Prop := ∀ i, i < s → SG i 0 = br → mkN κ (SG i 1) (SG i 2) = SG i 3
def canB (s : Nat) (SG : Nat → Nat → Nat) (br κ : Nat) : Bool := (List.range s).all (fun i => !(decide (SG i 0 = br)) || decide (mkN κ (SG i 1) (SG i 2) = SG i 3))
theorem canB_P {s : Nat} {SG : Nat → Nat → Nat} {br κ : Nat} : canB s SG br κ = true ↔ canP s SG br κ := by
  unfold canB canP
  rw [List.all_eq_true]
  refine ⟨fun h i hi h0 => ?_, fun h i hi => ?_⟩
  · have := h i (List.mem_range.mpr hi)
    simpa [h0] using this
  · have := h i (List.mem_range.mp hi)
    by_cases h0 : SG i 0 = br
    · simp [h0, this h0]
    · simp [h0]
def bitsN (b : Nat → Bool) : Nat → Nat
  | 0 => 0
  | i + 1 => bitsN b i + (if b i then 2 ^ i else 0)
theorem bitsN_lt (b : Nat → Bool) : ∀ i, bitsN b i < 2 ^ i
  | 0 => by simp [bitsN]
  | i + 1 => by
    have := bitsN_lt b i
    show bitsN b i + _ < _
    rw [Nat.pow_succ]
    split <;> omega
theorem or_bit : ∀ a, a < 32 → ∀ j, j < 5 → a < 2 ^ j → nI a ||| nI (2 ^ j) = nI (a + 2 ^ j) := by decide +kernel
theorem shl_bit : ∀ j, j < 5 → (1 : Int32) <<< (nI j &&& 31) = nI (2 ^ j) := by decide +kernel
theorem shr_bit : ∀ B, B < 32 → ∀ j, j < 5 → (nI B >>> (nI j &&& 31)) &&& 1 = nI (B / 2 ^ j % 2) := by decide +kernel
theorem bits_at (b : Nat → Bool) : ∀ j, j < 5 → bitsN b 5 / 2 ^ j % 2 = if b j then 1 else 0 := by
  have key : ∀ c0 c1 c2 c3 c4 : Bool, ∀ j, j < 5 → ((((((0 + (if c0 then 2 ^ 0 else 0)) + (if c1 then 2 ^ 1 else 0)) + (if c2 then 2 ^ 2 else 0)) + (if c3 then 2 ^ 3 else 0)) + (if c4 then 2 ^ 4 else 0)) / 2 ^ j % 2 = if ([c0, c1, c2, c3, c4].getD j false) then 1 else 0) := by decide +kernel
  intro j hj
  have := key (b 0) (b 1) (b 2) (b 3) (b 4) j hj
  have e : [b 0, b 1, b 2, b 3, b 4].getD j false = b j := by
    rcases (show j = 0 ∨ j = 1 ∨ j = 2 ∨ j = 3 ∨ j = 4 by omega) with rfl | rfl | rfl | rfl | rfl <;> rfl
  rw [e] at this
  exact this
theorem nI_or0 (a : Nat) : nI a ||| 0 = nI a := by simp
theorem mk_lt {k l r : Nat} (hl : l ≤ 9) (hr : r ≤ 9) : mkN k l r ≤ 27 := mk_le hl hr (Nat.le_refl _)
theorem p_sortsOf {s br : Nat} {SG : Nat → Nat → Nat} {f : Nat → Int32} {g : Int64} {a : Nat → Nat → Int32} {Q : Int32 → MSt → Prop} (hs : SI s SG) (hr : RS s SG f a) (hb : br < 10) (h : Q (nI (bitsN (canB s SG br) 5)) (f, g, a)) : w_X11_sortsOf f g a (nI br) Q := by
  unfold w_X11_sortsOf
  intro X hX
  have key : ∀ e κ, κ + e = 5 → X (nI (bitsN (canB s SG br) κ)) (nI κ) := by
    intro e
    induction e with
    | zero =>
      intro κ hκ
      refine hX _ _ (pk_le 5 κ (fun _ => ?_) (fun h9 => absurd h9 (by omega)))
      rw [show κ = 5 by omega]; exact h
    | succ e ih =>
      intro κ hκ
      refine hX _ _ (pk_le 5 κ (fun h9 => absurd h9 (by omega)) (fun _ Y hY => ?_))
      have e4 : (4 : Int32) * f 18 = nI (4 * s) := by rw [hr.1, show (4 : Int32) = nI 4 from rfl, pk_mul]
      have hs6 := hs.1
      have bad : ¬ canP s SG br κ → ∀ e2 i, i + e2 = s → Y 0 (nI (4 * i)) := by
        intro hn e2
        induction e2 with
        | zero =>
          intro i hi
          refine hY _ _ (pk_le (4 * s) (4 * i) (fun _ J10 hJ10 => ?_) (fun h9 => absurd h9 (by omega)) e4)
          refine ⟨fun _ => hJ10 _ (fun x11 e11 x12 e12 => ?_), fun h9 => absurd rfl h9⟩
          rw [e11, e12, nI_1, nI_or0]
          have : bitsN (canB s SG br) (κ + 1) = bitsN (canB s SG br) κ := by
            show _ + _ = _
            rw [if_neg (fun h9 => hn (canB_P.mp h9)), Nat.add_zero]
          rw [← this]
          exact ih (κ + 1) (by omega)
        | succ e2 ih2 =>
          intro i hi
          refine hY _ _ (pk_le (4 * s) (4 * i) (fun h9 => absurd h9 (by omega)) (fun _ J15 hJ15 J17 hJ17 => ?_) e4)
          refine ⟨fun _ => hJ17 (hJ15 _ (fun x16 e16 => ?_)), fun h9 => absurd rfl h9⟩
          rw [e16, show (4 : Int32) = nI 4 from rfl, nI_add, show 4 * i + 4 = 4 * (i + 1) by omega]
          exact ih2 (i + 1) (by omega)
      have good : ∀ e2 i, i + e2 = s → (∀ j, j < i → SG j 0 = br → mkN κ (SG j 1) (SG j 2) = SG j 3) → Y 1 (nI (4 * i)) := by
        intro e2
        induction e2 with
        | zero =>
          intro i hi hc
          refine hY _ _ (pk_le (4 * s) (4 * i) (fun _ J10 hJ10 => ?_) (fun h9 => absurd h9 (by omega)) e4)
          refine ⟨fun h9 => absurd h9 (by decide), fun _ => hJ10 _ (fun x11 e11 x12 e12 => ?_)⟩
          have hlt := bitsN_lt (canB s SG br) κ
          have h32 : 2 ^ κ ≤ 16 := by
            rcases (show κ = 0 ∨ κ = 1 ∨ κ = 2 ∨ κ = 3 ∨ κ = 4 by omega) with rfl | rfl | rfl | rfl | rfl <;> decide
          rw [e11, e12, nI_1, shl_bit κ (by omega), or_bit _ (by omega) κ (by omega) hlt]
          have : bitsN (canB s SG br) (κ + 1) = bitsN (canB s SG br) κ + 2 ^ κ := by
            show _ + _ = _
            rw [if_pos (canB_P.mpr (fun j hj => hc j (by omega)))]
          rw [← this]
          exact ih (κ + 1) (by omega)
        | succ e2 ih2 =>
          intro i hi hc
          refine hY _ _ (pk_le (4 * s) (4 * i) (fun h9 => absurd h9 (by omega)) (fun _ J15 hJ15 J17 hJ17 => ?_) e4)
          refine ⟨fun h9 => absurd h9 (by decide), fun _ => ⟨vp_in_nI (by omega) (by omega), fun J20 hJ20 => ?_⟩⟩
          have g0 := hr.2 i (by omega) 0 (by omega)
          have g1 := hr.2 i (by omega) 1 (by omega)
          have g2 := hr.2 i (by omega) 2 (by omega)
          have g3 := hr.2 i (by omega) 3 (by omega)
          obtain ⟨b0, b1, b2, b3⟩ := hs.2 i
          have c0 : a 19 (nI (4 * i)).toNatClampNeg = nI (SG i 0) := by rw [nI_clamp (by omega)]; exact g0
          have c1 : a 19 (nI (4 * i) + 1).toNatClampNeg = nI (SG i 1) := by rw [nI_1, nI_clamp (by omega)]; exact g1
          have c2 : a 19 (nI (4 * i) + 2).toNatClampNeg = nI (SG i 2) := by rw [show (2 : Int32) = nI 2 from rfl, nI_add, nI_clamp (by omega)]; exact g2
          have c3 : a 19 (nI (4 * i) + 3).toNatClampNeg = nI (SG i 3) := by rw [show (3 : Int32) = nI 3 from rfl, nI_add, nI_clamp (by omega)]; exact g3
          have step : ∀ x16 : Int32, x16 = nI (4 * i) + 4 → x16 = nI (4 * (i + 1)) := fun x16 e16 => by rw [e16, show (4 : Int32) = nI 4 from rfl, nI_add, show 4 * i + 4 = 4 * (i + 1) by omega]
          have ok : (SG i 0 = br → mkN κ (SG i 1) (SG i 2) = SG i 3) → J15 1 := fun hi2 => hJ15 _ (fun x16 e16 => by
            rw [step x16 e16]
            refine ih2 (i + 1) (by omega) (fun j hj => ?_)
            by_cases hji : j = i
            · subst hji; exact hi2
            · exact hc j (by omega))
          rw [c0, nI_eq (by omega) (by omega)]
          refine ⟨fun hne => hJ20 (ok (fun h9 => absurd h9 hne)), fun he => ?_⟩
          have i1 : vp_in (nI (4 * i) + 1) 24 := by rw [nI_1]; exact vp_in_nI (by omega) (by omega)
          have i2 : vp_in (nI (4 * i) + 2) 24 := by rw [show (2 : Int32) = nI 2 from rfl, nI_add]; exact vp_in_nI (by omega) (by omega)
          have i3 : vp_in (nI (4 * i) + 3) 24 := by rw [show (3 : Int32) = nI 3 from rfl, nI_add]; exact vp_in_nI (by omega) (by omega)
          refine ⟨i1, i2, ?_⟩
          rw [c1, c2, c3]
          have hm := mk_lt (k := κ) b1 b2
          refine p_madeBy (by omega) (by omega) (by omega) ⟨i3, ?_⟩
          rw [nI_eq (by omega) (by omega)]
          refine ⟨fun hne => hJ17 (hJ15 _ (fun x16 e16 => ?_)), fun heq => hJ20 (ok (fun _ => heq))⟩
          rw [step x16 e16]
          exact bad (fun hcp => hne (hcp i (by omega) he)) e2 (i + 1) (by omega)
      exact good s 0 (by omega) (fun j hj => by omega)
  exact key 5 0 (by omega)
/-- how many of these kinds make of two what kind κ makes -/
def alk (b : Nat → Bool) (l r v : Nat) : Nat := cnt (fun o => b o && decide (mkN o l r = v)) 5
def wbN (b : Nat → Bool) (l r : Nat) : Nat → Nat := mxN (fun κ => if b κ then alk b l r (mkN κ l r) else 0)
theorem alk_le (b : Nat → Bool) (l r v : Nat) : alk b l r v ≤ 5 := cnt_le _ _
theorem wbN_le (b : Nat → Bool) (l r m : Nat) : wbN b l r m ≤ 5 := mxN_le (fun κ => by split; exact alk_le b l r _; exact Nat.zero_le _) m
theorem p_worstBy {b : Nat → Bool} {l r : Nat} {Q : Int32 → Prop} (hl : l ≤ 9) (hr : r ≤ 9) (h : Q (nI (wbN b l r 5))) : w_X11_worstBy (nI (bitsN b 5)) (nI l) (nI r) Q := by
  unfold w_X11_worstBy
  intro X hX
  have hB := bitsN_lt b 5
  have key : ∀ e κ, κ + e = 5 → X (nI (wbN b l r κ)) (nI κ) := by
    intro e
    induction e with
    | zero =>
      intro κ hκ
      refine hX _ _ (pk_le 5 κ (fun _ => ?_) (fun h9 => absurd h9 (by omega)))
      rw [show κ = 5 by omega]; exact h
    | succ e ih =>
      intro κ hκ
      refine hX _ _ (pk_le 5 κ (fun h9 => absurd h9 (by omega)) (fun _ Y hY => ?_))
      have hmκ := mk_lt (k := κ) hl hr
      have hwl := wbN_le b l r κ
      have inner : ∀ e2 o, o + e2 = 5 → Y (nI (cnt (fun o => b o && decide (mkN o l r = mkN κ l r)) o)) (nI o) := by
        intro e2
        induction e2 with
        | zero =>
          intro o ho
          refine hY _ _ (pk_le 5 o (fun _ J10 hJ10 J12 hJ12 => ?_) (fun h9 => absurd h9 (by omega)))
          have hal := alk_le b l r (mkN κ l r)
          rw [show o = 5 by omega, show cnt (fun o => b o && decide (mkN o l r = mkN κ l r)) 5 = alk b l r (mkN κ l r) from rfl, shr_bit _ hB κ (by omega), bits_at b κ (by omega)]
          have hw : wbN b l r (κ + 1) = max (wbN b l r κ) (if b κ then alk b l r (mkN κ l r) else 0) := rfl
          have goM : ∀ W, W = wbN b l r (κ + 1) → ∀ x11 : Int32, x11 = nI κ + 1 → X (nI W) x11 := fun W hW x11 e11 => by
            rw [hW, e11, nI_1]; exact ih (κ + 1) (by omega)
          cases hbκ : b κ with
          | false =>
            rw [hbκ] at hw
            refine ⟨fun _ => hJ12 (hJ10 _ (goM _ (by simp at hw; omega))), fun h9 => absurd h9 (by decide)⟩
          | true =>
            rw [hbκ] at hw
            refine ⟨fun h9 => absurd rfl h9, fun _ => ?_⟩
            rw [nI_leI (by omega) (by omega)]
            simp only [if_true] at hw
            exact ⟨fun hle => hJ12 (hJ10 _ (goM _ (by omega))), fun hgt => hJ10 _ (goM _ (by omega))⟩
        | succ e2 ih2 =>
          intro o ho
          refine hY _ _ (pk_le 5 o (fun h9 => absurd h9 (by omega)) (fun _ => ?_))
          have hmo := mk_lt (k := o) hl hr
          refine p_madeBy (by omega) (by omega) (by omega) (p_madeBy (by omega) (by omega) (by omega) (fun J18 hJ18 => ?_))
          rw [nI_eq (by omega) (by omega), shr_bit _ hB o (by omega), bits_at b o (by omega)]
          have go : ∀ z, z = (if (b o && decide (mkN o l r = mkN κ l r)) then 1 else 0) → J18 (nI z) := fun z hz => hJ18 _ (fun x19 e19 x20 e20 => by
            rw [e19, e20, nI_1, nI_add, hz]
            exact ih2 (o + 1) (by omega))
          refine ⟨fun hne => go 0 (by simp [hne]), fun he => go _ (by simp [he])⟩
      exact inner 5 0 (by omega)
  exact key 5 0 (by omega)
/-- which two to try, of the first i pairs: the best, and how many are left at worst -/
def tkB (b : Nat → Bool) : Nat → Int32 × Nat
  | 0 => (-1, 6)
  | i + 1 => if wbN b (i / 10) (i % 10) 5 < (tkB b i).2 then (nI i, wbN b (i / 10) (i % 10) 5) else tkB b i
theorem tkB_le (b : Nat → Bool) : ∀ i, (tkB b i).2 ≤ 6
  | 0 => Nat.le_refl _
  | i + 1 => by
    have := tkB_le b i
    unfold tkB
    split
    · show wbN _ _ _ _ ≤ 6; omega
    · exact this
def tryV (b : Nat → Bool) : Int32 := if bitsN b 5 = 0 then -1 else (tkB b 100).1
theorem p_tryOf {s br : Nat} {SG : Nat → Nat → Nat} {f : Nat → Int32} {g : Int64} {a : Nat → Nat → Int32} {Q : Int32 → MSt → Prop} (hs : SI s SG) (hr : RS s SG f a) (hb : br < 10) (h : Q (tryV (canB s SG br)) (f, g, a)) : w_X11_tryOf f g a (nI br) Q := by
  unfold w_X11_tryOf
  refine p_sortsOf hs hr hb ?_
  intro X hX
  have hB := bitsN_lt (canB s SG br) 5
  by_cases h0 : bitsN (canB s SG br) 5 = 0
  · unfold tryV at h
    rw [if_pos h0] at h
    refine hX _ _ _ (pk_le 100 0 (fun h9 => absurd h9 (by omega)) (fun _ => ⟨fun _ => h, fun h9 => absurd (by rw [h0]; rfl) h9⟩))
  · unfold tryV at h
    rw [if_neg h0] at h
    have key : ∀ e i, i + e = 100 → X (tkB (canB s SG br) i).1 (nI (tkB (canB s SG br) i).2) (nI i) := by
      intro e
      induction e with
      | zero =>
        intro i hi
        refine hX _ _ _ (pk_le 100 i (fun _ => ?_) (fun h9 => absurd h9 (by omega)))
        rw [show i = 100 by omega]; exact h
      | succ e ih =>
        intro i hi
        refine hX _ _ _ (pk_le 100 i (fun h9 => absurd h9 (by omega)) (fun _ => ⟨fun h9 => absurd h9 (nI_ne0 (by omega) (by omega)), fun _ => ?_⟩))
        rw [show (10 : Int32) = nI 10 from rfl, pk_rem (by omega) (by omega) (by omega), pk_div (by omega) (by omega) (by omega)]
        refine p_worstBy (by omega) (by omega) (fun J11 hJ11 => ?_)
        have hwl := wbN_le (canB s SG br) (i / 10) (i % 10) 5
        have htl := tkB_le (canB s SG br) i
        have hst : tkB (canB s SG br) (i + 1) = if wbN (canB s SG br) (i / 10) (i % 10) 5 < (tkB (canB s SG br) i).2 then (nI i, wbN (canB s SG br) (i / 10) (i % 10) 5) else tkB (canB s SG br) i := rfl
        have hnext := ih (i + 1) (by omega)
        rw [nI_leI (by omega) (by omega)]
        refine ⟨fun hle => hJ11 _ (fun J13 hJ13 => ?_), fun hgt => hJ11 _ (fun J13 hJ13 => ?_)⟩
        · rw [nI_leI (by omega) (by omega)]
          rw [hst, if_neg (by omega)] at hnext
          exact ⟨fun _ => hJ13 _ (fun x14 e14 => by rw [e14, nI_1]; exact hnext), fun h9 => absurd hle h9⟩
        · rw [nI_leI (by omega) (by omega)]
          rw [hst, if_pos (by omega)] at hnext
          exact ⟨fun h9 => absurd h9 hgt, fun _ => hJ13 _ (fun x14 e14 => by rw [e14, nI_1]; exact hnext)⟩
    exact key 100 0 (by omega)
