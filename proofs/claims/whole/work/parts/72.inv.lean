/-! ===== what holds between the class and the reference ===== -/
def okSt (kd D : Nat → Nat) (T : Nat → Int32) (s : Nat) (SG : Nat → Nat → Nat) (ch : Nat) : Prop := (∀ i, kd i < 5) ∧ (∀ i, D i ≤ 9) ∧ (∀ i, T i = -1 ∨ ∃ t, t ≤ 999 ∧ T i = nI t) ∧ SI s SG ∧ ch ≤ 9999
def SOK (n : Nat) (kd : Nat → Nat) (D : Nat → Nat) (T : Nat → Int32) (s : Nat) (SG : Nat → Nat → Nat) (ch : Nat) (img : Bool) (kd1 : Nat → Nat) (D1 : Nat → Nat) (T1 : Nat → Int32) (s1 : Nat) (SG1 : Nat → Nat → Nat) (ch1 : Nat) (m : Nat) (L : Nat → Nat) (rd : Nat) (nd : Nat) (lk : Nat) (j : Nat) : Prop := (n = 0 ∨ okN n) ∧ okSt kd D T s SG ch ∧ okSt kd1 D1 T1 s1 SG1 ch1 ∧ (n = 0 → img = false) ∧ m ≤ 18 ∧ LI L ∧ rd ≤ j ∧ nd ≤ 20 ∧ lk ≤ 20
def CN (n : Nat) (kd D : Nat → Nat) (T : Nat → Int32) (s : Nat) (SG : Nat → Nat → Nat) (ch : Nat) (f : Nat → Int32) (a : Nat → Nat → Int32) (b : Nat → Nat → Int32) (sg : Nat → Nat → Option Nat) (sL : List Nat) (sf : Nat → Nat → Int32) : Prop := CB n kd a b ∧ (∀ i, i < n → a 0 i = -1) ∧ (∀ i, i < n → a 1 i = nI (D i)) ∧ (∀ i, i < szN n → a 2 i = T i) ∧ (∀ i, i < szN n → a 5 i = nI (vl n kd D i)) ∧ CC n kd T f a ∧ CS s SG (f 3) (sg 0) sL sf ∧ f 4 = nI ch
def CK (n : Nat) (kd1 D1 : Nat → Nat) (T1 : Nat → Int32) (s1 : Nat) (SG1 : Nat → Nat → Nat) (ch1 : Nat) (f : Nat → Int32) (a : Nat → Nat → Int32) (b : Nat → Nat → Int32) (sg : Nat → Nat → Option Nat) (sL : List Nat) (sf : Nat → Nat → Int32) : Prop := (∀ i, n ≤ i → i < szN n → b 1 (i - n) = nI (kd1 i)) ∧ (∀ i, i < n → a 3 i = nI (D1 i)) ∧ (∀ i, i < szN n → a 4 i = T1 i) ∧ CS s1 SG1 (f 5) (sg 1) sL sf ∧ f 6 = nI ch1
def CIv (n : Nat) (kd : Nat → Nat) (D : Nat → Nat) (T : Nat → Int32) (s : Nat) (SG : Nat → Nat → Nat) (ch : Nat) (img : Bool) (kd1 : Nat → Nat) (D1 : Nat → Nat) (T1 : Nat → Int32) (s1 : Nat) (SG1 : Nat → Nat → Nat) (ch1 : Nat) (m : Nat) (L : Nat → Nat) (rd : Nat) (nd : Nat) (lk : Nat) (k : Nat) (ni : Nat → Int32) (bm : Nat) (cn : Int32) (bt : Nat → Int32) (f : Nat → Int32) (a : Nat → Nat → Int32) (b : Nat → Nat → Int32) (sg : Nat → Nat → Option Nat) (sL : List Nat) (sf : Nat → Nat → Int32) : Prop := k = szN n ∧ CN n kd D T s SG ch f a b sg sL sf ∧ (img = true → CK n kd1 D1 T1 s1 SG1 ch1 f a b sg sL sf) ∧ f 0 = (if img then 1 else 0) ∧ CP m L bm cn bt ∧ ni 0 = nI rd ∧ ni 1 = nI nd ∧ ni 2 = nI lk
def RK (n : Nat) (kd1 D1 : Nat → Nat) (T1 : Nat → Int32) (s1 : Nat) (SG1 : Nat → Nat → Nat) (ch1 : Nat) (f : Nat → Int32) (a : Nat → Nat → Int32) : Prop := (∀ i, n ≤ i → i < szN n → a 24 i = nI (kd1 i)) ∧ (∀ i, i < n → a 25 i = nI (D1 i)) ∧ (∀ i, i < szN n → a 26 i = T1 i) ∧ f 23 = nI s1 ∧ (∀ i, i < s1 → ∀ c, c < 4 → a 27 (4 * i + c) = nI (SG1 i c)) ∧ f 22 = nI ch1
def RIv (n : Nat) (kd : Nat → Nat) (D : Nat → Nat) (T : Nat → Int32) (s : Nat) (SG : Nat → Nat → Nat) (ch : Nat) (img : Bool) (kd1 : Nat → Nat) (D1 : Nat → Nat) (T1 : Nat → Int32) (s1 : Nat) (SG1 : Nat → Nat → Nat) (ch1 : Nat) (m : Nat) (L : Nat → Nat) (rd : Nat) (nd : Nat) (lk : Nat) (f : Nat → Int32) (a : Nat → Nat → Int32) : Prop := RI n kd D T f a ∧ RS s SG f a ∧ f 8 = nI ch ∧ (img = true → RK n kd1 D1 T1 s1 SG1 ch1 f a) ∧ (img = true ↔ f 21 = f 9) ∧ (f 21 = -1 ∨ ∃ r, r ≤ rd ∧ f 21 = nI r) ∧ f 1 = nI m ∧ (∀ i, i < m → a 0 i = nI (L i)) ∧ f 9 = nI rd ∧ f 15 = nI nd ∧ f 17 = nI lk
/-- the law's invariant -/
def JInv : LInv := fun j q n k ni bv bm ml cn bt f t a b sg sL sf mf mg ma => ∃ kd D T s SG ch img kd1 D1 T1 s1 SG1 ch1 m L rd nd lk, SOK n kd D T s SG ch img kd1 D1 T1 s1 SG1 ch1 m L rd nd lk j ∧ CIv n kd D T s SG ch img kd1 D1 T1 s1 SG1 ch1 m L rd nd lk k ni bm cn bt f a b sg sL sf ∧ RIv n kd D T s SG ch img kd1 D1 T1 s1 SG1 ch1 m L rd nd lk mf ma
section IV
variable {n : Nat} {kd : Nat → Nat} {D : Nat → Nat} {T : Nat → Int32} {s : Nat} {SG : Nat → Nat → Nat} {ch : Nat} {img : Bool} {kd1 : Nat → Nat} {D1 : Nat → Nat} {T1 : Nat → Int32} {s1 : Nat} {SG1 : Nat → Nat → Nat} {ch1 : Nat} {m : Nat} {L : Nat → Nat} {rd : Nat} {nd : Nat} {lk : Nat} {q : Nat → Nat} {k : Nat} {ni : Nat → Int32} {bv : Nat} {bm : Nat} {ml : Int32} {cn : Int32} {bt : Nat → Int32} {f : Nat → Int32} {t : Nat} {a : Nat → Nat → Int32} {b : Nat → Nat → Int32} {sg : Nat → Nat → Option Nat} {sL : List Nat} {sf : Nat → Nat → Int32} {j : Nat} {mf : Nat → Int32} {mg : Int64} {ma : Nat → Nat → Int32}
theorem SOK.pi (h : SOK n kd D T s SG ch img kd1 D1 T1 s1 SG1 ch1 m L rd nd lk j) (hn : okN n) : PI n kd D T := ⟨hn, h.2.1.1, h.2.1.2.1, h.2.1.2.2.1⟩
theorem SOK.si (h : SOK n kd D T s SG ch img kd1 D1 T1 s1 SG1 ch1 m L rd nd lk j) : SI s SG := h.2.1.2.2.2.1
theorem SOK.up (h : SOK n kd D T s SG ch img kd1 D1 T1 s1 SG1 ch1 m L rd nd lk j) : SOK n kd D T s SG ch img kd1 D1 T1 s1 SG1 ch1 m L rd nd lk (j + 1) := by
  obtain ⟨h1, h2, h3, h4, h5, h6, h7, h8, h9⟩ := h
  exact ⟨h1, h2, h3, h4, h5, h6, by omega, h8, h9⟩
theorem SOK.sz (h : SOK n kd D T s SG ch img kd1 D1 T1 s1 SG1 ch1 m L rd nd lk j) : n ≤ 4 ∧ szN n ≤ 10 ∧ n ≤ szN n := by
  rcases h.1 with h1 | h1
  · subst h1; decide
  · have := h1.le; have := h1.sz; omega
theorem SOK.ok (h : SOK n kd D T s SG ch img kd1 D1 T1 s1 SG1 ch1 m L rd nd lk j) {i : Nat} (hi : i < szN n) : okN n := by
  rcases h.1 with h1 | h1
  · subst h1; exact absurd hi (by simp [szN])
  · exact h1
theorem SOK.ok' (h : SOK n kd D T s SG ch img kd1 D1 T1 s1 SG1 ch1 m L rd nd lk j) {i : Nat} (hi : i < n) : okN n := by
  rcases h.1 with h1 | h1
  · subst h1; exact absurd hi (by omega)
  · exact h1
theorem CIv.keep {f' : Nat → Int32} {a' : Nat → Nat → Int32} (h : CIv n kd D T s SG ch img kd1 D1 T1 s1 SG1 ch1 m L rd nd lk k ni bm cn bt f a b sg sL sf) (hf : KF f f') (ha : KA a a') (hc : CC n kd T f' a') : CIv n kd D T s SG ch img kd1 D1 T1 s1 SG1 ch1 m L rd nd lk k ni bm cn bt f' a' b sg sL sf := by
  obtain ⟨h1, ⟨c1, c2, c3, c4, c5, c6, c7, c8⟩, h3, h4, h5, h6⟩ := h
  have ea : ∀ j, j < 6 → a' j = a j := fun j hj => ha j (by omega) (by omega) (by omega)
  refine ⟨h1, ⟨c1.ka ha, ?_, ?_, ?_, ?_, hc, ?_, ?_⟩, fun hi => ?_, ?_, h5, h6⟩
  · rw [ea 0 (by omega)]; exact c2
  · rw [ea 1 (by omega)]; exact c3
  · rw [ea 2 (by omega)]; exact c4
  · rw [ea 5 (by omega)]; exact c5
  · rw [hf 3 (by decide) (by decide) (by decide)]; exact c7
  · rw [hf 4 (by decide) (by decide) (by decide)]; exact c8
  · obtain ⟨k1, k2, k3, k4, k5⟩ := h3 hi
    refine ⟨k1, ?_, ?_, ?_, ?_⟩
    · rw [ea 3 (by omega)]; exact k2
    · rw [ea 4 (by omega)]; exact k3
    · rw [hf 5 (by decide) (by decide) (by decide)]; exact k4
    · rw [hf 6 (by decide) (by decide) (by decide)]; exact k5
  · rw [hf 0 (by decide) (by decide) (by decide)]; exact h4
theorem CIv.keepB {b' : Nat → Nat → Int32} (h : CIv n kd D T s SG ch img kd1 D1 T1 s1 SG1 ch1 m L rd nd lk k ni bm cn bt f a b sg sL sf) (h0 : b' 0 = b 0) (h1 : b' 1 = b 1) (hB : BG n b') : CIv n kd D T s SG ch img kd1 D1 T1 s1 SG1 ch1 m L rd nd lk k ni bm cn bt f a b' sg sL sf := by
  obtain ⟨g1, ⟨c1, c2, c3, c4, c5, c6, c7, c8⟩, g3, g4, g5, g6⟩ := h
  refine ⟨g1, ⟨⟨c1.1, ?_, hB⟩, c2, c3, c4, c5, c6, c7, c8⟩, fun hi => ?_, g4, g5, g6⟩
  · rw [h0]; exact c1.2.1
  · obtain ⟨k1, k2, k3, k4, k5⟩ := g3 hi
    refine ⟨?_, k2, k3, k4, k5⟩
    rw [h1]; exact k1
theorem CC.g {v : Nat → Int32} (h : CC n kd T f a) : CC n kd T f (va_up a 6 v) := by
  rcases h with h | h
  · exact Or.inl h
  · exact Or.inr ⟨h.1, by rw [va_up_ne _ _ (by decide)]; exact h.2⟩
theorem CIv.g {v : Nat → Int32} (h : CIv n kd D T s SG ch img kd1 D1 T1 s1 SG1 ch1 m L rd nd lk k ni bm cn bt f a b sg sL sf) : CIv n kd D T s SG ch img kd1 D1 T1 s1 SG1 ch1 m L rd nd lk k ni bm cn bt f (va_up a 6 v) b sg sL sf := h.keep KF.rfl' (KA.rfl'.up (Or.inl rfl)) h.2.1.2.2.2.2.2.1.g
theorem RIv.kr {f f' : Nat → Int32} {a a' : Nat → Nat → Int32} (h : RIv n kd D T s SG ch img kd1 D1 T1 s1 SG1 ch1 m L rd nd lk f a) (hk : KR f f' a a') : RIv n kd D T s SG ch img kd1 D1 T1 s1 SG1 ch1 m L rd nd lk f' a' := by
  obtain ⟨⟨r1, r2, r3, r4, r5⟩, ⟨s1', s2'⟩, h3, h4, h5, h6, h7, h8, h9, h10, h11⟩ := h
  have ef : ∀ j, 5 ≤ j → j ≠ 20 → f' j = f j := fun j hj h2 => hk.1 j (by omega) (by omega) (by omega) h2
  have e1 : f' 1 = f 1 := hk.1 1 (by decide) (by decide) (by decide) (by decide)
  have ea : ∀ j, j ≠ 5 → j ≠ 13 → j ≠ 14 → j ≠ 16 → a' j = a j := hk.2
  refine ⟨⟨?_, ?_, ?_, ?_, ?_⟩, ⟨?_, ?_⟩, ?_, fun hi => ?_, ?_, ?_, ?_, ?_, ?_, ?_, ?_⟩
  · rw [ef 6 (by decide) (by decide)]; exact r1
  · rw [ef 7 (by decide) (by decide)]; exact r2
  · rw [ea 10 (by decide) (by decide) (by decide) (by decide)]; exact r3
  · rw [ea 11 (by decide) (by decide) (by decide) (by decide)]; exact r4
  · rw [ea 12 (by decide) (by decide) (by decide) (by decide)]; exact r5
  · rw [ef 18 (by decide) (by decide)]; exact s1'
  · rw [ea 19 (by decide) (by decide) (by decide) (by decide)]; exact s2'
  · rw [ef 8 (by decide) (by decide)]; exact h3
  · obtain ⟨k1, k2, k3, k4, k5, k6⟩ := h4 hi
    refine ⟨?_, ?_, ?_, ?_, ?_, ?_⟩
    · rw [ea 24 (by decide) (by decide) (by decide) (by decide)]; exact k1
    · rw [ea 25 (by decide) (by decide) (by decide) (by decide)]; exact k2
    · rw [ea 26 (by decide) (by decide) (by decide) (by decide)]; exact k3
    · rw [ef 23 (by decide) (by decide)]; exact k4
    · rw [ea 27 (by decide) (by decide) (by decide) (by decide)]; exact k5
    · rw [ef 22 (by decide) (by decide)]; exact k6
  · rw [ef 21 (by decide) (by decide), ef 9 (by decide) (by decide)]; exact h5
  · rw [ef 21 (by decide) (by decide)]; exact h6
  · rw [e1]; exact h7
  · rw [ea 0 (by decide) (by decide) (by decide) (by decide)]; exact h8
  · rw [ef 9 (by decide) (by decide)]; exact h9
  · rw [ef 15 (by decide) (by decide)]; exact h10
  · rw [ef 17 (by decide) (by decide)]; exact h11
/-! arguments, on both sides -/
theorem k_by {i : Nat} {Q : Int32 → Unit → Prop} (hs : SOK n kd D T s SG ch img kd1 D1 T1 s1 SG1 ch1 m L rd nd lk j) (hi : i < szN n) (h : Q 1 ()) : w_X10_isBrick n (szN n) q ni bv bm ml cn bt f t a b sg sL sf (nI i) Q := by
  have := hs.sz
  exact k_wy (a := 0) (b := szN n) (by omega) hi (by omega) rfl (nI_sub1_toInt (by omega)) ⟨Or.inr rfl, h⟩
theorem k_bn {x : Int32} {Q : Int32 → Unit → Prop} (hs : SOK n kd D T s SG ch img kd1 D1 T1 s1 SG1 ch1 m L rd nd lk j) (ho : outR x 0 (szN n)) (h : Q 0 ()) : w_X10_isBrick n (szN n) q ni bv bm ml cn bt f t a b sg sL sf x Q := by
  have := hs.sz
  exact k_wn (a := 0) (b := szN n) ho rfl (nI_sub1_toInt (by omega)) ⟨Or.inl rfl, h⟩
theorem k_fy {i : Nat} {Q : Int32 → Unit → Prop} (hs : SOK n kd D T s SG ch img kd1 D1 T1 s1 SG1 ch1 m L rd nd lk j) (hi : i < n) (h : Q 1 ()) : w_X10_isFigure n (szN n) q ni bv bm ml cn bt f t a b sg sL sf (nI i) Q := by
  have := hs.sz
  exact k_wy (a := 0) (b := n) (by omega) hi (by omega) rfl (nI_sub1_toInt (by omega)) ⟨Or.inr rfl, h⟩
theorem k_fn {x : Int32} {Q : Int32 → Unit → Prop} (hs : SOK n kd D T s SG ch img kd1 D1 T1 s1 SG1 ch1 m L rd nd lk j) (ho : outR x 0 n) (h : Q 0 ()) : w_X10_isFigure n (szN n) q ni bv bm ml cn bt f t a b sg sL sf x Q := by
  have := hs.sz
  exact k_wn (a := 0) (b := n) ho rfl (nI_sub1_toInt (by omega)) ⟨Or.inl rfl, h⟩
theorem k_ay {i : Nat} {Q : Int32 → Unit → Prop} (hs : SOK n kd D T s SG ch img kd1 D1 T1 s1 SG1 ch1 m L rd nd lk j) (hi0 : n ≤ i) (hi : i < szN n) (h : Q 1 ()) : w_X10_isAbove n (szN n) q ni bv bm ml cn bt f t a b sg sL sf (nI i) Q := by
  have := hs.sz
  exact k_wy (a := n) (b := szN n) hi0 hi (by omega) (nI_toInt (by omega)) (nI_sub1_toInt (by omega)) ⟨Or.inr rfl, h⟩
theorem k_an {x : Int32} {Q : Int32 → Unit → Prop} (hs : SOK n kd D T s SG ch img kd1 D1 T1 s1 SG1 ch1 m L rd nd lk j) (ho : outR x n (szN n)) (h : Q 0 ()) : w_X10_isAbove n (szN n) q ni bv bm ml cn bt f t a b sg sL sf x Q := by
  have := hs.sz
  exact k_wn (a := n) (b := szN n) ho (nI_toInt (by omega)) (nI_sub1_toInt (by omega)) ⟨Or.inl rfl, h⟩
theorem out_ge {i n : Nat} (hi : n ≤ i) (h31 : i < 2 ^ 31) : outR (nI i) 0 n := fun hc => by
  rw [nI_toInt h31] at hc
  omega
theorem i64_sub1 {n : Nat} (h : n < 2 ^ 30) : ((nI n - 1).toInt64).toInt = (n : Int) - 1 := by
  rw [Int32.toInt_toInt64, nI_sub1_toInt h]
theorem i64_n {n : Nat} (h : n < 2 ^ 30) : ((nI n).toInt64).toInt = (n : Int) := by
  rw [Int32.toInt_toInt64, nI_toInt (by omega)]
theorem r_by {i : Nat} {Q : Int32 → MSt → Prop} (hs : SOK n kd D T s SG ch img kd1 D1 T1 s1 SG1 ch1 m L rd nd lk j) (hR : RIv n kd D T s SG ch img kd1 D1 T1 s1 SG1 ch1 m L rd nd lk mf ma) (hi : i < szN n) (h : Q 1 (mf, mg, ma)) : w_X11_isBrick mf mg ma (nI i) Q := by
  have := hs.sz
  unfold w_X11_isBrick
  rw [hR.1.2.1]
  exact p_iny (a := 0) (b := szN n) (by omega) hi (by omega) rfl (i64_sub1 (by omega)) ⟨Or.inr rfl, h⟩
theorem r_bn {x : Int32} {Q : Int32 → MSt → Prop} (hs : SOK n kd D T s SG ch img kd1 D1 T1 s1 SG1 ch1 m L rd nd lk j) (hR : RIv n kd D T s SG ch img kd1 D1 T1 s1 SG1 ch1 m L rd nd lk mf ma) (ho : outR x 0 (szN n)) (h : Q 0 (mf, mg, ma)) : w_X11_isBrick mf mg ma x Q := by
  have := hs.sz
  unfold w_X11_isBrick
  rw [hR.1.2.1]
  exact p_inn (a := 0) (b := szN n) ho rfl (i64_sub1 (by omega)) ⟨Or.inl rfl, h⟩
theorem r_fy {i : Nat} {Q : Int32 → MSt → Prop} (hs : SOK n kd D T s SG ch img kd1 D1 T1 s1 SG1 ch1 m L rd nd lk j) (hR : RIv n kd D T s SG ch img kd1 D1 T1 s1 SG1 ch1 m L rd nd lk mf ma) (hi : i < n) (h : Q 1 (mf, mg, ma)) : w_X11_isFigure mf mg ma (nI i) Q := by
  have := hs.sz
  unfold w_X11_isFigure
  rw [hR.1.1]
  exact p_iny (a := 0) (b := n) (by omega) hi (by omega) rfl (i64_sub1 (by omega)) ⟨Or.inr rfl, h⟩
theorem r_fn {x : Int32} {Q : Int32 → MSt → Prop} (hs : SOK n kd D T s SG ch img kd1 D1 T1 s1 SG1 ch1 m L rd nd lk j) (hR : RIv n kd D T s SG ch img kd1 D1 T1 s1 SG1 ch1 m L rd nd lk mf ma) (ho : outR x 0 n) (h : Q 0 (mf, mg, ma)) : w_X11_isFigure mf mg ma x Q := by
  have := hs.sz
  unfold w_X11_isFigure
  rw [hR.1.1]
  exact p_inn (a := 0) (b := n) ho rfl (i64_sub1 (by omega)) ⟨Or.inl rfl, h⟩
theorem r_uy {i : Nat} {Q : Int32 → MSt → Prop} (hs : SOK n kd D T s SG ch img kd1 D1 T1 s1 SG1 ch1 m L rd nd lk j) (hR : RIv n kd D T s SG ch img kd1 D1 T1 s1 SG1 ch1 m L rd nd lk mf ma) (hi0 : n ≤ i) (hi : i < szN n) (h : Q 1 (mf, mg, ma)) : w_X11_isUpper mf mg ma (nI i) Q := by
  have := hs.sz
  unfold w_X11_isUpper
  rw [hR.1.1, hR.1.2.1]
  exact p_iny (a := n) (b := szN n) hi0 hi (by omega) (i64_n (by omega)) (i64_sub1 (by omega)) ⟨Or.inr rfl, h⟩
theorem r_un {x : Int32} {Q : Int32 → MSt → Prop} (hs : SOK n kd D T s SG ch img kd1 D1 T1 s1 SG1 ch1 m L rd nd lk j) (hR : RIv n kd D T s SG ch img kd1 D1 T1 s1 SG1 ch1 m L rd nd lk mf ma) (ho : outR x n (szN n)) (h : Q 0 (mf, mg, ma)) : w_X11_isUpper mf mg ma x Q := by
  have := hs.sz
  unfold w_X11_isUpper
  rw [hR.1.1, hR.1.2.1]
  exact p_inn (a := n) (b := szN n) ho (i64_n (by omega)) (i64_sub1 (by omega)) ⟨Or.inl rfl, h⟩
theorem k_hp {Q : Int32 → Unit → Prop} (hs : SOK n kd D T s SG ch img kd1 D1 T1 s1 SG1 ch1 m L rd nd lk j) (h1 : okN n → Q 1 ()) (h0 : n = 0 → Q 0 ()) : w_X10_hasPile n (szN n) q ni bv bm ml cn bt f t a b sg sL sf Q := by
  unfold w_X10_hasPile
  rcases hs.1 with hn | hn
  · subst hn
    exact ⟨fun _ => h0 rfl, fun hc => absurd (by decide) hc⟩
  · have := hn.le
    exact ⟨fun hc => absurd hc (nI_nle (by omega) (by omega)), fun _ => h1 hn⟩
theorem r_lk {Q : Int32 → MSt → Prop} (hs : SOK n kd D T s SG ch img kd1 D1 T1 s1 SG1 ch1 m L rd nd lk j) (hR : RIv n kd D T s SG ch img kd1 D1 T1 s1 SG1 ch1 m L rd nd lk mf ma) (h1 : okN n → Q 0 (mf, mg, ma)) (h0 : n = 0 → Q 1 (mf, mg, ma)) : w_X11_lacks mf mg ma Q := by
  unfold w_X11_lacks
  rw [hR.1.1]
  rcases hs.1 with hn | hn
  · subst hn
    exact ⟨fun hc => absurd rfl hc, fun _ => h0 rfl⟩
  · have := hn.le
    exact ⟨fun _ => h1 hn, fun hc => absurd hc (nI_ne0 (by omega) (by omega))⟩
/-! what is answered, as functions of what both stand for -/
def brV (n : Nat) (kd D : Nat → Nat) (T : Nat → Int32) (s : Nat) (SG : Nat → Nat → Nat) (i : Nat) (p : Int32) : Int32 := if p = 0 then (if i < n then -1 else nI (kd i)) else if p = 1 then nI (vl n kd D i) else if p = 2 then (if i < n then -1 else nI (lfN n 0 i)) else if p = 3 then (if i < n then -1 else nI (lfN n 0 i + 1)) else if p = 4 then T i else if p = 5 then (if i < n then 0 else nI (bitsN (canB s SG i) 5)) else if p = 6 then (if i < n then -1 else tryV (canB s SG i)) else -102
def ctV (n : Nat) (kd D : Nat → Nat) (T : Nat → Int32) (s ch m rd nd lk : Nat) (p : Int32) : Int32 := if p = 0 then nI n else if p = 1 then nI (szN n) else if p = 2 then (if n = 0 then -1 else nI (topN n kd D)) else if p = 3 then nI (sumN (vl n kd D) (szN n)) else if p = 4 then nI (tldN T (vl n kd D) false (szN n)) else if p = 5 then nI (tldN T (vl n kd D) true (szN n)) else if p = 6 then nI ch else if p = 7 then nI s else if p = 8 then nI m else if p = 9 then nI rd else if p = 10 then nI nd else if p = 11 then nI lk else -102
noncomputable def bsV (n : Nat) (kd D : Nat → Nat) : Nat := Classical.epsilon (fun B => bestO n kd (numN D n) B)
theorem bsV_eq {B : Nat} (h : bestO n kd (numN D n) B) : bsV n kd D = B := bestO_uniq (Classical.epsilon_spec (p := fun B => bestO n kd (numN D n) B) ⟨B, h⟩) h
noncomputable def ftV (n : Nat) (kd : Nat → Nat) (T : Nat → Int32) (x : Nat) : Int32 := if cnt (fitB n kd T) (10 ^ n) ≤ x then -1 else nI (Classical.epsilon (fun N => N < 10 ^ n ∧ fitB n kd T N = true ∧ cnt (fitB n kd T) N = x))
theorem ftV_eq {N x : Nat} (h1 : N < 10 ^ n) (h2 : fitB n kd T N = true) (h3 : cnt (fitB n kd T) N = x) : ftV n kd T x = nI N := by
  have hlt := cnt_lt h1 h2
  unfold ftV
  rw [if_neg (by omega)]
  have := Classical.epsilon_spec (p := fun N => N < 10 ^ n ∧ fitB n kd T N = true ∧ cnt (fitB n kd T) N = x) ⟨N, h1, h2, h3⟩
  rw [cnt_uniq this.2.1 h2 (this.2.2.trans h3.symm)]
theorem ftV_no {x : Nat} (h : cnt (fitB n kd T) (10 ^ n) ≤ x) : ftV n kd T x = -1 := if_pos h
/-! ===== the class's answers ===== -/
theorem k_kindOf {i : Nat} {Q : Int32 → Unit → Prop} (hs : SOK n kd D T s SG ch img kd1 D1 T1 s1 SG1 ch1 m L rd nd lk j) (hC : CIv n kd D T s SG ch img kd1 D1 T1 s1 SG1 ch1 m L rd nd lk k ni bm cn bt f a b sg sL sf) (hi0 : n ≤ i) (hi : i < szN n) (h : Q (nI (kd i)) ()) : w_X5_kindOf n (szN n) q f t a b sg sL sf (nI i) Q := by
  have := hs.sz
  unfold w_X5_kindOf
  rw [pk_sub hi0, nI_clamp (by omega), hC.2.1.1.2.1 i hi0 hi]
  exact ⟨vp_in_nI (by omega) (by omega), h⟩
theorem c_brick {i : Nat} {p : Int32} {Q : Int32 → Unit → Prop} (hs : SOK n kd D T s SG ch img kd1 D1 T1 s1 SG1 ch1 m L rd nd lk j) (hC : CIv n kd D T s SG ch img kd1 D1 T1 s1 SG1 ch1 m L rd nd lk k ni bm cn bt f a b sg sL sf) (hi : i < szN n) (h : Q (brV n kd D T s SG i p) ()) : w_X10_brick n (szN n) q ni bv bm ml cn bt f t a b sg sL sf (nI i) p Q := by
  have hz := hs.sz
  obtain ⟨-, ⟨c1, c2, c3, c4, c5, c6, c7, c8⟩, -, -, -, -⟩ := id hC
  unfold w_X10_brick
  refine k_by hs hi ⟨fun _ => ?_, fun hc => absurd hc (by decide)⟩
  have fig : ∀ {Q1 : Int32 → Unit → Prop}, (i < n → Q1 1 ()) → (n ≤ i → Q1 0 ()) → w_X10_isFigure n (szN n) q ni bv bm ml cn bt f t a b sg sL sf (nI i) Q1 := fun {Q1} h1 h0 => by
    rcases Nat.lt_or_ge i n with g | g
    · exact k_fy hs g (h1 g)
    · exact k_fn hs (out_ge g (by omega)) (h0 g)
  unfold brV at h
  refine ⟨fun e => ?_, fun n0 => ⟨fun e => ⟨vp_in_nI hi (by omega), ?_⟩, fun n1 => ⟨fun e => ⟨vp_in_nI hi (by omega), ?_⟩, fun n2 => ⟨fun e => ?_, fun n3 => ⟨fun e => ⟨vp_in_nI hi (by omega), ?_⟩, fun n4 => ⟨fun e => ?_, fun n5 => ⟨fun e => ?_, fun n6 => ?_⟩⟩⟩⟩⟩⟩⟩
  · rw [if_pos e] at h
    refine fig (fun g => ⟨fun hc => absurd hc (by decide), fun _ => ?_⟩) (fun g => ⟨fun _ => k_kindOf hs hC g hi ?_, fun hc => absurd rfl hc⟩)
    · rwa [if_pos g] at h
    · rwa [if_neg (by omega)] at h
  · rw [if_neg n0, if_pos e] at h
    rw [nI_clamp (by omega), c5 i hi]
    exact h
  · rw [if_neg n0, if_neg n1, if_pos e] at h
    rw [nI_clamp (by omega)]
    rcases Nat.lt_or_ge i n with g | g
    · rw [c2 i g]; rwa [if_pos g] at h
    · rw [c1.1 i g hi]; rwa [if_neg (by omega)] at h
  · rw [if_neg n0, if_neg n1, if_neg n2, if_pos e] at h
    refine fig (fun g => ⟨fun hc => absurd hc (by decide), fun _ => ?_⟩) (fun g => ⟨fun _ => ⟨vp_in_nI hi (by omega), ?_⟩, fun hc => absurd rfl hc⟩)
    · rwa [if_pos g] at h
    · rw [nI_clamp (by omega), c1.1 i g hi, nI_1]
      rwa [if_neg (by omega)] at h
  · rw [if_neg n0, if_neg n1, if_neg n2, if_neg n3, if_pos e] at h
    rw [nI_clamp (by omega), c4 i hi]
    exact h
  · rw [if_neg n0, if_neg n1, if_neg n2, if_neg n3, if_neg n4, if_pos e] at h
    refine fig (fun g => ⟨fun hc => absurd hc (by decide), fun _ => ?_⟩) (fun g => ⟨fun _ => k_sorts hs.si c7 (by omega) ?_, fun hc => absurd rfl hc⟩)
    · rwa [if_pos g] at h
    · rwa [if_neg (by omega)] at h
  · rw [if_neg n0, if_neg n1, if_neg n2, if_neg n3, if_neg n4, if_neg n5, if_pos e] at h
    refine fig (fun g => ⟨fun hc => absurd hc (by decide), fun _ => ?_⟩) (fun g => ⟨fun _ => k_sorts hs.si c7 (by omega) (k_nextTry ?_), fun hc => absurd rfl hc⟩)
    · rwa [if_pos g] at h
    · rwa [if_neg (by omega)] at h
  · rw [if_neg n0, if_neg n1, if_neg n2, if_neg n3, if_neg n4, if_neg n5, if_neg n6] at h
    exact h
theorem c_swing {i : Nat} {Q : Int32 → (Nat → Nat → Int32) → Prop} (hs : SOK n kd D T s SG ch img kd1 D1 T1 s1 SG1 ch1 m L rd nd lk j) (hC : CIv n kd D T s SG ch img kd1 D1 T1 s1 SG1 ch1 m L rd nd lk k ni bm cn bt f a b sg sL sf) (hi : i < n) (h : ∀ v, Q (swV n kd D i) (va_up a 6 v)) : w_X10_swing n (szN n) q ni bv bm ml cn bt f t a b sg sL sf (nI i) Q := by
  obtain ⟨-, ⟨c1, c2, c3, c4, c5, c6, c7, c8⟩, -, -, -, -⟩ := id hC
  unfold w_X10_swing
  exact k_fy hs hi ⟨fun hc => absurd hc (by decide), fun _ => k_swingOf (hs.pi (hs.ok' hi)) c1 c3 c5 hi h⟩
theorem c_order {w : Nat} {Q : Int32 → (Nat → Nat → Int32) → Prop} (hs : SOK n kd D T s SG ch img kd1 D1 T1 s1 SG1 ch1 m L rd nd lk j) (hC : CIv n kd D T s SG ch img kd1 D1 T1 s1 SG1 ch1 m L rd nd lk k ni bm cn bt f a b sg sL sf) (hn : okN n) (hw : w ≤ 1) (h : ∀ v, Q (nI (if w = 0 then topN n kd (dg n (bsV n kd D)) else bsV n kd D)) (va_up a 6 v)) : w_X10_order n (szN n) q ni bv bm ml cn bt f t a b sg sL sf (nI w) Q := by
  have hl := hn.le
  have hz := hn.sz
  have hpw := pow_le4 hn
  obtain ⟨-, ⟨c1, c2, c3, c4, c5, c6, c7, c8⟩, -, -, -, -⟩ := id hC
  have htop : ∀ B, topN n kd (dg n B) ≤ 243 := fun B => vl_le hn (fun j _ => dg_le n B j) (by omega)
  unfold w_X10_order
  refine k_wy (a := 0) (b := 2) (by omega) (by omega) (by omega) rfl (by decide) ⟨fun _ => k_hp hs (fun _ => ⟨fun _ => ?_, fun hc => absurd hc (by decide)⟩) (fun h0 => by omega), fun hc => absurd hc (by decide)⟩
  refine ⟨fun hne => ?_, fun he => ?_⟩
  · have hw1 : w = 1 := by
      rcases (show w = 0 ∨ w = 1 by omega) with g | g
      · subst g; exact absurd rfl hne
      · exact g
    subst hw1
    unfold w_X5_bestOrder
    refine k_best hn hs.2.1.1 hs.2.1.2.1 c1 c3 (fun v B hB => ?_)
    have h1 := htop B
    have h2 := hB.1
    have := h v
    rw [if_neg (by decide), bsV_eq hB] at this
    rw [show (10000 : Int32) = nI 10000 from rfl, pk_rem (by omega) (by omega) (by omega), show (9999 : Int32) = nI 9999 from rfl, pk_sub (by omega), show 9999 - (topN n kd (dg n B) * 10000 + 9999 - B) % 10000 = B by omega]
    exact this
  · have hw0 : w = 0 := (nI_eq (b := 0) (by omega) (by omega)).mp he
    subst hw0
    unfold w_X5_bestTop
    refine k_best hn hs.2.1.1 hs.2.1.2.1 c1 c3 (fun v B hB => ?_)
    have h1 := htop B
    have h2 := hB.1
    have := h v
    rw [if_pos rfl, bsV_eq hB] at this
    rw [show (10000 : Int32) = nI 10000 from rfl, pk_div (by omega) (by omega) (by omega), show (topN n kd (dg n B) * 10000 + 9999 - B) / 10000 = topN n kd (dg n B) by omega]
    exact this
theorem c_left {Q : Int32 → ((Nat → Int32) × Nat × (Nat → Nat → Int32)) → Prop} (hs : SOK n kd D T s SG ch img kd1 D1 T1 s1 SG1 ch1 m L rd nd lk j) (hC : CIv n kd D T s SG ch img kd1 D1 T1 s1 SG1 ch1 m L rd nd lk k ni bm cn bt f a b sg sL sf) (hn : okN n) (h : ∀ f' t' a', CIv n kd D T s SG ch img kd1 D1 T1 s1 SG1 ch1 m L rd nd lk k ni bm cn bt f' a' b sg sL sf → Q (nI (cnt (fitB n kd T) (10 ^ n))) (f', t', a')) : w_X10_left n (szN n) q ni bv bm ml cn bt f t a b sg sL sf Q := by
  obtain ⟨-, ⟨c1, c2, c3, c4, c5, c6, c7, c8⟩, -, -, -, -⟩ := id hC
  unfold w_X10_left
  exact k_hp hs (fun _ => ⟨fun hc => absurd hc (by decide), fun _ => k_fitting hn hs.2.1.1 c1 c4 c6 (fun f' t' a' hf ha _ _ hc => h f' t' a' (hC.keep hf ha (Or.inr hc)))⟩) (fun h0 => by have := hn.le; omega)
theorem c_fits {x : Nat} {Q : Int32 → ((Nat → Int32) × Nat × (Nat → Nat → Int32)) → Prop} (hs : SOK n kd D T s SG ch img kd1 D1 T1 s1 SG1 ch1 m L rd nd lk j) (hC : CIv n kd D T s SG ch img kd1 D1 T1 s1 SG1 ch1 m L rd nd lk k ni bm cn bt f a b sg sL sf) (hn : okN n) (hx : x < 2 ^ 31) (h : ∀ f' t' a', CIv n kd D T s SG ch img kd1 D1 T1 s1 SG1 ch1 m L rd nd lk k ni bm cn bt f' a' b sg sL sf → Q (ftV n kd T x) (f', t', a')) : w_X10_fits n (szN n) q ni bv bm ml cn bt f t a b sg sL sf (nI x) Q := by
  obtain ⟨-, ⟨c1, c2, c3, c4, c5, c6, c7, c8⟩, -, -, -, -⟩ := id hC
  unfold w_X10_fits
  refine ⟨fun _ => k_hp hs (fun _ => ⟨fun _ => ?_, fun hc => absurd hc (by decide)⟩) (fun h0 => by have := hn.le; omega), fun hc => absurd (nI_pos' hx) hc⟩
  refine k_fitting hn hs.2.1.1 c1 c4 c6 (fun f1 t1 a1 hf1 ha1 _ g2 hc1 => ?_)
  have hC1 : CIv n kd D T s SG ch img kd1 D1 T1 s1 SG1 ch1 m L rd nd lk k ni bm cn bt f1 a1 b sg sL sf := hC.keep hf1 ha1 (Or.inr hc1)
  obtain ⟨-, ⟨d1, d2, d3, d4, d5, d6, d7, d8⟩, -, -, -, -⟩ := id hC1
  have hpw := pow_le4 hn
  have hcl := cnt_le (fitB n kd T) (10 ^ n)
  refine pk_le (cnt (fitB n kd T) (10 ^ n)) x (fun g1 => ?_) (fun g1 => ?_)
  · have := h f1 t1 a1 hC1
    rw [ftV_no g1] at this
    exact this
  · refine k_fittingRow hn hs.2.1.1 d1 d4 hx g1 g2 hc1 (fun f' t' a' N hf ha _ _ hc p1 p2 p3 => ?_)
    have := h f' t' a' (hC1.keep hf ha (Or.inr hc))
    rw [ftV_eq p1 p2 p3] at this
    exact this
theorem c_odds {i d w : Nat} {Q : Int32 → ((Nat → Int32) × Nat × (Nat → Nat → Int32)) → Prop} (hs : SOK n kd D T s SG ch img kd1 D1 T1 s1 SG1 ch1 m L rd nd lk j) (hC : CIv n kd D T s SG ch img kd1 D1 T1 s1 SG1 ch1 m L rd nd lk k ni bm cn bt f a b sg sL sf) (hi : i < n) (hd : d ≤ 9) (hw : w ≤ 1) (h : ∀ f' t' a', CIv n kd D T s SG ch img kd1 D1 T1 s1 SG1 ch1 m L rd nd lk k ni bm cn bt f' a' b sg sL sf → Q (nI (oddV (cnt (fitB n kd T) (10 ^ n)) (cnt (fitD n kd T i d) (10 ^ n)) w)) (f', t', a')) : w_X10_odds n (szN n) q ni bv bm ml cn bt f t a b sg sL sf (nI i) (nI d) (nI w) Q := by
  have hn := hs.ok' hi
  have hpw := pow_le4 hn
  obtain ⟨-, ⟨c1, c2, c3, c4, c5, c6, c7, c8⟩, -, -, -, -⟩ := id hC
  unfold w_X10_odds
  refine k_fy hs hi ⟨fun _ => k_dy (by omega) ⟨fun hc => absurd hc (by decide), fun _ => k_wy (a := 0) (b := 2) (by omega) (by omega) (by omega) rfl (by decide) ⟨fun _ => ?_, fun hc => absurd hc (by decide)⟩⟩, fun hc => absurd hc (by decide)⟩
  have hnl := hn.le
  refine k_fitting hn hs.2.1.1 c1 c4 c6 (fun f2 t2 a2 hf2 ha2 _ _ hc2 => ?_)
  have hq := h f2 t2 a2 (hC.keep hf2 ha2 (Or.inr hc2))
  rw [show (10 : Int32) = nI 10 from rfl, pk_mul, nI_add, nI_clamp (show i * 10 + d < 2 ^ 31 by omega)]
  refine ⟨vp_in_nI (by omega) (by omega), fun x11 e11 => ?_⟩
  have e11' : x11 = nI (cnt (fitD n kd T i d) (10 ^ n)) := by
    rw [e11, show i * 10 + d = 10 * i + d by omega]
    exact hc2.2 i hi d hd
  subst e11'
  have k1 := cnt_le (fitB n kd T) (10 ^ n)
  have k2 : cnt (fitD n kd T i d) (10 ^ n) ≤ cnt (fitB n kd T) (10 ^ n) := cnt_and_le _ _ _
  generalize cnt (fitB n kd T) (10 ^ n) = all at hq k1 k2 ⊢
  generalize cnt (fitD n kd T i d) (10 ^ n) = up at hq k2 ⊢
  have hg : all ≠ 0 → max (Nat.gcd all up) 1 = Nat.gcd all up := fun h0 => by
    have := Nat.gcd_pos_of_pos_left up (show 0 < all by omega)
    omega
  have hgl : all ≠ 0 → Nat.gcd all up ≤ all := fun h0 => Nat.gcd_le_left _ (by omega)
  unfold oddV at hq
  refine ⟨fun hne => ?_, fun he => ?_⟩
  · have hw0 : w ≠ 0 := fun h9 => by subst h9; exact hne rfl
    by_cases h0 : all = 0
    · refine ⟨fun hc => absurd (by rw [h0]; rfl) hc, fun _ => ?_⟩
      rw [if_pos h0, show w = 1 by omega] at hq
      exact hq
    · refine ⟨fun _ => k_gcd (by omega) (by omega) ⟨nI_ne0 (by omega) (by have := hgl h0; have := hg h0; omega), ?_⟩, fun hc => absurd hc (nI_ne0 (by omega) (by omega))⟩
      rw [if_neg h0, if_neg hw0] at hq
      have g1 := hgl h0
      rw [hg h0, pk_div (by omega) (Nat.gcd_pos_of_pos_left up (by omega)) (by omega)]
      exact hq
  · have hw0 : w = 0 := (nI_eq (b := 0) (by omega) (by omega)).mp he
    subst hw0
    refine k_gcd (by omega) (by omega) ?_
    by_cases h0 : all = 0
    · have hu : up = 0 := by omega
      subst h0 hu
      rw [if_pos rfl] at hq
      exact ⟨by decide, hq⟩
    · have g1 := hgl h0
      rw [if_neg h0, if_pos rfl] at hq
      rw [hg h0, pk_div (by omega) (Nat.gcd_pos_of_pos_left up (by omega)) (by omega)]
      exact ⟨nI_ne0 (Nat.gcd_pos_of_pos_left up (by omega)) (by omega), hq⟩
theorem c_count {p : Int32} {Q : Int32 → Unit → Prop} (hs : SOK n kd D T s SG ch img kd1 D1 T1 s1 SG1 ch1 m L rd nd lk j) (hC : CIv n kd D T s SG ch img kd1 D1 T1 s1 SG1 ch1 m L rd nd lk k ni bm cn bt f a b sg sL sf) (h : Q (ctV n kd D T s ch m rd nd lk p) ()) : w_X10_count n (szN n) q ni bv bm ml cn bt f t a b sg sL sf p Q := by
  have hz := hs.sz
  obtain ⟨-, ⟨c1, c2, c3, c4, c5, c6, c7, c8⟩, -, -, c9, c10, c11, c12⟩ := id hC
  unfold w_X10_count
  unfold ctV at h
  have hv : ∀ i, i < szN n → vl n kd D i < 2 ^ 31 := fun i hi => by
    have := vl_le (hs.ok hi) (kd := kd) (fun j _ => hs.2.1.2.1 j) hi
    omega
  refine ⟨fun e => ?_, fun n0 => ⟨fun e => ?_, fun n1 => ⟨fun e => ?_, fun n2 => ⟨fun e => ?_, fun n3 => ⟨fun e => ?_, fun n4 => ⟨fun e => ?_, fun n5 => ⟨fun e => ?_, fun n6 => ⟨fun e => ?_, fun n7 => ⟨fun e => ?_, fun n8 => ⟨fun e => ?_, fun n9 => ⟨fun e => ?_, fun n10 => ⟨fun e => ?_, fun n11 => ?_⟩⟩⟩⟩⟩⟩⟩⟩⟩⟩⟩⟩
  · rw [if_pos e] at h; exact h
  · rw [if_neg n0, if_pos e] at h; exact h
  · rw [if_neg n0, if_neg n1, if_pos e] at h
    refine k_hp hs (fun hn => ⟨fun hc => absurd hc (by decide), fun _ => k_top (kd := kd) (x := D) hn c5 ?_⟩) (fun h0 => ⟨fun _ => ?_, fun hc => absurd rfl hc⟩)
    · rwa [if_neg (by have := hn.le; omega)] at h
    · rwa [if_pos h0] at h
  · rw [if_neg n0, if_neg n1, if_neg n2, if_pos e] at h
    exact k_sum (by omega) c5 h
  · rw [if_neg n0, if_neg n1, if_neg n2, if_neg n3, if_pos e] at h
    exact k_countTold (by omega) c4 h
  · rw [if_neg n0, if_neg n1, if_neg n2, if_neg n3, if_neg n4, if_pos e] at h
    exact k_countTrue (by omega) hv c4 c5 h
  · rw [if_neg n0, if_neg n1, if_neg n2, if_neg n3, if_neg n4, if_neg n5, if_pos e] at h
    rw [c8]; exact h
  · rw [if_neg n0, if_neg n1, if_neg n2, if_neg n3, if_neg n4, if_neg n5, if_neg n6, if_pos e] at h
    rw [c7.1]; exact h
  · rw [if_neg n0, if_neg n1, if_neg n2, if_neg n3, if_neg n4, if_neg n5, if_neg n6, if_neg n7, if_pos e] at h
    refine k_len ?_
    rw [c9.1]; exact h
  · rw [if_neg n0, if_neg n1, if_neg n2, if_neg n3, if_neg n4, if_neg n5, if_neg n6, if_neg n7, if_neg n8, if_pos e] at h
    rw [c10]; exact h
  · rw [if_neg n0, if_neg n1, if_neg n2, if_neg n3, if_neg n4, if_neg n5, if_neg n6, if_neg n7, if_neg n8, if_neg n9, if_pos e] at h
    rw [c11]; exact h
  · rw [if_neg n0, if_neg n1, if_neg n2, if_neg n3, if_neg n4, if_neg n5, if_neg n6, if_neg n7, if_neg n8, if_neg n9, if_neg n10, if_pos e] at h
    rw [c12]; exact h
  · rw [if_neg n0, if_neg n1, if_neg n2, if_neg n3, if_neg n4, if_neg n5, if_neg n6, if_neg n7, if_neg n8, if_neg n9, if_neg n10, if_neg n11] at h
    exact h
/-! ===== the reference's answers ===== -/
theorem r_tell {i : Nat} {p : Int32} {Q : Int32 → MSt → Prop} (hs : SOK n kd D T s SG ch img kd1 D1 T1 s1 SG1 ch1 m L rd nd lk j) (hR : RIv n kd D T s SG ch img kd1 D1 T1 s1 SG1 ch1 m L rd nd lk mf ma) (hi : i < szN n) (h : ∀ a', KR mf mf ma a' → Q (brV n kd D T s SG i p) (mf, mg, a')) : w_X11_tellBrick mf mg ma (nI i) p Q := by
  have hz := hs.sz
  have hn := hs.ok hi
  unfold w_X11_tellBrick
  refine p_layNow (hs.pi hn) hR.1 (fun a' hl h14 h13 J hJ => ?_)
  have hR' := hR.kr (hl.kr (f := mf))
  have hq := h a' hl.kr
  unfold brV at hq
  have fin : ∀ x : Int32, (i < n → x = 0) → (n ≤ i → x = 1) → J x := by
    intro x hx0 hx1
    refine hJ x ?_
    have up : ∀ {A B : Prop}, (i < n → A) → (n ≤ i → B) → ((x = 0 → A) ∧ (¬ x = 0 → B)) := fun {A B} h0 h1 => by
      rcases Nat.lt_or_ge i n with g | g
      · rw [hx0 g]; exact ⟨fun _ => h0 g, fun hc => absurd rfl hc⟩
      · rw [hx1 g]; exact ⟨fun hc => absurd hc (by decide), fun _ => h1 g⟩
    refine ⟨fun e => up (fun g => ?_) (fun g => ⟨vp_in_nI (by omega) (by omega), ?_⟩), fun n0 => ⟨fun e => ⟨vp_in_nI (by omega) (by omega), ?_⟩, fun n1 => ⟨fun e => up (fun g => ?_) (fun g => p_leftOf hn hR'.1.1 g hi ?_), fun n2 => ⟨fun e => up (fun g => ?_) (fun g => p_leftOf hn hR'.1.1 g hi ?_), fun n3 => ⟨fun e => ⟨vp_in_nI (by omega) (by omega), ?_⟩, fun n4 => ⟨fun e => up (fun g => ?_) (fun g => p_sortsOf hs.si hR'.2.1 (by omega) ?_), fun n5 => ⟨fun e => up (fun g => ?_) (fun g => p_tryOf hs.si hR'.2.1 (by omega) ?_), fun n6 => ?_⟩⟩⟩⟩⟩⟩⟩
    · rw [if_pos e, if_pos g] at hq; exact hq
    · rw [if_pos e, if_neg (by omega)] at hq
      show Q (a' 10 (nI i).toNatClampNeg) _
      rw [nI_clamp (by omega), hR'.1.2.2.1 i g hi]; exact hq
    · rw [if_neg n0, if_pos e] at hq
      show Q (a' 13 (nI i).toNatClampNeg) _
      rw [nI_clamp (by omega), h13 i hi]; exact hq
    · rw [if_neg n0, if_neg n1, if_pos e, if_pos g] at hq; exact hq
    · rw [if_neg n0, if_neg n1, if_pos e, if_neg (by omega)] at hq
      rw [e, show nI (lfN n 0 i) + 2 - 2 = nI (lfN n 0 i) by grind]; exact hq
    · rw [if_neg n0, if_neg n1, if_neg n2, if_pos e, if_pos g] at hq; exact hq
    · rw [if_neg n0, if_neg n1, if_neg n2, if_pos e, if_neg (by omega)] at hq
      rw [e, show nI (lfN n 0 i) + 3 - 2 = nI (lfN n 0 i + 1) by rw [← nI_1]; grind]; exact hq
    · rw [if_neg n0, if_neg n1, if_neg n2, if_neg n3, if_pos e] at hq
      show Q (a' 12 (nI i).toNatClampNeg) _
      rw [nI_clamp (by omega), hR'.1.2.2.2.2 i hi]; exact hq
    · rw [if_neg n0, if_neg n1, if_neg n2, if_neg n3, if_neg n4, if_pos e, if_pos g] at hq; exact hq
    · rw [if_neg n0, if_neg n1, if_neg n2, if_neg n3, if_neg n4, if_pos e, if_neg (by omega)] at hq; exact hq
    · rw [if_neg n0, if_neg n1, if_neg n2, if_neg n3, if_neg n4, if_neg n5, if_pos e, if_pos g] at hq; exact hq
    · rw [if_neg n0, if_neg n1, if_neg n2, if_neg n3, if_neg n4, if_neg n5, if_pos e, if_neg (by omega)] at hq; exact hq
    · rw [if_neg n0, if_neg n1, if_neg n2, if_neg n3, if_neg n4, if_neg n5, if_neg n6] at hq; exact hq
  exact pk_lt i n (fun g => fin _ (fun _ => rfl) (fun g2 => by omega)) (fun g => fin _ (fun g2 => by omega) (fun _ => rfl)) rfl hR'.1.1
theorem r_order {w : Nat} {Q : Int32 → MSt → Prop} (hs : SOK n kd D T s SG ch img kd1 D1 T1 s1 SG1 ch1 m L rd nd lk j) (hR : RIv n kd D T s SG ch img kd1 D1 T1 s1 SG1 ch1 m L rd nd lk mf ma) (hn : okN n) (hw : w ≤ 1) (h : ∀ a', KR mf mf ma a' → Q (nI (if w = 0 then topN n kd (dg n (bsV n kd D)) else bsV n kd D)) (mf, mg, a')) : w_X11_orderOf mf mg ma (nI w) Q := by
  refine p_orderOf (hs.pi hn) hR.1 hw (fun a' B hl hB => ?_)
  have := h a' hl.kr
  rw [bsV_eq hB] at this
  exact this
theorem r_fits {x : Nat} {Q : Int32 → MSt → Prop} (hs : SOK n kd D T s SG ch img kd1 D1 T1 s1 SG1 ch1 m L rd nd lk j) (hR : RIv n kd D T s SG ch img kd1 D1 T1 s1 SG1 ch1 m L rd nd lk mf ma) (hn : okN n) (hx : x < 2 ^ 31) (h : ∀ a', KR mf mf ma a' → Q (ftV n kd T x) (mf, mg, a')) : w_X11_fitsOf mf mg ma (nI x) Q := by
  refine p_fitsOf (hs.pi hn) hR.1 hx (fun a' N hl g1 g2 g3 => ?_) (fun a' hl g => ?_)
  · have := h a' hl.kr
    rw [ftV_eq g1 g2 g3] at this
    exact this
  · have := h a' hl.kr
    rw [ftV_no g] at this
    exact this
theorem sum0 {v : Nat → Nat} : sumN v 0 = 0 := rfl
theorem r_count {p : Int32} {Q : Int32 → MSt → Prop} (hs : SOK n kd D T s SG ch img kd1 D1 T1 s1 SG1 ch1 m L rd nd lk j) (hR : RIv n kd D T s SG ch img kd1 D1 T1 s1 SG1 ch1 m L rd nd lk mf ma) (h : ∀ a', KR mf mf ma a' → Q (ctV n kd D T s ch m rd nd lk p) (mf, mg, a')) : w_X11_countOf mf mg ma p Q := by
  obtain ⟨hI, hRS, h8, -, -, -, h1, -, h9, h15, h17⟩ := id hR
  unfold w_X11_countOf
  have h0 := h ma KR.rfl'
  unfold ctV at h h0
  refine ⟨fun e => ?_, fun n0 => ⟨fun e => ?_, fun n1 => ⟨fun e => ?_, fun n2 => ⟨fun e => ?_, fun n3 => ⟨fun e => ?_, fun n4 => ⟨fun e => ?_, fun n5 => ⟨fun e => ?_, fun n6 => ⟨fun e => ?_, fun n7 => ⟨fun e => ?_, fun n8 => ⟨fun e => ?_, fun n9 => ⟨fun e => ?_, fun n10 => ⟨fun e => ?_, fun n11 => ?_⟩⟩⟩⟩⟩⟩⟩⟩⟩⟩⟩⟩
  · rw [if_pos e] at h0; rw [hI.1]; exact h0
  · rw [if_neg n0, if_pos e] at h0; rw [hI.2.1]; exact h0
  · refine r_lk hs hR (fun hn => ⟨fun _ => p_topNow (hs.pi hn) hI (fun a' hl _ _ => ?_), fun hc => absurd rfl hc⟩) (fun hn0 => ⟨fun hc => absurd hc (by decide), fun _ => ?_⟩)
    · have := h a' hl.kr
      rw [if_neg n0, if_neg n1, if_pos e, if_neg (by have := hn.le; omega)] at this
      exact this
    · rw [if_neg n0, if_neg n1, if_pos e, if_pos hn0] at h0; exact h0
  · rcases hs.1 with hn | hn
    · subst hn
      refine p_all0 hI.2.1 (fun a' hl => ?_)
      have := h a' hl.kr
      rw [if_neg n0, if_neg n1, if_neg n2, if_pos e] at this
      exact this
    · refine p_valuesAll (hs.pi hn) hI (fun a' hl => ?_)
      have := h a' hl.kr
      rw [if_neg n0, if_neg n1, if_neg n2, if_pos e] at this
      exact this
  · rcases hs.1 with hn | hn
    · subst hn
      refine p_told0 hI.2.1 (fun a' hl => ?_)
      have := h a' hl.kr
      rw [if_neg n0, if_neg n1, if_neg n2, if_neg n3, if_pos e] at this
      exact this
    · refine p_toldMany (r := false) (hs.pi hn) hI (fun a' hl => ?_)
      have := h a' hl.kr
      rw [if_neg n0, if_neg n1, if_neg n2, if_neg n3, if_pos e] at this
      exact this
  · rcases hs.1 with hn | hn
    · subst hn
      refine p_told0 hI.2.1 (fun a' hl => ?_)
      have := h a' hl.kr
      rw [if_neg n0, if_neg n1, if_neg n2, if_neg n3, if_neg n4, if_pos e] at this
      exact this
    · refine p_toldMany (r := true) (hs.pi hn) hI (fun a' hl => ?_)
      have := h a' hl.kr
      rw [if_neg n0, if_neg n1, if_neg n2, if_neg n3, if_neg n4, if_pos e] at this
      exact this
  · rw [if_neg n0, if_neg n1, if_neg n2, if_neg n3, if_neg n4, if_neg n5, if_pos e] at h0; rw [h8]; exact h0
  · rw [if_neg n0, if_neg n1, if_neg n2, if_neg n3, if_neg n4, if_neg n5, if_neg n6, if_pos e] at h0; rw [hRS.1]; exact h0
  · rw [if_neg n0, if_neg n1, if_neg n2, if_neg n3, if_neg n4, if_neg n5, if_neg n6, if_neg n7, if_pos e] at h0; rw [h1]; exact h0
  · rw [if_neg n0, if_neg n1, if_neg n2, if_neg n3, if_neg n4, if_neg n5, if_neg n6, if_neg n7, if_neg n8, if_pos e] at h0; rw [h9]; exact h0
  · rw [if_neg n0, if_neg n1, if_neg n2, if_neg n3, if_neg n4, if_neg n5, if_neg n6, if_neg n7, if_neg n8, if_neg n9, if_pos e] at h0; rw [h15]; exact h0
  · rw [if_neg n0, if_neg n1, if_neg n2, if_neg n3, if_neg n4, if_neg n5, if_neg n6, if_neg n7, if_neg n8, if_neg n9, if_neg n10, if_pos e] at h0; rw [h17]; exact h0
  · rw [if_neg n0, if_neg n1, if_neg n2, if_neg n3, if_neg n4, if_neg n5, if_neg n6, if_neg n7, if_neg n8, if_neg n9, if_neg n10, if_neg n11] at h0; exact h0
end IV
