/-! ===== a pile out of a page: the class's constructor, the reference's reading ===== -/
/-- how the reference stands before it reads letter i: rows of bricks still to come, how far it is in this one, the next brick -/
def rwT (w i : Nat) : Nat := ([[], [], [0, 1, 1, 1, 0, 0, 0], [0, 2, 2, 2, 2, 1, 1, 0, 0, 0, 0], [0, 3, 3, 3, 3, 3, 2, 2, 2, 1, 1, 0, 0, 0, 0, 0]].getD w []).getD i 0
def heT (w i : Nat) : Nat := ([[], [], [0, 0, 0, 1, 0, 1, 2], [0, 0, 0, 1, 2, 0, 1, 0, 1, 2, 3], [0, 0, 0, 1, 2, 3, 0, 1, 2, 0, 1, 0, 1, 2, 3, 4]].getD w []).getD i 0
def mnT (w i : Nat) : Nat := ([[], [], [0, 2, 2, 3, 3, 3, 3], [0, 3, 3, 4, 5, 5, 6, 6, 6, 6, 6], [0, 4, 4, 5, 6, 7, 7, 8, 9, 9, 10, 10, 10, 10, 10, 10]].getD w []).getD i 0
/-- the letter that tells of which kind brick i is -/
def psK (w i : Nat) : Nat := ([[], [], [0, 0, 2], [0, 0, 0, 2, 3, 5], [0, 0, 0, 0, 2, 3, 4, 6, 7, 9]].getD w []).getD i 0
/-- how many figures are read ahead of letter i -/
def dgT (w i : Nat) : Nat := if rwT w i = 0 then heT w i else 0
def kdP (w : Nat) (L : Nat → Nat) (i : Nat) : Nat := kdN (L (psK w i)) % 5
def dgP (w : Nat) (L : Nat → Nat) (i : Nat) : Nat := (L (czm w - w + i) - 48) % 10
theorem tb_0 : ∀ w, w < 5 → 2 ≤ w → (rwT w 1 = w - 1 ∧ heT w 1 = 0 ∧ mnT w 1 = w ∧ rwT w 2 = w - 1 ∧ heT w 2 = 0 ∧ mnT w 2 = w ∧ fch w 0 = 48 + w ∧ fch w 1 = 59 ∧ 6 ≤ czm w ∧ dgT w 1 = 0 ∧ dgT w 2 = 0) := by decide +kernel
def tK (w i : Nat) : Bool := (decide (fch w i = 75) && (decide (0 < rwT w i) && (decide (heT w i ≠ rwT w i) && (decide (mnT w i < 10) && (decide (rwT w (i + 1) = rwT w i) && (decide (heT w (i + 1) = heT w i + 1) && (decide (mnT w (i + 1) = mnT w i + 1) && (decide (w ≤ mnT w i) && (decide (mnT w i < szN w) && (decide (psK w (mnT w i) = i) && decide (dgT w (i + 1) = dgT w i)))))))))))
def tS (w i : Nat) : Bool := ((decide (fch w i = 44) && decide (rwT w i ≠ 1)) || (decide (fch w i = 59) && decide (rwT w i = 1))) && (decide (0 < rwT w i) && (decide (heT w i = rwT w i) && (decide (rwT w (i + 1) = rwT w i - 1) && (decide (heT w (i + 1) = 0) && (decide (mnT w (i + 1) = mnT w i) && decide (dgT w (i + 1) = dgT w i))))))
def tD (w i : Nat) : Bool := (decide (fch w i = 68) && (decide (rwT w i = 0) && (decide (heT w i < w) && (decide (rwT w (i + 1) = 0) && (decide (heT w (i + 1) = heT w i + 1) && (decide (mnT w (i + 1) = mnT w i) && (decide (dgT w i < w) && (decide (dgT w (i + 1) = dgT w i + 1) && decide (czm w - w + dgT w i = i)))))))))
theorem tb_i' : ∀ w, w < 5 → ∀ i, i < 15 → (decide (w < 2) || (decide (i < 2) || (decide (czm w ≤ i) || (tK w i || (tS w i || tD w i))))) = true := by decide +kernel
theorem tb_i (w : Nat) (h5 : w < 5) (h2 : 2 ≤ w) (i : Nat) (hi : i < 15) (hi2 : 2 ≤ i) (hc : i < czm w) :
    ((fch w i = 75 ∧ 0 < rwT w i ∧ heT w i ≠ rwT w i ∧ mnT w i < 10 ∧ rwT w (i + 1) = rwT w i ∧ heT w (i + 1) = heT w i + 1 ∧ mnT w (i + 1) = mnT w i + 1 ∧ w ≤ mnT w i ∧ mnT w i < szN w ∧ psK w (mnT w i) = i ∧ dgT w (i + 1) = dgT w i)
    ∨ (((fch w i = 44 ∧ rwT w i ≠ 1) ∨ (fch w i = 59 ∧ rwT w i = 1)) ∧ 0 < rwT w i ∧ heT w i = rwT w i ∧ rwT w (i + 1) = rwT w i - 1 ∧ heT w (i + 1) = 0 ∧ mnT w (i + 1) = mnT w i ∧ dgT w (i + 1) = dgT w i)
    ∨ (fch w i = 68 ∧ rwT w i = 0 ∧ heT w i < w ∧ rwT w (i + 1) = 0 ∧ heT w (i + 1) = heT w i + 1 ∧ mnT w (i + 1) = mnT w i ∧ dgT w i < w ∧ dgT w (i + 1) = dgT w i + 1 ∧ czm w - w + dgT w i = i)) := by
  have h := tb_i' w h5 i hi
  simp only [tK, tS, tD, Bool.or_eq_true, Bool.and_eq_true, decide_eq_true_eq] at h
  rcases h with h | h | h | h
  · omega
  · omega
  · omega
  · exact h
theorem tb_e : ∀ w, w < 5 → 2 ≤ w → (rwT w (czm w) = 0 ∧ heT w (czm w) = w ∧ mnT w (czm w) = szN w ∧ dgT w (czm w) = w ∧ czm w ≤ 15 ∧ w ≤ czm w) := by decide +kernel
theorem tb_n' : ∀ w, w < 5 → ∀ i, i < 16 → (w < 2 ∨ i < 1 ∨ czm w ≤ i ∨ rwT w i ≠ 0 ∨ heT w i ≠ w) := by decide +kernel
theorem tb_n (w : Nat) (h5 : w < 5) (h2 : 2 ≤ w) (i : Nat) (hi : i < 16) (hi2 : 1 ≤ i) (hc : i < czm w) : ¬ (rwT w i = 0 ∧ heT w i = w) := by
  have := tb_n' w h5 i hi
  omega
theorem tb_p : ∀ w, w < 5 → 2 ≤ w → ∀ b, b < 10 → w ≤ b → b < szN w → psK w b < czm w := by decide +kernel
theorem bnd : ∀ w, w < 5 → ∀ i, i < 20 → (rwT w i < 2 ^ 31 ∧ heT w i < 2 ^ 31) := by decide +kernel
theorem kdN_sep : kdN 44 = 5 ∧ kdN 59 = 5 := by decide
theorem kdN_dig : ∀ v, v < 58 → 48 ≤ v → kdN v = 5 := by decide +kernel
theorem fm_cases {m : Nat} {L : Nat → Nat} : fmN m L = 0 ∨ (2 ≤ fmN m L ∧ fmN m L < 5 ∧ 0 < m ∧ L 0 = 48 + fmN m L) := by
  unfold fmN
  split
  · exact Or.inl rfl
  · split
    · rename_i h; exact Or.inr ⟨by omega, by omega, by omega, h⟩
    · split
      · rename_i h; exact Or.inr ⟨by omega, by omega, by omega, h⟩
      · split
        · rename_i h; exact Or.inr ⟨by omega, by omega, by omega, h⟩
        · exact Or.inl rfl
theorem fm_none {m : Nat} {L : Nat → Nat} (h : fmN m L = 0) (hm : 0 < m) : L 0 ≠ 50 ∧ L 0 ≠ 51 ∧ L 0 ≠ 52 := by
  unfold fmN at h
  rw [if_neg (by omega)] at h
  refine ⟨fun e => ?_, fun e => ?_, fun e => ?_⟩ <;> simp [e] at h
theorem pile_w {m : Nat} {L : Nat → Nat} (h : pileP m L) : 2 ≤ fmN m L ∧ fmN m L < 5 ∧ L 0 = 48 + fmN m L := by
  rcases fm_cases (m := m) (L := L) with h9 | h9
  · have h1 := h.1
    have h2 := h.2.1
    rw [h9] at h2
    have : czm 0 = 0 := rfl
    omega
  · exact ⟨h9.1, h9.2.1, h9.2.2.2⟩
/-- a page that is a pile tells how wide it is -/
theorem k_wide {m : Nat} {L : Nat → Nat} {bv bm : Nat} {ml cn : Int32} {bt : Nat → Int32} {Q : Int32 → Unit → Prop} (hp : CP m L bm cn bt) (hL : LI L) (hq : pileP m L) (h : Q (nI (fmN m L)) ()) : w_X4_wide bv bm ml cn bt Q := by
  obtain ⟨w2, w5, wL0⟩ := pile_w hq
  obtain ⟨e1, e2, e3, e4, e5, e6⟩ := tb_e _ w5 w2
  have hm := hq.2.1
  have hm0 := hq.1
  have hL0 := hL 0
  unfold w_X4_wide
  refine k_form hp hL ⟨w5, ?_⟩
  unfold w_J0_isEmpty_aae02
  refine ⟨fun _ => ⟨fun _ => ?_, fun hc => absurd rfl hc⟩, fun h9 => absurd h9 (nI_ne0 (by omega) (by omega))⟩
  refine k_letterAt hp hL (i := 0) (by omega) ?_
  rw [show (48 : Int32) = nI 48 from rfl, pk_sub (by omega), show L 0 - 48 = fmN m L by omega]
  exact h
theorem ok_suit {w i : Nat} {L : Nat → Nat} (h : okB w L i = true) : i < czm w ∧ suitB (L i) (fch w i) = true := by
  unfold okB at h
  rw [Bool.and_eq_true, decide_eq_true_iff] at h
  exact h
theorem suit_K {v : Nat} : suitB v 75 = true ↔ kdN v < 5 := by simp [suitB]
theorem suit_D {v : Nat} : suitB v 68 = true ↔ (48 ≤ v ∧ v ≤ 57) := by simp [suitB]
theorem suit_c {v c : Nat} (h1 : c ≠ 75) (h2 : c ≠ 68) : suitB v c = true ↔ v = c := by simp [suitB, h1, h2]
/-! the class's own -/
theorem slb_t : ∀ n, n < 5 → ∀ y, y < n → ∀ p, p < y → (n ≤ szN n - szN y + p ∧ szN n - szN y + p < szN n ∧ y + 1 ≤ szN n - szN y + p ∧ lfN n 0 (szN n - szN y + p) = szN n - szN y + p - y - 1) := by decide +kernel
theorem slb_s : ∀ n, n < 5 → ∀ y, y < n → 1 ≤ y → (szN n - szN y + y = szN n - szN (y - 1) ∧ n ≤ szN n - szN y) := by decide +kernel
theorem slb_0 : ∀ n, n < 5 → 1 ≤ n → szN n - szN (n - 1) = n := by decide +kernel
section PM
variable {n : Nat} {q : Nat → Nat} {f : Nat → Int32} {t : Nat} {a : Nat → Nat → Int32} {b : Nat → Nat → Int32} {sg : Nat → Nat → Option Nat}
theorem k_setLeft {Q : (Nat → Nat → Int32) → Prop} (hn : n = 0 ∨ okN n) (h : ∀ v, (∀ i, i < n → v i = -1) → (∀ i, n ≤ i → i < szN n → v i = nI (lfN n 0 i)) → Q (va_up a 0 v)) : w_X5_setLeftBelow n (szN n) q f t a b sg Q := by
  have hn5 : n < 5 ∧ szN n ≤ 10 := by
    rcases hn with rfl | h9
    · decide
    · have := h9.le; have := h9.sz; omega
  unfold w_X5_setLeftBelow
  refine k_fill (by omega) (fun z hz _ x2 e2 x3 e3 X hX => ?_)
  rcases hn with rfl | hn
  · have e3' : x3 = -1 := by rw [e3]; decide
    subst e3'
    refine hX _ _ _ ⟨fun _ => h z (fun i hi => by omega) (fun i _ hi => absurd hi (by simp [szN])), fun hc => absurd (by decide) hc⟩
  · have hl := hn.le
    have hs := hn.sz
    have key : ∀ y v, y < n → (∀ i, i < n → v i = -1) → (∀ i, n ≤ i → i < szN n - szN y → v i = nI (lfN n 0 i)) → X (nI (szN n - szN y)) (nI y) (va_up a 0 v) := by
      intro y
      induction y with
      | zero =>
        intro v _ h1 h2
        exact hX _ _ _ ⟨fun _ => h v h1 (fun i p r => h2 i p (by simpa [szN] using r)), fun hc => absurd (by decide) hc⟩
      | succ y ih =>
        intro v hy h1 h2
        refine hX _ _ _ ⟨fun hc => absurd hc (nI_nle (by omega) (by omega)), fun _ Y hY => ?_⟩
        obtain ⟨g1, g2⟩ := slb_s n hn5.1 (y + 1) hy (by omega)
        have inner : ∀ d p v, p + d = y + 1 → (∀ i, i < n → v i = -1) → (∀ i, n ≤ i → i < szN n - szN (y + 1) + p → v i = nI (lfN n 0 i)) → Y (nI (szN n - szN (y + 1) + p)) (nI p) (va_up a 0 v) := by
          intro d
          induction d with
          | zero =>
            intro p v hp h1 h2
            refine hY _ _ _ (fun J hJ => ?_)
            have hj : J := hJ (fun x14 e14 => by
              rw [e14, pk_m1, show p = y + 1 by omega, g1, show y + 1 - 1 = y by omega]
              refine ih v (by omega) h1 (fun i p1 r => h2 i p1 ?_)
              rw [show p = y + 1 by omega, g1, show y + 1 - 1 = y by omega]
              exact r)
            exact pk_le (y + 1) p (fun _ => hj) (fun _ => by omega)
          | succ d ihd =>
            intro p v hp h1 h2
            obtain ⟨g3, g4, g5, g6⟩ := slb_t n hn5.1 (y + 1) hy p (by omega)
            refine hY _ _ _ (fun J hJ => ?_)
            refine pk_le (y + 1) p (fun _ => by omega) (fun _ => pk_le (szN n) (szN n - szN (y + 1) + p) (fun _ => by omega) (fun _ x18 e18 => ⟨vp_in_nI g4 (by omega), fun x19 e19 x20 e20 => ?_⟩))
            rw [e18, e19, e20, nI_1, nI_1, pk_sub (by omega), show (1 : Int32) = nI 1 from rfl, pk_sub (by omega), nI_clamp (by omega), va_up_up, va_up_self, ← g6]
            refine ihd (p + 1) _ (by omega) (fun i hi => ?_) (fun i h3 h4 => ?_)
            · rw [pk_un (by omega)]; exact h1 i hi
            · by_cases hie : i = szN n - szN (y + 1) + p
              · subst hie; rw [pk_us]
              · rw [pk_un hie]; exact h2 i h3 (by omega)
        have := inner (y + 1) 0 v (by omega) h1 (fun i p r => h2 i p (by omega))
        exact this
    have g0 := slb_0 n hn5.1 (by omega)
    rw [e2, e3, show (1 : Int32) = nI 1 from rfl, pk_sub (by omega)]
    have := key (n - 1) z (by omega) (fun i hi => hz i (by omega)) (fun i p r => by omega)
    rw [g0] at this
    exact this
/-- the class reads a text that is a pile -/
theorem k_read {sm : Nat} {sb : Nat → Int32} {L : Nat → Nat} {Q : ((Nat → Nat → Int32) × (Nat → Nat → Int32)) → Prop} (hn : okN n) (hm : sm = czm n) (hL : LI L) (hsb : ∀ i, i < sm → sb i = nI (L i)) (hok : ∀ i, i < sm → okB n L i = true)
    (h : ∀ v z, (∀ i, i < n → v i = nI (dgP n L i)) → (∀ i, n ≤ i → i < szN n → z (i - n) = nI (kdP n L i)) → w_X5_build_0 n (szN n) q f t (va_up a 1 v) (va_up b 0 z) sg (fun u => Q (u, va_up b 0 z))) : w_X5_read n (szN n) q sm sb f t a b sg Q := by
  have hl := hn.le
  have hs := hn.sz
  subst hm
  obtain ⟨e1, e2, e3, e4, e5, e6⟩ := tb_e n (by omega) (by omega)
  unfold w_X5_read
  intro X hX
  have key : ∀ d i v z, i + d = czm n → 2 ≤ i → (∀ j, j < dgT n i → v j = nI (dgP n L j)) → (∀ j, n ≤ j → j < mnT n i → z (j - n) = nI (kdP n L j)) → X (nI (mnT n i - n)) (nI (dgT n i)) (nI i) (va_up a 1 v) (va_up b 0 z) := by
    intro d
    induction d with
    | zero =>
      intro i v z hi _ hv hz
      have hie : i = czm n := by omega
      subst hie
      refine hX _ _ _ _ _ (k_slen (by omega) (pk_le (czm n) (czm n) (fun _ => h v z (fun j hj => hv j (by omega)) (fun j p r => hz j p (by omega))) (fun _ => by omega)))
    | succ d ih =>
      intro i v z hi h2 hv hz
      have hLi := hL i
      obtain ⟨o1, o2⟩ := ok_suit (hok i (by omega))
      refine hX _ _ _ _ _ (k_slen (by omega) (pk_le (czm n) i (fun _ => by omega) (fun _ => ?_)))
      refine k_schar (by omega) (by omega) (hsb i (by omega)) hLi ?_
      rcases tb_i n (by omega) (by omega) i (by omega) h2 (by omega) with ⟨c1, c2, c3, c4, c5, c6, c7, c8, c9, c10, c11⟩ | ⟨c1, c2, c3, c4, c5, c6, c7⟩ | ⟨c1, c2, c3, c4, c5, c6, c7, c8, c9⟩
      · rw [c1, suit_K] at o2
        refine k_index hLi (fun _ => k_schar (by omega) (by omega) (hsb i (by omega)) hLi (fun x17 _ J23 hJ23 J25 _ => ?_)) (fun g => by omega)
        refine ⟨fun hc => absurd hc (nI_pos (by omega)), fun _ => ⟨fun hc => absurd hc (nI_ge (b := 5) o2 (by omega)), fun _ => pk_le (szN n - n) (mnT n i - n) (fun _ => by omega) (fun _ => ⟨vp_in_nI (by omega) (by omega), fun x37 e37 => hJ23 _ _ _ _ (fun x24 e24 => ?_)⟩)⟩⟩
        rw [e37, e24, nI_1, nI_1, va_up_up, va_up_self, nI_clamp (by omega)]
        have := ih (i + 1) v (upd z (mnT n i - n) (nI (kdN (L i)))) (by omega) (by omega) (fun j hj => hv j (by omega)) (fun j p r => by
          by_cases hj : j = mnT n i
          · subst hj
            rw [pk_us]
            unfold kdP
            rw [c10, Nat.mod_eq_of_lt o2]
          · rw [pk_un (by omega)]; exact hz j p (by omega))
        rw [c7, c11, show mnT n i + 1 - n = mnT n i - n + 1 by omega] at this
        exact this
      · have hsep : L i = 44 ∨ L i = 59 := by
          rcases c1 with ⟨c1, -⟩ | ⟨c1, -⟩
          · rw [c1, suit_c (by decide) (by decide)] at o2; exact Or.inl o2
          · rw [c1, suit_c (by decide) (by decide)] at o2; exact Or.inr o2
        have hk5 : kdN (L i) = 5 := by rcases hsep with g | g <;> rw [g] <;> decide
        refine k_index hLi (fun g => by omega) (fun _ => k_schar (by omega) (by omega) (hsb i (by omega)) hLi (fun x17 e17 J23 hJ23 J25 hJ25 => ?_))
        refine ⟨fun _ => hJ25 ?_, fun hc => absurd (by decide) hc⟩
        refine k_dn (fun hc => ?_) ⟨fun _ => hJ23 _ _ _ _ (fun x24 e24 => ?_), fun hc => absurd rfl hc⟩
        · have et : x17.toInt = (L i : Int) - 48 := by rw [e17]; exact pk_sub_toInt (b := 48) (by omega) (by omega)
          omega
        · rw [e24, nI_1]
          have := ih (i + 1) v z (by omega) (by omega) (fun j hj => hv j (by omega)) (fun j p r => hz j p (by omega))
          rw [c6, c7] at this
          exact this
      · rw [c1, suit_D] at o2
        have hk5 := kdN_dig (L i) (by omega) o2.1
        refine k_index hLi (fun g => by omega) (fun _ => k_schar (by omega) (by omega) (hsb i (by omega)) hLi (fun x17 e17 J23 hJ23 J25 hJ25 => ?_))
        refine ⟨fun _ => hJ25 ?_, fun hc => absurd (by decide) hc⟩
        have e17' : x17 = nI (L i - 48) := by rw [e17, show (48 : Int32) = nI 48 from rfl, pk_sub (by omega)]
        subst e17'
        refine k_dy (by omega) ⟨fun hc => absurd hc (by decide), fun _ => pk_le n (dgT n i) (fun _ => by omega) (fun _ => ⟨vp_in_nI (by omega) (by omega), fun x30 e30 => hJ23 _ _ _ _ (fun x24 e24 => ?_)⟩)⟩
        rw [e30, e24, nI_1, nI_1, va_up_up, va_up_self, nI_clamp (by omega)]
        have := ih (i + 1) (upd v (dgT n i) (nI (L i - 48))) z (by omega) (by omega) (fun j hj => by
          by_cases hj2 : j = dgT n i
          · subst hj2
            rw [pk_us]
            unfold dgP
            rw [c9, Nat.mod_eq_of_lt (by omega)]
          · rw [pk_un hj2]; exact hv j (by omega)) (fun j p r => hz j p (by omega))
        rw [c6, c8] at this
        exact this
  obtain ⟨s1, s2, s3, s4, s5, s6, s7, s8, s9, s10, s11⟩ := tb_0 n (by omega) (by omega)
  have hL1 := hL 1
  obtain ⟨o1, o2⟩ := ok_suit (hok 1 (by omega))
  rw [s8, suit_c (by decide) (by decide)] at o2
  refine hX _ _ _ _ _ (k_slen (by omega) (pk_le (czm n) 1 (fun _ => by omega) (fun _ => ?_)))
  refine k_schar (i := 1) (by omega) (by omega) (hsb 1 (by omega)) hL1 ?_
  have hk5 : kdN (L 1) = 5 := by rw [o2]; decide
  refine k_index hL1 (fun g => by omega) (fun _ => k_schar (i := 1) (by omega) (by omega) (hsb 1 (by omega)) hL1 (fun x17 e17 J23 hJ23 J25 hJ25 => ?_))
  refine ⟨fun _ => hJ25 ?_, fun hc => absurd (by decide) hc⟩
  refine k_dn (fun hc => ?_) ⟨fun _ => hJ23 _ _ _ _ (fun x24 e24 => ?_), fun hc => absurd rfl hc⟩
  · have et : x17.toInt = (L 1 : Int) - 48 := by rw [e17]; exact pk_sub_toInt (b := 48) (by omega) (by omega)
    omega
  · have := key (czm n - 2) 2 (a 1) (b 0) (by omega) (by omega) (fun j hj => by omega) (fun j p r => by omega)
    rw [s6, s11, va_up_id, va_up_id, Nat.sub_self] at this
    rw [e24]
    exact this
theorem k_state {n : Nat} {Q : (Nat × Nat × Nat × Nat × Nat × Nat × (Nat → Int32) × Nat × Nat) → Prop} (hn : n ≤ 4) (hs : szN n ≤ 10) (hns : n ≤ szN n) (h : ∀ q2 q4 q6 v q9, (∀ i, i < szN n → v i = -1) → Q (q2, szN n - n, q4, n, q6, szN n, v, q9, 6)) : w_X8_init (nI n) (nI (szN n)) Q := by
  unfold w_X8_init
  refine ⟨szN n - n, pk_sub hns, by omega, fun q2 => ⟨n, rfl, by omega, fun q4 => ⟨szN n, rfl, hs, fun q6 => ?_⟩⟩⟩
  exact k_fill (by omega) (fun z hz _ => ⟨6, rfl, by omega, fun q9 => h q2 q4 q6 z q9 hz⟩)
theorem tl_t : ∀ n, n < 5 → 2 ≤ n → ∀ y, y < n + 1 → ∀ p, p < y → (szN n - szN y + p < szN n ∧ bgN n (szN n - szN y + p) + 9 * 3 ^ (n - y) + 1 = bgN n (szN n - szN y + p + 1) ∧ bgN n (szN n - szN y + p + 1) ≤ 532) := by decide +kernel
theorem tl_s : ∀ n, n < 5 → ∀ y, y < n + 1 → 1 ≤ y → szN n - szN y + y = szN n - szN (y - 1) := by decide +kernel
theorem tl_e : ∀ n, n < 5 → 2 ≤ n → bgN n (szN n) = toL n := by decide +kernel
theorem tl_0 : ∀ n, n < 5 → bgN n 0 = 0 := by decide +kernel
/-- a new Tally: where the counts of each brick begin -/
theorem k_tally0 {n : Nat} {Q : (Nat × Nat × (Nat → Int32) × Nat × Nat) → Prop} (hn : n = 0 ∨ okN n) (h : ∀ q2 z q11, (∀ i, i < szN n → z i = nI (bgN n i) ∧ z (i + 1) = nI (bgN n (i + 1))) → Q (q2, szN n + 1, z, q11, toL n)) : w_X12_init (nI n) (nI (szN n)) Q := by
  have hn5 : n < 5 ∧ szN n ≤ 10 := by
    rcases hn with rfl | h9
    · decide
    · have := h9.le; have := h9.sz; omega
  unfold w_X12_init
  refine ⟨szN n + 1, nI_1 _, by omega, fun q2 X hX => ?_⟩
  rcases hn with rfl | hn
  · refine hX _ _ _ _ ⟨fun _ => ⟨vp_in_nI (by decide) (by decide), 0, rfl, by omega, fun q11 => h q2 _ q11 (fun i hi => absurd hi (by simp [szN]))⟩, fun hc => absurd (by decide) hc⟩
  · have hl := hn.le
    have hs := hn.sz
    have key : ∀ y z, y ≤ n → (∀ i, i ≤ szN n - szN y → z i = nI (bgN n i)) → X (nI (szN n - szN y)) (nI (9 * 3 ^ (n - y))) (nI y) z := by
      intro y
      induction y with
      | zero =>
        intro z _ hz
        have hz' : ∀ i, i ≤ szN n → z i = nI (bgN n i) := fun i hi => hz i (by simpa [szN] using hi)
        refine hX _ _ _ _ ⟨fun _ => ⟨vp_in_nI (by omega) (by omega), toL n, ?_, to_le n hn5.1, fun q11 => h q2 z q11 (fun i hi => ⟨hz' i (by omega), hz' (i + 1) (by omega)⟩)⟩, fun hc => absurd (by decide) hc⟩
        rw [nI_clamp (by omega), hz' _ (Nat.le_refl _), tl_e n hn5.1 (by omega)]
      | succ y ih =>
        intro z hy hz
        refine hX _ _ _ _ ⟨fun hc => absurd hc (nI_nle (by omega) (by omega)), fun _ Y hY => ?_⟩
        have g1 := tl_s n hn5.1 (y + 1) (by omega) (by omega)
        have inner : ∀ d p z, p + d = y + 1 → (∀ i, i ≤ szN n - szN (y + 1) + p → z i = nI (bgN n i)) → Y (nI (szN n - szN (y + 1) + p)) (nI p) z := by
          intro d
          induction d with
          | zero =>
            intro p z hp hz
            refine hY _ _ _ (fun J hJ => ?_)
            have hj : J := hJ (fun x17 e17 x18 e18 => by
              have e17' : x17 = nI (9 * 3 ^ (n - y)) := by
                rw [e17, show (3 : Int32) = nI 3 from rfl, pk_mul, show n - y = (n - (y + 1)) + 1 by omega, Nat.pow_succ, Nat.mul_assoc]
              rw [e17', e18, pk_m1]
              have hpe : p = y + 1 := by omega
              subst hpe
              rw [g1, show y + 1 - 1 = y by omega]
              refine ih z (by omega) (fun i hi => hz i ?_)
              rw [g1, show y + 1 - 1 = y by omega]
              exact hi)
            clear hJ
            exact pk_le (y + 1) p (fun _ => hj) (fun h9 => absurd h9 (by omega))
          | succ d ihd =>
            intro p z hp hz
            obtain ⟨g3, g4, g5⟩ := tl_t n hn5.1 (by omega) (y + 1) (by omega) p (by omega)
            refine hY _ _ _ (fun J hJ => ?_)
            clear hJ
            have ei : nI (szN n - szN (y + 1) + p) + (1 : Int32) = nI (szN n - szN (y + 1) + p + 1) := nI_1 _
            rw [ei]
            refine pk_le (y + 1) p (fun h9 => absurd h9 (by omega)) (fun _ => pk_le (szN n) (szN n - szN (y + 1) + p) (fun h9 => absurd h9 (by omega)) (fun _ => ⟨vp_in_nI (by omega) (by omega), fun x23 e23 => ⟨vp_in_nI (by omega) (by omega), fun x24 e24 x25 e25 => ?_⟩⟩))
            have e23' : x23 = nI (bgN n (szN n - szN (y + 1) + p + 1)) := by
              rw [e23, nI_clamp (by omega), hz _ (Nat.le_refl _), nI_add, nI_1, g4]
            rw [e24, e25, e23', nI_1, nI_clamp (by omega)]
            refine ihd (p + 1) _ (by omega) (fun i hi => ?_)
            by_cases hie : i = szN n - szN (y + 1) + p + 1
            · subst hie; rw [pk_us]
            · rw [pk_un hie]; exact hz i (by omega)
        exact inner (y + 1) 0 z (by omega) (fun i hi => hz i (by omega))
    have := key n (fun _ => 0) (Nat.le_refl _) (fun i hi => by
      rw [Nat.sub_self] at hi
      rw [show i = 0 by omega, tl_0 n hn5.1]
      rfl)
    rw [Nat.sub_self, Nat.sub_self] at this
    exact this
/-- a new Pile, so wide, nothing in it -/
theorem k_new {h0 qK : Nat} {Q : ((Nat → Nat) × Nat × Nat × (Nat → Int32) × Nat × (Nat → Nat → Int32) × (Nat → Nat → Int32) × (Nat → Nat → Option Nat)) → Prop} (hn : n = 0 ∨ okN n)
    (h : ∀ q0 t a' b', (∀ i, i < n → a' 0 i = -1) → (∀ i, n ≤ i → i < szN n → a' 0 i = nI (lfN n 0 i)) → (∀ i, i < szN n → a' 2 i = -1) → BG n b' → Q (q0, n, szN n, upd (fun _ => 0) 7 (-1), t, a', b', fun _ _ => none)) : w_X5_init h0 qK (nI n) Q := by
  have hn5 : n ≤ 4 ∧ szN n ≤ 10 ∧ n ≤ szN n := by
    rcases hn with rfl | h9
    · decide
    · have := h9.le; have := h9.sz; omega
  obtain ⟨hl, hs, hns⟩ := hn5
  unfold w_X5_init
  intro x5 e5
  have e5' : x5 = nI (szN n) := by
    rw [e5, nI_1, pk_mul, show (2 : Int32) = nI 2 from rfl, pk_div (by rcases hn with rfl | rfl | rfl | rfl <;> decide) (by omega) (by omega)]
    rfl
  subst e5'
  refine ⟨szN n, rfl, by omega, fun q7 q8 => k_state (n := n) (by omega) (by omega) (by omega) (fun q2 q4 q6 v hv9 hv => ?_)⟩
  intro q14
  refine k_state (n := n) (by omega) (by omega) (by omega) (fun r2 r4 r6 v2 r9 hv2 => ?_)
  refine ⟨szN n, rfl, by omega, fun q21 => ⟨szN n, rfl, by omega, fun q23 => ⟨10 * n, by rw [show (10 : Int32) = nI 10 from rfl, pk_mul, Nat.mul_comm], by omega, fun q25 q26 => ?_⟩⟩⟩
  refine ⟨szN n, ?_, by omega, fun q27 => ?_⟩
  · show nI n + nI (szN n - n) = nI (szN n)
    rw [nI_add]
    exact congrArg nI (by omega)
  intro q28
  refine k_tally0 hn (fun q29 z9 q30 hz9 => ⟨szN n, rfl, by omega, fun q31 => k_fill (by omega) (fun z8 hz8 _ => ?_)⟩)
  refine ⟨n, szN n, rfl, rfl, rfl, rfl, rfl, rfl, rfl, rfl, rfl, rfl, rfl, rfl, rfl, rfl, rfl, rfl, rfl, rfl, ?_⟩
  refine k_setLeft hn (fun y hy1 hy2 => ?_)
  refine h _ _ _ _ (fun i hi => ?_) (fun i p r => ?_) (fun i hi => ?_) ⟨fun i hi => ?_, fun i hi => ?_⟩
  · rw [va_up_self]; exact hy1 i hi
  · rw [va_up_self]; exact hy2 i p r
  · dsimp only
    rw [va_up_ne _ _ (by decide), va_up_ne _ _ (by decide), va_up_self]; exact hv i hi
  · rw [va_up_ne _ _ (by decide), va_up_self]; exact hz9 i hi
  · rw [va_up_self]; exact hz8 i (by omega)
/-- a new Pile of no text -/
theorem k_init0 {h0 qK : Nat} {Q : ((Nat → Nat) × Nat × Nat × (Nat → Int32) × Nat × (Nat → Nat → Int32) × (Nat → Nat → Int32) × (Nat → Nat → Option Nat)) → Prop} (h : ∀ q0 t a' b', Q (q0, 0, 0, upd (fun _ => 0) 7 (-1), t, a', b', fun _ _ => none)) : w_X5_init h0 qK (0 : Int32) Q :=
  k_new (n := 0) (Or.inl rfl) (fun q0 t a' b' _ _ _ _ => h q0 t a' b')
/-- a new Pile reads a text that is one -/
theorem k_readB {sm : Nat} {sb : Nat → Int32} {L : Nat → Nat} {Q : ((Nat → Nat → Int32) × (Nat → Nat → Int32)) → Prop} (hn : okN n) (hm : sm = czm n) (hL : LI L) (hsb : ∀ i, i < sm → sb i = nI (L i)) (hok : ∀ i, i < sm → okB n L i = true) (hy1 : ∀ i, i < n → a 0 i = -1) (hy2 : ∀ i, n ≤ i → i < szN n → a 0 i = nI (lfN n 0 i)) (hv : ∀ i, i < szN n → a 2 i = -1) (hBG : BG n b)
    (h : ∀ a' b', CB n (kdP n L) a' b' → (∀ i, i < n → a' 0 i = -1) → (∀ i, i < n → a' 1 i = nI (dgP n L i)) → (∀ i, i < szN n → a' 2 i = -1) → (∀ i, i < szN n → a' 5 i = nI (vl n (kdP n L) (dgP n L) i)) → Q (a', b')) : w_X5_read n (szN n) q sm sb f t a b sg Q := by
  refine k_read hn hm hL hsb hok (fun v' z hv' hz => ?_)
  refine k_build_0 (kd := kdP n L) (x := dgP n L) hn (fun i => Nat.mod_lt _ (by omega)) (fun i => by have := Nat.mod_lt (L (czm n - n + i) - 48) (show 0 < 10 by omega); unfold dgP; omega) ⟨fun i p r => ?_, fun i p r => ?_, hBG.cong (va_up_ne _ _ (by decide)) (va_up_ne _ _ (by decide))⟩ (fun i hi => ?_) (fun y5 hy5 => ?_)
  · rw [va_up_ne _ _ (by decide)]; exact hy2 i p r
  · rw [va_up_self]; exact hz i p r
  · rw [va_up_self]; exact hv' i hi
  · refine h _ _ ⟨fun i p r => ?_, fun i p r => ?_, hBG.cong (va_up_ne _ _ (by decide)) (va_up_ne _ _ (by decide))⟩ (fun i hi => ?_) (fun i hi => ?_) (fun i hi => ?_) (fun i hi => ?_)
    · rw [va_up_ne _ _ (by decide), va_up_ne _ _ (by decide)]; exact hy2 i p r
    · rw [va_up_self]; exact hz i p r
    · rw [va_up_ne _ _ (by decide), va_up_ne _ _ (by decide)]; exact hy1 i hi
    · rw [va_up_ne _ _ (by decide), va_up_self]; exact hv' i hi
    · rw [va_up_ne _ _ (by decide), va_up_ne _ _ (by decide)]; exact hv i hi
    · rw [va_up_self]; exact hy5 i hi
end PM
/-! ===== the reference reads ===== -/
/-- what is no part of what the reference stands for may have changed -/
def KR (f f' : Nat → Int32) (a a' : Nat → Nat → Int32) : Prop := (∀ j, j ≠ 2 → j ≠ 3 → j ≠ 4 → j ≠ 20 → f' j = f j) ∧ ∀ j, j ≠ 5 → j ≠ 13 → j ≠ 14 → j ≠ 16 → a' j = a j
theorem KR.rfl' {f : Nat → Int32} {a : Nat → Nat → Int32} : KR f f a a := ⟨fun _ _ _ _ _ => rfl, fun _ _ _ _ _ => rfl⟩
theorem KR.trans {f f' f'' : Nat → Int32} {a a' a'' : Nat → Nat → Int32} (h : KR f f' a a') (h2 : KR f' f'' a' a'') : KR f f'' a a'' := ⟨fun j p q r s => (h2.1 j p q r s).trans (h.1 j p q r s), fun j p q r s => (h2.2 j p q r s).trans (h.2 j p q r s)⟩
theorem LayW.kr {f : Nat → Int32} {a a' : Nat → Nat → Int32} (h : LayW a a') : KR f f a a' := ⟨fun _ _ _ _ _ => rfl, fun j _ q r s => h j q r s⟩
theorem Lay.kr {f : Nat → Int32} {a a' : Nat → Nat → Int32} (h : Lay a a') : KR f f a a' := h.w.kr
theorem KR.up {f f' : Nat → Int32} {a a' : Nat → Nat → Int32} {j : Nat} {x : Int32} (h : KR f f' a a') (hj : j = 2 ∨ j = 3 ∨ j = 4 ∨ j = 20) : KR f (upd f' j x) a a' := ⟨fun i p q r s => by rw [pk_un (by rcases hj with rfl | rfl | rfl | rfl <;> assumption)]; exact h.1 i p q r s, h.2⟩
theorem KR.ua {f f' : Nat → Int32} {a a' : Nat → Nat → Int32} {v : Nat → Int32} (h : KR f f' a a') : KR f f' a (va_up a' 5 v) := ⟨h.1, fun i p q r s => by rw [va_up_ne _ _ p]; exact h.2 i p q r s⟩
theorem p_kindBy {v : Nat} {Q : Int32 → Prop} (hv : v < 127) (h1 : kdN v < 5 → Q (nI (kdN v))) (h0 : kdN v = 5 → Q (-1)) : w_X11_kindBy (nI v) Q := by
  unfold w_X11_kindBy
  rw [show (103 : Int32) = nI 103 from rfl, show (108 : Int32) = nI 108 from rfl, show (109 : Int32) = nI 109 from rfl, show (115 : Int32) = nI 115 from rfl, show (119 : Int32) = nI 119 from rfl, nI_eq (by omega) (by omega), nI_eq (by omega) (by omega), nI_eq (by omega) (by omega), nI_eq (by omega) (by omega), nI_eq (by omega) (by omega)]
  refine ⟨fun e => ?_, fun n1 => ⟨fun e => ?_, fun n2 => ⟨fun e => ?_, fun n3 => ⟨fun e => ?_, fun n4 => ⟨fun e => ?_, fun n5 => h0 (by simp [kdN, n1, n2, n3, n4, n5])⟩⟩⟩⟩⟩
  all_goals subst e; exact h1 (by decide)
theorem tb_d : ∀ w, w < 5 → 2 ≤ w → ∀ i, i < w → (fch w (czm w - w + i) = 68 ∧ czm w - w + i < czm w) := by decide +kernel
section PRD
variable {m : Nat} {L : Nat → Nat} {f : Nat → Int32} {g : Int64} {a : Nat → Nat → Int32}
/-- how the reference stands at letter i, all ahead of it being good -/
def RdS (w : Nat) (L : Nat → Nat) (i : Nat) (f : Nat → Int32) (a : Nat → Nat → Int32) : Prop := f 2 = nI (rwT w i) ∧ f 3 = nI (heT w i) ∧ f 4 = nI (mnT w i) ∧ ∀ b, w ≤ b → b < mnT w i → a 5 b = nI (kdP w L b)
theorem p_good {w i : Nat} {Q : Int32 → MSt → Prop} (hw : 2 ≤ w) (hw5 : w < 5) (hL : LI L) (ha : a 0 i = nI (L i)) (ha0 : a 0 0 = nI (48 + w)) (hi : i < 18) (h1 : 1 ≤ i) (hic : i ≤ czm w) (hS : RdS w L i f a) (hy : ∀ f' a', okB w L i = true → KR f f' a a' → RdS w L (i + 1) f' a' → Q 1 (f', g, a')) (hno : ∀ f' a', okB w L i = false → KR f f' a a' → Q 0 (f', g, a')) : w_X11_isGood f g a (nI i) Q := by
  have hLi := hL i
  obtain ⟨S1, S2, S3, S4⟩ := hS
  obtain ⟨t1, t2, t3, t4, t5, t6⟩ := tb_e w hw5 hw
  obtain ⟨s1, s2, s3, s4, s5, s6, s7, s8, s9, s10, s11⟩ := tb_0 w hw5 hw
  have hob : i < czm w → okB w L i = suitB (L i) (fch w i) := fun h => by unfold okB; rw [decide_eq_true h, Bool.true_and]
  unfold w_X11_isGood
  refine ⟨vp_in_nI hi (by omega), fun x2 e2 => ?_⟩
  rw [nI_clamp (by omega), ha] at e2
  subst e2
  refine ⟨fun hc => absurd hc (nI_ne0 (by omega) (by omega)), fun _ => ?_⟩
  by_cases hi1 : i = 1
  · subst hi1
    refine ⟨fun _ => ?_, fun hc => absurd rfl hc⟩
    rw [show (59 : Int32) = nI 59 from rfl, nI_eq (by omega) (by omega)]
    have hb := hob (by omega)
    rw [s8] at hb
    refine ⟨fun hne => hno _ _ ?_ KR.rfl', fun he => hy _ _ ?_ KR.rfl' ⟨?_, ?_, ?_, ?_⟩⟩
    · rw [hb]; simp [suitB, hne]
    · rw [hb, he]; rfl
    · rw [S1, s1, s4]
    · rw [S2, s2, s5]
    · rw [S3, s3, s6]
    · intro b p r
      rw [show (1 : Nat) + 1 = 2 from rfl, s6] at r
      omega
  · refine ⟨fun hc => by
      rw [show (1 : Int32) = nI 1 from rfl, nI_eq (by omega) (by omega)] at hc
      exact absurd hc hi1, fun _ => ?_⟩
    rcases Nat.lt_or_ge i (czm w) with hlt | hge
    · have hb := hob hlt
      rcases tb_i w hw5 hw i (by omega) (by omega) hlt with ⟨c1, c2, c3, c4, c5, c6, c7, c8, c9, c10, c11⟩ | ⟨c1, c2, c3, c4, c5, c6, c7⟩ | ⟨c1, c2, c3, c4, c5, c6, c7, c8, c9⟩
      · rw [c1] at hb
        have hr3 : rwT w i < 2 ^ 31 ∧ heT w i < 2 ^ 31 := bnd w hw5 i (by omega)
        refine ⟨fun hc => absurd hc (by rw [S1]; exact nI_nle c2 hr3.1), fun _ => ?_⟩
        unfold w_X11_isRowSign
        refine ⟨fun _ => ?_, fun he => ?_⟩
        · have fin : ∀ r, (kdN (L i) < 5 → r = nI (kdN (L i))) → (kdN (L i) = 5 → r = -1) → (vp_in (f 4) 10 ∧ ∀ x4 : Int32, x4 = f 4 + 1 → ∀ x5 : Int32, x5 = f 3 + 1 → w_X11_kindBy (nI (L i)) (fun r6 => ((r6 = -1 → (isB 0 ∧ Q 0 (upd (upd f 4 x4) 3 x5, g, va_up a 5 (upd (a 5) (f 4).toNatClampNeg r)))) ∧ (¬ r6 = -1 → (isB 1 ∧ Q 1 (upd (upd f 4 x4) 3 x5, g, va_up a 5 (upd (a 5) (f 4).toNatClampNeg r))))))) := by
            intro r hr1 hr2
            rw [S3]
            refine ⟨vp_in_nI c4 (by omega), fun x4 e4 x5 e5 => p_kindBy hLi (fun hk => ⟨fun hc => absurd hc (nI_nem1 (by omega)), fun _ => ⟨isB_1, ?_⟩⟩) (fun hk => ⟨fun _ => ⟨isB_0, ?_⟩, fun hc => absurd rfl hc⟩)⟩
            · refine hy _ _ (by rw [hb]; exact suit_K.mpr hk) ((KR.rfl'.up (Or.inr (Or.inr (Or.inl rfl)))).up (Or.inr (Or.inl rfl))).ua ⟨?_, ?_, ?_, fun b p r' => ?_⟩
              · rw [pk_un (by decide), pk_un (by decide), S1, c5]
              · rw [pk_us, e5, S2, nI_1, c6]
              · rw [pk_un (by decide), pk_us, e4, nI_1, c7]
              · rw [va_up_self, nI_clamp (by omega)]
                by_cases hbm : b = mnT w i
                · subst hbm
                  rw [pk_us, hr1 hk]
                  unfold kdP
                  rw [c10, Nat.mod_eq_of_lt hk]
                · rw [pk_un hbm]; exact S4 b p (by omega)
            · refine hno _ _ ?_ ((KR.rfl'.up (Or.inr (Or.inr (Or.inl rfl)))).up (Or.inr (Or.inl rfl))).ua
              rw [hb]
              have : ¬ kdN (L i) < 5 := by omega
              simp [suitB, this]
          exact p_kindBy hLi (fun hk => fin _ (fun _ => rfl) (fun h9 => by omega)) (fun hk => fin _ (fun h9 => by omega) (fun _ => rfl))
        · rw [S1, S2, nI_eq (by omega) (by omega)] at he
          exact absurd he c3
      · have hr3 : rwT w i < 2 ^ 31 ∧ heT w i < 2 ^ 31 := bnd w hw5 i (by omega)
        refine ⟨fun hc => absurd hc (by rw [S1]; exact nI_nle c2 hr3.1), fun _ => ?_⟩
        unfold w_X11_isRowSign
        refine ⟨fun hne => absurd (by rw [S1, S2, c3]) hne, fun _ x8 e8 J10 hJ10 => ?_⟩
        have e8' : x8 = nI (rwT w i - 1) := by rw [e8, S1, show (1 : Int32) = nI 1 from rfl, pk_sub (by omega)]
        subst e8'
        have fin : ∀ c, c < 127 → fch w i = c → c ≠ 75 → c ≠ 68 → J10 (nI c) := fun c hc hf hc1 hc2 => hJ10 _ (by
          rw [nI_eq (by omega) (by omega)]
          rw [hf] at hb
          refine ⟨fun hne => ⟨isB_0, hno _ _ ?_ ((KR.rfl'.up (Or.inl rfl)).up (Or.inr (Or.inl rfl)))⟩, fun he => ⟨isB_1, hy _ _ ?_ ((KR.rfl'.up (Or.inl rfl)).up (Or.inr (Or.inl rfl))) ⟨?_, ?_, ?_, fun b p r => S4 b p (by omega)⟩⟩⟩
          · rw [hb]; simp [suitB, hc1, hc2, hne]
          · rw [hb]; exact (suit_c hc1 hc2).mpr he
          · rw [pk_un (by decide), pk_us, c4]
          · rw [pk_us, c5]; rfl
          · rw [pk_un (by decide), pk_un (by decide), S3, c6])
        rcases c1 with ⟨d1, d2⟩ | ⟨d1, d2⟩
        · exact ⟨fun _ => fin 44 (by omega) d1 (by decide) (by decide), fun hc => absurd hc (nI_ne0 (by omega) (by omega))⟩
        · exact ⟨fun hc => absurd (by rw [d2]; rfl) hc, fun _ => fin 59 (by omega) d1 (by decide) (by decide)⟩
      · rw [c1] at hb
        refine ⟨fun _ => ?_, fun hc => absurd (by rw [S1, c2]; decide) hc⟩
        unfold w_X11_isFigureSign
        intro x1 e1
        rw [S2, nI_1] at e1
        subst e1
        have hLit : (nI (L i)).toInt = (L i : Int) := nI_toInt (by omega)
        refine p_in (a := 48) (b := 57) rfl rfl (fun g1 g2 => ⟨fun hc => absurd hc (by decide), fun _ => ⟨vp_in_nI (n := 0) (by omega) (by omega), ?_⟩⟩) (fun g1 => ⟨fun _ => ⟨isB_0, ?_⟩, fun hc => absurd rfl hc⟩)
        · rw [show (0 : Int32).toNatClampNeg = 0 from rfl, ha0, show (48 : Int32) = nI 48 from rfl, pk_sub (by omega), show 48 + w - 48 = w by omega, nI_ltI (by omega) (by omega)]
          refine ⟨fun hc => by omega, fun _ => ⟨isB_1, ?_⟩⟩
          refine hy _ _ (by rw [hb]; exact suit_D.mpr (by omega)) (KR.rfl'.up (Or.inr (Or.inl rfl))) ⟨?_, ?_, ?_, fun b p r => S4 b p (by omega)⟩
          · rw [pk_un (by decide), S1, c2, c4]
          · rw [pk_us, c5]
          · rw [pk_un (by decide), S3, c6]
        · refine hno _ _ ?_ (KR.rfl'.up (Or.inr (Or.inl rfl)))
          rw [hb]
          have : ¬ (48 ≤ L i ∧ L i ≤ 57) := by omega
          simp only [suitB]
          simp
          omega
    · have hie : i = czm w := by omega
      subst hie
      have hb : okB w L (czm w) = false := by unfold okB; rw [decide_eq_false (by omega), Bool.false_and]
      refine ⟨fun _ => ?_, fun hc => absurd (by rw [S1, t1]; decide) hc⟩
      unfold w_X11_isFigureSign
      intro x1 e1
      rw [S2, nI_1, t2] at e1
      subst e1
      refine p_in (a := 48) (b := 57) rfl rfl (fun g1 g2 => ⟨fun hc => absurd hc (by decide), fun _ => ⟨vp_in_nI (n := 0) (by omega) (by omega), ?_⟩⟩) (fun g1 => ⟨fun _ => ⟨isB_0, ?_⟩, fun hc => absurd rfl hc⟩)
      · rw [show (0 : Int32).toNatClampNeg = 0 from rfl, ha0, show (48 : Int32) = nI 48 from rfl, pk_sub (by omega), show 48 + w - 48 = w by omega, nI_ltI (by omega) (by omega)]
        exact ⟨fun _ => ⟨isB_0, hno _ _ hb (KR.rfl'.up (Or.inr (Or.inl rfl)))⟩, fun hc => absurd (by omega) hc⟩
      · exact hno _ _ hb (KR.rfl'.up (Or.inr (Or.inl rfl)))
theorem p_faultOf {Q : Int32 → MSt → Prop} (h1 : f 1 = nI m) (hm : m ≤ 18) (hL : LI L) (ha : ∀ i, i < m → a 0 i = nI (L i)) (h : ∀ r f' a', isFlt (fmN m L) m L r → KR f f' a a' → (0 < m → r = m → RdS (fmN m L) L m f' a') → Q (nI r) (f', g, a')) : w_X11_faultOf f g a Q := by
  unfold w_X11_faultOf
  intro X hX
  have key : ∀ d i f' a', i + d = m → 1 ≤ i → 2 ≤ fmN m L → fmN m L < 5 → L 0 = 48 + fmN m L → (∀ j, j < i → okB (fmN m L) L j = true) → KR f f' a a' → RdS (fmN m L) L i f' a' → X (nI i) (f', g, a') := by
    intro d
    induction d with
    | zero =>
      intro i f' a' hi _ _ _ _ hok hk hS
      have e1 : f' 1 = nI m := by rw [hk.1 1 (by decide) (by decide) (by decide) (by decide)]; exact h1
      refine hX _ _ (pk_le m i (fun _ => h i f' a' ⟨by omega, hok, Or.inl (by omega)⟩ hk (fun _ e => by subst e; exact hS)) (fun _ => by omega) e1)
    | succ d ih =>
      intro i f' a' hi hi1 hw hw5 hL0 hok hk hS
      have e1 : f' 1 = nI m := by rw [hk.1 1 (by decide) (by decide) (by decide) (by decide)]; exact h1
      have ea : a' 0 = a 0 := hk.2 0 (by decide) (by decide) (by decide) (by decide)
      refine hX _ _ (pk_le m i (fun _ => by omega) (fun _ => ?_) e1)
      have hic := (ok_suit (hok (i - 1) (by omega))).1
      refine p_good (w := fmN m L) (L := L) hw hw5 hL (by show a' 0 i = _; rw [ea]; exact ha i (by omega)) (by show a' 0 0 = _; rw [ea, ha 0 (by omega), hL0]) (by omega) hi1 (by omega) hS (fun f2 a2 hb hk2 hS2 => ⟨fun hc => absurd hc (by decide), fun _ x8 e8 => ?_⟩) (fun f2 a2 hb hk2 => ⟨fun _ => ?_, fun hc => absurd rfl hc⟩)
      · rw [e8, nI_1]
        refine ih (i + 1) f2 a2 (by omega) (by omega) hw hw5 hL0 (fun j hj => ?_) (hk.trans hk2) hS2
        by_cases hji : j = i
        · subst hji; exact hb
        · exact hok j (by omega)
      · exact h i f2 a2 ⟨by omega, hok, Or.inr hb⟩ (hk.trans hk2) (fun _ e => by omega)
  by_cases hm0 : m = 0
  · subst hm0
    refine hX _ _ (pk_le 0 0 (fun _ => h 0 f a ⟨by omega, fun i hi => by omega, Or.inl rfl⟩ KR.rfl' (fun h9 => by omega)) (fun _ => by omega) h1)
  · have hL0 := hL 0
    refine hX _ _ (pk_le m 0 (fun _ => by omega) (fun _ => ?_) h1)
    unfold w_X11_isGood
    refine ⟨vp_in_nI (n := 0) (by omega) (by omega), fun x2 e2 => ⟨fun _ x4 e4 x5 e5 => ?_, fun hc => absurd rfl hc⟩⟩
    have e2' : x2 = nI (L 0) := by rw [e2]; exact ha 0 (by omega)
    subst e2'
    have hLt : (nI (L 0)).toInt = (L 0 : Int) := nI_toInt (by omega)
    have kr : KR f (upd (upd (upd f 2 x4) 3 0) 4 x5) a a := ((KR.rfl'.up (Or.inl rfl)).up (Or.inr (Or.inl rfl))).up (Or.inr (Or.inr (Or.inl rfl)))
    rcases fm_cases (m := m) (L := L) with hf | ⟨hw, hw5, -, hw0⟩
    · have hf0 := fm_none hf (by omega)
      have hb : okB (fmN m L) L 0 = false := by rw [hf]; rfl
      refine p_in (a := 50) (b := 52) rfl rfl (fun g1 g2 => by omega) (fun _ => ⟨isB_0, fun _ => h 0 _ _ ⟨by omega, fun i hi => by omega, Or.inr hb⟩ kr (fun _ e => by omega), fun hc => absurd rfl hc⟩)
    · obtain ⟨s1, s2, s3, s4, s5, s6, s7, s8, s9, s10, s11⟩ := tb_0 (fmN m L) hw5 hw
      have hb : okB (fmN m L) L 0 = true := by
        unfold okB
        rw [decide_eq_true (show 0 < czm (fmN m L) by omega), Bool.true_and, s7]
        exact (suit_c (by omega) (by omega)).mpr hw0
      refine p_in (a := 50) (b := 52) rfl rfl (fun g1 g2 => ⟨isB_1, fun hc => absurd hc (by decide), fun _ x8 e8 => ?_⟩) (fun g1 => absurd ⟨by omega, by omega⟩ g1)
      have e8' : x8 = nI 1 := by rw [e8]; rfl
      subst e8'
      refine key (m - 1) 1 _ _ (by omega) (by omega) hw hw5 hw0 (fun j hj => by rw [show j = 0 by omega]; exact hb) kr ⟨?_, ?_, ?_, fun b p r => by omega⟩
      · rw [pk_un (by decide), pk_un (by decide), pk_us, e4, show (48 : Int32) = nI 48 from rfl, show (1 : Int32) = nI 1 from rfl, pk_sub (by omega), pk_sub (by omega), s1, hw0]
        congr 1
        omega
      · rw [pk_un (by decide), pk_us, s2]; rfl
      · rw [pk_us, e5, show (48 : Int32) = nI 48 from rfl, pk_sub (by omega), s3, hw0]
        congr 1
        omega
/-- the reference's cells behind a pile that was read -/
def RdN (w : Nat) (L : Nat → Nat) (f f' : Nat → Int32) (a' : Nat → Nat → Int32) : Prop := f' 6 = nI w ∧ f' 7 = nI (szN w) ∧ f' 8 = nI 0 ∧ f' 18 = nI 0 ∧ f' 1 = nI 0 ∧ f' 9 = f 9 + 1 ∧ f' 15 = f 15 ∧ f' 17 = f 17 ∧ f' 21 = f 21 ∧ (∀ i, w ≤ i → i < szN w → a' 10 i = nI (kdP w L i)) ∧ (∀ i, i < w → a' 11 i = nI (dgP w L i)) ∧ ∀ i, i < 10 → a' 12 i = -1
theorem p_pile {Q : Int32 → MSt → Prop} (h1 : f 1 = nI m) (hm : m ≤ 18) (hL : LI L) (ha : ∀ i, i < m → a 0 i = nI (L i)) (hy : pileP m L → ∀ f' a', RdN (fmN m L) L f f' a' → Q (nI (szN (fmN m L))) (f', g, a')) (hno : ¬ pileP m L → ∀ f' a', KR f f' a a' → Q (-103) (f', g, a')) : w_X11_pile f g a Q := by
  unfold w_X11_pile
  refine pk_lt m 2 (fun hlt => hno (fun hc => ?_) f a KR.rfl') (fun hge => ?_) h1 rfl
  · have hw := pile_w hc
    have h9 := (tb_0 _ hw.2.1 hw.1).2.2.2.2.2.2.2.2.1
    have := hc.2.1
    omega
  refine p_faultOf h1 hm hL ha (fun r f2 a2 hr hk hS => ?_)
  have e1 : f2 1 = nI m := by rw [hk.1 1 (by decide) (by decide) (by decide) (by decide)]; exact h1
  have ea : a2 0 = a 0 := hk.2 0 (by decide) (by decide) (by decide) (by decide)
  have hrm0 := hr.1
  refine pk_lt r m (fun hlt => hno (fun hc => ?_) f2 a2 hk) (fun hge2 => ?_) rfl e1
  · have := isFlt_uniq hr ⟨Nat.le_refl _, hc.2.2, Or.inl rfl⟩
    omega
  have hrm : r = m := by have := hr.1; omega
  subst hrm
  obtain ⟨S1, S2, S3, S4⟩ := hS (by omega) rfl
  have hok0 := ok_suit (hr.2.1 0 (by omega))
  rcases fm_cases (m := r) (L := L) with hf | ⟨hw, hw5, -, hw0⟩
  · rw [hf] at hok0
    exact absurd hok0.1 (by decide)
  generalize hwd : fmN r L = w at *
  obtain ⟨t1, t2, t3, t4, t5, t6⟩ := tb_e w hw5 hw
  have hrc := (ok_suit (hr.2.1 (r - 1) (by omega))).1
  have hbn := bnd w hw5 r (by omega)
  have eL0 : a2 0 (0 : Int32).toNatClampNeg - 48 = nI w := by
    rw [ea, show (0 : Int32).toNatClampNeg = 0 from rfl, ha 0 (by omega), hw0, show (48 : Int32) = nI 48 from rfl, pk_sub (by omega)]
    congr 1
    omega
  have pile_iff : pileP r L ↔ r = czm w := by
    unfold pileP
    rw [hwd]
    exact ⟨fun h => h.2.1, fun h => ⟨by omega, h, hr.2.1⟩⟩
  refine ⟨fun hne => hno (fun hc => ?_) f2 a2 hk, fun he => ⟨vp_in_nI (n := 0) (by omega) (by omega), fun he3 => ⟨vp_in_nI (n := 0) (by omega) (by omega), fun x9 e9 => ?_⟩, fun hne => hno (fun hc => ?_) f2 a2 hk⟩⟩
  · apply hne
    show f2 2 = 0
    rw [S1, pile_iff.mp hc, t1]
    rfl
  · have hrz : r = czm w := by
      rcases Nat.lt_or_ge r (czm w) with h9 | h9
      · refine absurd ⟨?_, ?_⟩ (tb_n w hw5 hw r (by omega) (by omega) h9)
        · have he' : f2 2 = 0 := he
          rw [S1, show (0 : Int32) = nI 0 from rfl, nI_eq (by omega) (by omega)] at he'
          exact he'
        · have he' : f2 3 = a2 0 (0 : Int32).toNatClampNeg - 48 := he3
          rw [S2, eL0, nI_eq (by omega) (by omega)] at he'
          exact he'
      · omega
    have hpile := pile_iff.mpr hrz
    rw [eL0] at e9
    subst e9
    have hsz : (okN w) := by unfold okN; omega
    have hs := hsz.sz
    have hl := hsz.le
    unfold w_X11_bricksOf
    have eb : nI w * (nI w + 1) / 2 = nI (szN w) := by
      rw [nI_1, pk_mul, show (2 : Int32) = nI 2 from rfl, pk_div (by rcases hsz with rfl | rfl | rfl <;> decide) (by omega) (by omega)]
      rfl
    show w_X11_copy 10 10 (a2 5) (a2 10) _
    rw [eb]
    refine p_copy (Nat.le_refl _) (by decide) (fun z hz _ => ?_)
    intro X hX
    have key : ∀ d i v, i + d = w → (∀ j, j < i → v j = nI (dgP w L j)) → X (nI i) (upd (upd f2 6 (nI w)) 7 (nI (szN w)), g, va_up (va_up (va_up a2 5 (a2 5)) 10 z) 11 v) := by
      intro d
      induction d with
      | zero =>
        intro i v hi hv
        refine hX _ _ (pk_le w i (fun _ => ?_) (fun _ => by omega) (by show upd (upd f2 6 (nI w)) 7 (nI (szN w)) 6 = nI w; rw [pk_un (by decide), pk_us]) rfl)
        intro Y hY
        have key2 : ∀ d i y, i + d = 10 → (∀ j, j < i → y j = -1) → Y (nI i) (upd (upd f2 6 (nI w)) 7 (nI (szN w)), g, va_up (va_up (va_up (va_up a2 5 (a2 5)) 10 z) 11 v) 12 y) := by
          intro d
          induction d with
          | zero =>
            intro i' y hi' hy'
            refine hY _ _ (pk_le 10 i' (fun _ x20 e20 => ?_) (fun _ => by omega))
            have e7 : upd (upd f2 6 (nI w)) 7 (nI (szN w)) 7 = nI (szN w) := pk_us
            have e9 : upd (upd f2 6 (nI w)) 7 (nI (szN w)) 9 = f 9 := by rw [pk_un (by decide), pk_un (by decide)]; exact hk.1 9 (by decide) (by decide) (by decide) (by decide)
            have hu : ∀ j, j ≠ 6 → j ≠ 7 → j ≠ 8 → j ≠ 18 → j ≠ 9 → j ≠ 1 → upd (upd (upd (upd (upd (upd f2 6 (nI w)) 7 (nI (szN w))) 8 (0 : Int32)) 18 (0 : Int32)) 9 x20) 1 (0 : Int32) j = f2 j := fun j g1 g2 g3 g4 g5 g6 => by rw [pk_un g6, pk_un g5, pk_un g4, pk_un g3, pk_un g2, pk_un g1]
            have := hy hpile (upd (upd (upd (upd (upd (upd f2 6 (nI w)) 7 (nI (szN w))) 8 (0 : Int32)) 18 (0 : Int32)) 9 x20) 1 (0 : Int32)) (va_up (va_up (va_up (va_up a2 5 (a2 5)) 10 z) 11 v) 12 y) ⟨?_, ?_, ?_, ?_, ?_, ?_, ?_, ?_, ?_, ?_, ?_, ?_⟩
            · show Q (upd (upd f2 6 (nI w)) 7 (nI (szN w)) 7) _
              rw [e7]
              exact this
            · rw [pk_un (by decide), pk_un (by decide), pk_un (by decide), pk_un (by decide), pk_un (by decide), pk_us]
            · rw [pk_un (by decide), pk_un (by decide), pk_un (by decide), pk_un (by decide), pk_us]
            · rw [pk_un (by decide), pk_un (by decide), pk_un (by decide), pk_us]; rfl
            · rw [pk_un (by decide), pk_un (by decide), pk_us]; rfl
            · rw [pk_us]; rfl
            · rw [pk_un (by decide), pk_us, e20]
              show upd (upd f2 6 (nI w)) 7 (nI (szN w)) 9 + 1 = f 9 + 1
              rw [e9]
            · rw [hu 15 (by decide) (by decide) (by decide) (by decide) (by decide) (by decide)]; exact hk.1 15 (by decide) (by decide) (by decide) (by decide)
            · rw [hu 17 (by decide) (by decide) (by decide) (by decide) (by decide) (by decide)]; exact hk.1 17 (by decide) (by decide) (by decide) (by decide)
            · rw [hu 21 (by decide) (by decide) (by decide) (by decide) (by decide) (by decide)]; exact hk.1 21 (by decide) (by decide) (by decide) (by decide)
            · intro b p r'
              rw [va_up_ne _ _ (by decide), va_up_ne _ _ (by decide), va_up_self, hz b (by omega)]
              exact S4 b p (by rw [hrz, t3]; exact r')
            · intro j hj
              rw [va_up_ne _ _ (by decide), va_up_self]
              exact hv j (by omega)
            · intro j hj
              rw [va_up_self]
              exact hy' j (by omega)
          | succ d ihd =>
            intro i' y hi' hy'
            refine hY _ _ (pk_le 10 i' (fun _ => by omega) (fun _ => ⟨vp_in_nI (by omega) (by omega), fun x22 e22 => ?_⟩))
            rw [e22, nI_1]
            show Y (nI (i' + 1)) (upd (upd f2 6 (nI w)) 7 (nI (szN w)), g, va_up (va_up (va_up (va_up (va_up a2 5 (a2 5)) 10 z) 11 v) 12 y) 12 (upd (va_up (va_up (va_up (va_up a2 5 (a2 5)) 10 z) 11 v) 12 y 12) (nI i').toNatClampNeg (-1)))
            rw [va_up_up, va_up_self, nI_clamp (by omega)]
            refine ihd (i' + 1) _ (by omega) (fun j hj => ?_)
            by_cases hji : j = i'
            · subst hji; rw [pk_us]
            · rw [pk_un hji]; exact hy' j (by omega)
        have := key2 10 0 (va_up (va_up (va_up a2 5 (a2 5)) 10 z) 11 v 12) (by omega) (fun j hj => by omega)
        rw [va_up_id] at this
        exact this
      | succ d ih =>
        intro i v hi hv
        obtain ⟨d1, d2⟩ := tb_d w hw5 hw i (by omega)
        refine hX _ _ (pk_le w i (fun h9 => absurd h9 (by omega)) (fun _ => ?_) (by show upd (upd f2 6 (nI w)) 7 (nI (szN w)) 6 = nI w; rw [pk_un (by decide), pk_us]) rfl)
        have ix : upd (upd f2 6 (nI w)) 7 (nI (szN w)) 1 - upd (upd f2 6 (nI w)) 7 (nI (szN w)) 6 + nI i = nI (czm w - w + i) := by
          rw [pk_un (by decide), pk_un (by decide), pk_un (by decide), pk_us, e1, pk_sub (by omega), nI_add, hrz]
        show vp_in (upd (upd f2 6 (nI w)) 7 (nI (szN w)) 1 - upd (upd f2 6 (nI w)) 7 (nI (szN w)) 6 + nI i) 18 ∧ ∀ x25 : Int32, x25 = va_up (va_up (va_up a2 5 (a2 5)) 10 z) 11 v 0 (upd (upd f2 6 (nI w)) 7 (nI (szN w)) 1 - upd (upd f2 6 (nI w)) 7 (nI (szN w)) 6 + nI i).toNatClampNeg - 48 → _
        rw [ix]
        refine ⟨vp_in_nI (by omega) (by omega), fun x25 e25 => ⟨vp_in_nI (by omega) (by omega), fun x26 e26 => ?_⟩⟩
        have hsu := (ok_suit (hr.2.1 (czm w - w + i) (by omega))).2
        rw [d1, suit_D] at hsu
        have e25' : x25 = nI (dgP w L i) := by
          rw [e25, va_up_ne _ _ (by decide), va_up_ne _ _ (by decide), va_up_ne _ _ (by decide), nI_clamp (by omega), ea, ha _ (by omega), show (48 : Int32) = nI 48 from rfl, pk_sub (by omega)]
          unfold dgP
          rw [Nat.mod_eq_of_lt (by omega)]
        rw [e26, e25', nI_1]
        show X (nI (i + 1)) (upd (upd f2 6 (nI w)) 7 (nI (szN w)), g, va_up (va_up (va_up (va_up a2 5 (a2 5)) 10 z) 11 v) 11 (upd (va_up (va_up (va_up a2 5 (a2 5)) 10 z) 11 v 11) (nI i).toNatClampNeg (nI (dgP w L i))))
        rw [va_up_up, va_up_self, nI_clamp (by omega)]
        refine ih (i + 1) _ (by omega) (fun j hj => ?_)
        by_cases hji : j = i
        · subst hji; rw [pk_us]
        · rw [pk_un hji]; exact hv j (by omega)
    have := key w 0 (va_up (va_up a2 5 (a2 5)) 10 z 11) (by omega) (fun j hj => by omega)
    rw [va_up_id] at this
    exact this
  · apply hne
    show f2 3 = a2 0 (0 : Int32).toNatClampNeg - 48
    rw [S2, eL0, pile_iff.mp hc, t2]
end PRD
