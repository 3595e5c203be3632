/-! ===== the class: of which kind, which two to try, draws ===== -/
/-- the sights as the class keeps them -/
def CS (s : Nat) (SG : Nat → Nat → Nat) (v : Int32) (g : Nat → Option Nat) (sL : List Nat) (sf : Nat → Nat → Int32) : Prop := v = nI s ∧ (∀ i, i < s → ∃ y, g i = some y ∧ y ∈ sL ∧ ∀ c, c < 4 → sf y c = nI (SG i c)) ∧ (∀ i, i < 6 → ∀ y, g i = some y → y ∈ sL)
section PS
variable {n k : Nat} {q : Nat → Nat} {ni : Nat → Int32} {bv bm : Nat} {ml cn : Int32} {bt : Nat → Int32} {f : Nat → Int32} {t : Nat} {a : Nat → Nat → Int32} {b : Nat → Nat → Int32} {sg : Nat → Nat → Option Nat} {sL : List Nat} {sf : Nat → Nat → Int32}
variable {kd D x : Nat → Nat} {T : Nat → Int32} {s : Nat} {SG : Nat → Nat → Nat}
theorem k_canBe {br κ : Nat} {Q : Int32 → Unit → Prop} (hs : SI s SG) (hc : CS s SG (f 3) (sg 0) sL sf) (hb : br < 10) (hκ : κ < 5) (h : Q (if canB s SG br κ then 1 else 0) ()) : w_X5_canBe n k q f t a b sg sL sf κ (nI br) Q := by
  obtain ⟨e3, hS, -⟩ := hc
  have hs6 := hs.1
  unfold w_X5_canBe
  intro X hX
  have key : ∀ d i, i + d = s → (∀ j, j < i → SG j 0 = br → mkN κ (SG j 1) (SG j 2) = SG j 3) → X (nI i) := by
    intro d
    induction d with
    | zero =>
      intro i hi hg
      refine hX _ (pk_le s i (fun _ => ?_) (fun _ => by omega) e3)
      rwa [if_pos (canB_P.mpr (fun j hj => hg j (by omega)))] at h
    | succ d ih =>
      intro i hi hg
      obtain ⟨y, hy, hyL, hyv⟩ := hS i (by omega)
      obtain ⟨b0, b1, b2, b3⟩ := hs.2 i
      refine hX _ (pk_le s i (fun _ => by omega) (fun _ => pk_le 6 i (fun _ => by omega) (fun _ => ⟨vp_in_nI (by omega) (by omega), fun hno => ?_, fun y6 hy6 => ?_⟩)) e3)
      · rw [nI_clamp (by omega), hy] at hno
        cases hno
      · rw [nI_clamp (by omega), hy] at hy6
        cases hy6
        refine ⟨hyL, fun J10 hJ10 => ?_⟩
        have ok : (SG i 0 = br → mkN κ (SG i 1) (SG i 2) = SG i 3) → J10 := fun hok => hJ10 (fun x11 e11 => by
          rw [e11, nI_1]
          refine ih (i + 1) (by omega) (fun j hj => ?_)
          by_cases hji : j = i
          · subst hji; exact hok
          · exact hg j (by omega))
        unfold w_X7_isOf
        rw [hyv 0 (by omega), nI_eq (by omega) (by omega)]
        refine ⟨fun hne => ⟨fun _ => ok (fun h9 => absurd h9 hne), fun hc => absurd rfl hc⟩, fun he => ⟨fun hc => absurd hc (by decide), fun _ => ?_⟩⟩
        unfold w_X7_allows
        rw [hyv 1 (by omega), hyv 2 (by omega), hyv 3 (by omega)]
        have hm := mk_lt (k := κ) b1 b2
        refine k_made hκ (by omega) (by omega) ?_
        rw [nI_eq (by omega) (by omega)]
        refine ⟨fun hne => ⟨fun hc => absurd rfl hc, fun _ => ?_⟩, fun heq => ⟨fun _ => ok (fun _ => heq), fun hc => absurd hc (by decide)⟩⟩
        rwa [if_neg (fun h9 => hne (canB_P.mp h9 i (by omega) he))] at h
  exact key s 0 (by omega) (fun j hj => by omega)
theorem k_sorts {br : Nat} {Q : Int32 → Unit → Prop} (hs : SI s SG) (hc : CS s SG (f 3) (sg 0) sL sf) (hb : br < 10) (h : Q (nI (bitsN (canB s SG br) 5)) ()) : w_X5_sorts n k q f t a b sg sL sf (nI br) Q := by
  unfold w_X5_sorts
  intro X hX
  have key : ∀ e κ, κ + e = 5 → X (nI (bitsN (canB s SG br) κ)) (nI κ) := by
    intro e
    induction e with
    | zero =>
      intro κ hκ
      refine hX _ _ (pk_le 5 κ (fun _ => ?_) (fun h9 => absurd h9 (by omega)))
      rw [show κ = 5 by omega]; exact h
    | succ e ih =>
      intro κ hκ
      refine hX _ _ (pk_le 5 κ (fun h9 => absurd h9 (by omega)) (fun _ => ⟨vp_in_nI (by omega) (by omega), κ, by rw [nI_clamp (by omega)]; exact kAll_at (by omega), by omega, ?_⟩))
      refine k_canBe hs hc hb (by omega) (fun J hJ => ?_)
      have hlt := bitsN_lt (canB s SG br) κ
      have h32 : 2 ^ κ ≤ 16 := by
        rcases (show κ = 0 ∨ κ = 1 ∨ κ = 2 ∨ κ = 3 ∨ κ = 4 by omega) with rfl | rfl | rfl | rfl | rfl <;> decide
      cases hcb : canB s SG br κ with
      | false =>
        refine ⟨fun _ => hJ _ (fun x11 e11 => ?_), fun hc => absurd rfl hc⟩
        have : bitsN (canB s SG br) (κ + 1) = bitsN (canB s SG br) κ := by
          show _ + _ = _
          rw [hcb]; rfl
        rw [e11, nI_1, ← this]
        exact ih (κ + 1) (by omega)
      | true =>
        refine ⟨fun hc => absurd hc (by decide), fun _ x13 e13 => hJ _ (fun x11 e11 => ?_)⟩
        have : bitsN (canB s SG br) (κ + 1) = bitsN (canB s SG br) κ + 2 ^ κ := by
          show _ + _ = _
          rw [hcb]; rfl
        rw [e13, e11, nI_1, shl_bit κ (by omega), or_bit _ (by omega) κ (by omega) hlt, ← this]
        exact ih (κ + 1) (by omega)
  exact key 5 0 (by omega)
theorem k_manyMaking {g : Nat → Bool} {l r v : Nat} {Q : Int32 → Unit → Prop} (hl : l ≤ 9) (hr : r ≤ 9) (hv : v < 2 ^ 31) (h : Q (nI (alk g l r v)) ()) : w_X5_manyMaking n k q f t a b sg sL sf (nI (bitsN g 5)) (nI l) (nI r) (nI v) Q := by
  unfold w_X5_manyMaking
  intro X hX
  have hB := bitsN_lt g 5
  have key : ∀ e o, o + e = 5 → X (nI (cnt (fun o => g o && decide (mkN o l r = v)) o)) (nI o) := by
    intro e
    induction e with
    | zero =>
      intro o ho
      refine hX _ _ (pk_le 5 o (fun _ => ?_) (fun h9 => absurd h9 (by omega)))
      rw [show o = 5 by omega]; exact h
    | succ e ih =>
      intro o ho
      have hm := mk_lt (k := o) hl hr
      refine hX _ _ (pk_le 5 o (fun h9 => absurd h9 (by omega)) (fun _ J hJ => ?_))
      rw [shr_bit _ hB o (by omega), bits_at g o (by omega)]
      have hst : cnt (fun o => g o && decide (mkN o l r = v)) (o + 1) = cnt (fun o => g o && decide (mkN o l r = v)) o + (if (g o && decide (mkN o l r = v)) then 1 else 0) := rfl
      have keep : (g o && decide (mkN o l r = v)) = false → J (nI (cnt (fun o => g o && decide (mkN o l r = v)) o)) := fun hf => hJ _ (fun x7 e7 => by
        have := ih (o + 1) (by omega)
        rw [hst, hf] at this
        rw [e7, nI_1]; exact this)
      cases hg : g o with
      | false => exact ⟨fun _ => keep (by rw [hg]; rfl), fun hc => absurd rfl hc⟩
      | true =>
        refine ⟨fun hc => absurd hc (by decide), fun _ => ⟨vp_in_nI (by omega) (by omega), o, by rw [nI_clamp (by omega)]; exact kAll_at (by omega), by omega, ?_⟩⟩
        refine k_made (by omega) (by omega) (by omega) ?_
        rw [nI_eq (by omega) hv]
        refine ⟨fun hne => keep (by simp [hne]), fun he x13 e13 => hJ _ (fun x7 e7 => ?_)⟩
        have := ih (o + 1) (by omega)
        rw [hst, hg, show decide (mkN o l r = v) = true from decide_eq_true he] at this
        rw [e7, e13, nI_1, nI_1]; exact this
  exact key 5 0 (by omega)
theorem k_mostAlike {g : Nat → Bool} {l r : Nat} {Q : Int32 → Unit → Prop} (hl : l ≤ 9) (hr : r ≤ 9) (h : Q (nI (wbN g l r 5)) ()) : w_X5_mostAlike n k q f t a b sg sL sf (nI (bitsN g 5)) (nI l) (nI r) Q := by
  unfold w_X5_mostAlike
  intro X hX
  have hB := bitsN_lt g 5
  have key : ∀ e κ, κ + e = 5 → X (nI (wbN g l r κ)) (nI κ) := by
    intro e
    induction e with
    | zero =>
      intro κ hκ
      refine hX _ _ (pk_le 5 κ (fun _ => ?_) (fun h9 => absurd h9 (by omega)))
      rw [show κ = 5 by omega]; exact h
    | succ e ih =>
      intro κ hκ
      have hm := mk_lt (k := κ) hl hr
      have hwl := wbN_le g l r κ
      have hal := alk_le g l r (mkN κ l r)
      have hw : wbN g l r (κ + 1) = max (wbN g l r κ) (if g κ then alk g l r (mkN κ l r) else 0) := rfl
      refine hX _ _ (pk_le 5 κ (fun h9 => absurd h9 (by omega)) (fun _ J hJ => ?_))
      have go : ∀ W, W = wbN g l r (κ + 1) → J (nI W) := fun W hW => hJ _ (fun x7 e7 => by
        rw [e7, nI_1, hW]; exact ih (κ + 1) (by omega))
      rw [shr_bit _ hB κ (by omega), bits_at g κ (by omega)]
      cases hg : g κ with
      | false =>
        rw [hg] at hw
        exact ⟨fun _ => go _ (by simp at hw; omega), fun hc => absurd rfl hc⟩
      | true =>
        rw [hg] at hw
        simp only [if_true] at hw
        refine ⟨fun hc => absurd hc (by decide), fun _ => ⟨vp_in_nI (by omega) (by omega), κ, by rw [nI_clamp (by omega)]; exact kAll_at (by omega), by omega, ?_⟩⟩
        refine k_made (by omega) (by omega) (by omega) (k_manyMaking hl hr (by omega) (fun x14 e14 => ?_))
        by_cases hlt : wbN g l r κ < alk g l r (mkN κ l r)
        · rw [e14, if_pos ((nI_ltI (by omega) (by omega)).mpr hlt)]
          exact go _ (by omega)
        · rw [e14, if_neg (fun h9 => hlt ((nI_ltI (by omega) (by omega)).mp h9))]
          exact go _ (by omega)
  exact key 5 0 (by omega)
/-- the best pair stays when nothing can be left but one -/
theorem wb_pos {g : Nat → Bool} {l r : Nat} (hg : bitsN g 5 ≠ 0) : 0 < wbN g l r 5 := by
  have ex : ∃ κ, κ < 5 ∧ g κ = true := by
    by_cases h0 : g 0 = true
    · exact ⟨0, by omega, h0⟩
    by_cases h1 : g 1 = true
    · exact ⟨1, by omega, h1⟩
    by_cases h2 : g 2 = true
    · exact ⟨2, by omega, h2⟩
    by_cases h3 : g 3 = true
    · exact ⟨3, by omega, h3⟩
    by_cases h4 : g 4 = true
    · exact ⟨4, by omega, h4⟩
    exact absurd (by simp [bitsN, h0, h1, h2, h3, h4]) hg
  obtain ⟨κ, hκ, hgκ⟩ := ex
  have h1 := mxN_ge (fun κ => if g κ then alk g l r (mkN κ l r) else 0) 5 κ hκ
  have h2 : 0 < alk g l r (mkN κ l r) := by
    have := cnt_lt (p := fun o => g o && decide (mkN o l r = mkN κ l r)) hκ (by simp [hgκ])
    unfold alk
    omega
  simp only [hgκ, if_true] at h1
  unfold wbN
  omega
theorem tk_stay {g : Nat → Bool} (hg : bitsN g 5 ≠ 0) {i : Nat} (h1 : (tkB g i).2 ≤ 1) : ∀ d, tkB g (i + d) = tkB g i
  | 0 => rfl
  | d + 1 => by
    have ih := tk_stay hg h1 d
    have hw := wb_pos (l := (i + d) / 10) (r := (i + d) % 10) hg
    show (if wbN g ((i + d) / 10) ((i + d) % 10) 5 < (tkB g (i + d)).2 then (nI (i + d), wbN g ((i + d) / 10) ((i + d) % 10) 5) else tkB g (i + d)) = _
    rw [if_neg (by rw [ih]; omega)]
    exact ih
theorem k_nextTry {br : Nat} {Q : Int32 → Unit → Prop} (h : Q (tryV (canB s SG br)) ()) : w_X5_nextTry n k q f t a b sg sL sf (nI (bitsN (canB s SG br) 5)) Q := by
  unfold w_X5_nextTry
  have hB := bitsN_lt (canB s SG br) 5
  unfold tryV at h
  rw [show (0 : Int32) = nI 0 from rfl, nI_eq (by omega) (by omega)]
  refine ⟨fun hne X hX => ?_, fun h0 => by rwa [if_pos h0] at h⟩
  rw [if_neg hne] at h
  have key : ∀ e i, i + e = 100 → X (tkB (canB s SG br) i).1 (nI (tkB (canB s SG br) i).2) (nI i) := by
    intro e
    induction e with
    | zero =>
      intro i hi
      refine hX _ _ _ (pk_le 100 i (fun _ => ?_) (fun h9 => absurd h9 (by omega)))
      rw [show i = 100 by omega]; exact h
    | succ e ih =>
      intro i hi
      have htl := tkB_le (canB s SG br) i
      refine hX _ _ _ (pk_le 100 i (fun h9 => absurd h9 (by omega)) (fun _ => pk_le (tkB (canB s SG br) i).2 1 (fun h9 => ?_) (fun h9 => ?_)))
      · have := tk_stay hne h9 (e + 1)
        rw [hi] at this
        rw [← this]; exact h
      · rw [show (10 : Int32) = nI 10 from rfl, pk_rem (by omega) (by omega) (by omega), pk_div (by omega) (by omega) (by omega)]
        refine k_mostAlike (by omega) (by omega) (fun J hJ => ?_)
        have hwl := wbN_le (canB s SG br) (i / 10) (i % 10) 5
        have hst : tkB (canB s SG br) (i + 1) = if wbN (canB s SG br) (i / 10) (i % 10) 5 < (tkB (canB s SG br) i).2 then (nI i, wbN (canB s SG br) (i / 10) (i % 10) 5) else tkB (canB s SG br) i := rfl
        have hnext := ih (i + 1) (by omega)
        rw [nI_leI (by omega) (by omega)]
        refine ⟨fun hle => hJ _ _ (fun x15 e15 => ?_), fun hgt => hJ _ _ (fun x15 e15 => ?_)⟩
        · rw [hst, if_neg (by omega)] at hnext
          rw [e15, nI_1]; exact hnext
        · rw [hst, if_pos (by omega)] at hnext
          rw [e15, nI_1]; exact hnext
  exact key 100 0 (by omega)
end PS
