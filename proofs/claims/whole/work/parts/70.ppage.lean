/-! ===== the page: letters, the form, the first fault ===== -/
theorem by7 : ∀ v, v < 127 → (nI v).toInt8.toInt32 = nI v := by decide +kernel
theorem ch7 : ∀ v, v < 127 → ((nI v &&& 255).toUInt32 % 65536).toInt32 = nI v := by decide +kernel
theorem cc7 : ∀ v, v < 127 → ((nI v).toUInt32 % 65536).toInt32 = nI v := by decide +kernel
theorem fb7 {v : Nat} (h : v < 127) : fits .byte (.int (nI v)) = true := by
  have := pk_fb (nI v)
  rwa [by7 v h] at this
theorem vb7 {v : Nat} (h : v < 127) : vp_nar .byte (nI v).toInt8.toInt32 = nI v := by
  rw [pk_vb, by7 v h]
theorem shr0 {n : Nat} (h : n < 2 ^ 31) : nI n >>> ((0 : Int32) &&& 31) = nI n := by
  rw [pk_shrN h _ 0 (by decide), Nat.pow_zero, Nat.div_one]
theorem shl0 {n : Nat} (h : n < 2 ^ 31) : nI n <<< ((0 : Int32) &&& 31) = nI n := by
  rw [pk_shlN _ 0 (by decide) (by omega), Nat.pow_zero, Nat.mul_one]
/-- which kind a letter tells; 5: none -/
def kdN (v : Nat) : Nat := if v = 115 then 0 else if v = 103 then 1 else if v = 109 then 2 else if v = 119 then 3 else if v = 108 then 4 else 5
/-- the letters of the forms -/
def fch (w i : Nat) : Nat := ([[], [115, 103, 109, 119, 108], [50, 59, 75, 59, 68, 68], [51, 59, 75, 75, 44, 75, 59, 68, 68, 68], [52, 59, 75, 75, 75, 44, 75, 75, 44, 75, 59, 68, 68, 68, 68]].getD w []).getD i 0
theorem fch_t : ∀ w, w < 5 → ∀ i, i < 15 → i < czm w → (czt w i = nI (fch w i) ∧ fch w i < 127) := by decide +kernel
theorem czm_le : ∀ w, w < 5 → czm w ≤ 15 := by decide +kernel
def suitB (v c : Nat) : Bool := if c = 75 then decide (kdN v < 5) else if c = 68 then (decide (48 ≤ v) && decide (v ≤ 57)) else decide (v = c)
theorem kdN_le (v : Nat) : kdN v ≤ 5 := by
  unfold kdN
  repeat' split
  all_goals omega
/-- the page as the class keeps it -/
def CP (m : Nat) (L : Nat → Nat) (bm : Nat) (cn : Int32) (bt : Nat → Int32) : Prop := cn = nI m ∧ m ≤ 18 ∧ (bm = 16 ∨ bm = 34) ∧ m ≤ bm ∧ ∀ i, i < m → bt i = nI (L i)
def LI (L : Nat → Nat) : Prop := ∀ i, L i < 127
section PG
variable {m : Nat} {L : Nat → Nat} {bv bm : Nat} {ml cn : Int32} {bt : Nat → Int32}
theorem k_jlen {Q : Int32 → Unit → Prop} (h : Q cn ()) : w_J4_length_8abf5 bv bm ml cn bt Q := h
theorem k_len {Q : Int32 → Unit → Prop} (h : Q cn ()) : w_X4_length bv bm ml cn bt Q := h
theorem k_check {i m : Nat} {Q : Unit → Prop} (hi : i < m) (hm : m < 2 ^ 31) (h : Q ()) : w_J0_checkIndex_df160 (nI i) (nI m) Q := by
  unfold w_J0_checkIndex_df160 w_J3_checkIndex_8e157_n w_J3_checkIndex_8e157_r
  exact ⟨fun J _ => ⟨fun hc => absurd hc (nI_pos (by omega)), fun _ => ⟨fun _ => h, fun hc => absurd (nI_lt hi hm) hc⟩⟩, fun J _ => ⟨fun hc => absurd hc (nI_pos (by omega)), fun _ => ⟨fun _ => h, fun hc => absurd (nI_lt hi hm) hc⟩⟩⟩
theorem k_jchar {i : Nat} {Q : Int32 → Unit → Prop} (hp : CP m L bm cn bt) (hL : LI L) (hi : i < m) (h : Q (nI (L i)) ()) : w_J4_charAt_5068e bv bm ml cn bt (nI i) Q := by
  obtain ⟨e1, h1, h2, h3, h4⟩ := hp
  subst e1
  unfold w_J4_charAt_5068e w_J5_charAt_5068e
  intro x1 e1
  rw [shr0 (by omega), if_neg (nI_nlt h3 (by omega))] at e1
  subst e1
  refine k_check hi (by omega) ⟨fun hc => absurd rfl hc, fun _ => ⟨vp_in_nI (by omega) (by omega), pk_nc _, pk_nc _, ?_⟩⟩
  rw [nI_clamp (by omega), h4 i hi, ch7 _ (hL i)]
  exact h
theorem k_slen {sm : Nat} {sb : Nat → Int32} {Q : Int32 → Unit → Prop} (hs : sm < 2 ^ 31) (h : Q (nI sm) ()) : w_J0_length_8abf5 sm sb Q := by
  unfold w_J0_length_8abf5 w_J0_coder_7d493
  refine ⟨fun hc => absurd hc (by decide), fun _ => ?_⟩
  show Q (nI sm >>> ((0 : Int32) &&& 31)) ()
  rw [shr0 hs]
  exact h
theorem k_schar {sm i v : Nat} {sb : Nat → Int32} {Q : Int32 → Unit → Prop} (hs : sm < 2 ^ 31) (hi : i < sm) (hv : sb i = nI v) (hv2 : v < 127) (h : Q (nI v) ()) : w_J0_charAt_5068e sm sb (nI i) Q := by
  unfold w_J0_charAt_5068e w_J0_isLatin1_aae02 w_J1_charAt_3b067
  refine ⟨fun hc => absurd hc (by decide), fun _ => ⟨fun hc => absurd rfl hc, fun _ => ⟨fun hc => absurd hc (by decide), fun _ => k_check hi hs ⟨vp_in_nI hi hs, pk_nc _, pk_nc _, ?_⟩⟩⟩⟩
  rw [nI_clamp (by omega), hv, ch7 v hv2]
  exact h
theorem k_index {v : Nat} {Q : Int32 → Unit → Prop} (hv : v < 127) (h1 : kdN v < 5 → Q (nI (kdN v)) ()) (h0 : kdN v = 5 → Q (-1) ()) : w_J0_indexOf_0f7a4 (czm 1) (czt 1) (nI v) Q := by
  unfold w_J0_indexOf_0f7a4 w_J0_indexOf_7cf53 w_J0_isLatin1_aae02
  refine ⟨fun hc => absurd hc (by decide), fun _ => ⟨fun hc => absurd rfl hc, fun _ => ⟨fun hc => absurd hc (by decide), fun _ => k_slen (by decide) ?_⟩⟩⟩
  unfold w_J1_indexOf_4cfef w_J1_canEncode_9a6ad
  refine ⟨fun hc => absurd hc (nI_pos (by omega)), fun _ => ⟨fun hc => by
    rw [show (255 : Int32) = nI 255 from rfl, nI_ltI (by omega) (by omega)] at hc
    omega, fun _ => ⟨fun _ x3 e3 x4 e4 => ?_, fun hc => absurd hc (by decide)⟩⟩⟩
  rw [if_neg (by decide)] at e3
  rw [if_neg (by decide)] at e4
  subst e3 e4
  refine ⟨fun _ => ?_, fun hc => absurd (by decide) hc⟩
  unfold w_J1_indexOfChar_4cfef
  intro x1 e1 X hX
  rw [by7 v hv] at e1
  subst e1
  have t0 : czt 1 0 = nI 115 := rfl
  have t1 : czt 1 1 = nI 103 := rfl
  have t2 : czt 1 2 = nI 109 := rfl
  have t3 : czt 1 3 = nI 119 := rfl
  have t4 : czt 1 4 = nI 108 := rfl
  have s5 : (v ≠ 115 ∧ v ≠ 103 ∧ v ≠ 109 ∧ v ≠ 119 ∧ v ≠ 108) → X (nI 5) := fun hn => hX _ ⟨fun _ => h0 (by simp [kdN, hn]), fun hc => absurd (by decide) hc⟩
  have st : ∀ i c, i < 5 → czt 1 i = nI c → c < 127 → (v = c → Q (nI i) ()) → (v ≠ c → X (nI (i + 1))) → X (nI i) := fun i c hi hc hc2 hy hn => hX _ ⟨fun h9 => absurd h9 (nI_ge (b := 5) hi (by omega)), fun _ => ⟨vp_in_nI hi (by decide), by
    rw [nI_clamp (by omega), hc, nI_eq (by omega) (by omega)]
    exact ⟨fun h9 x7 e7 => by rw [e7, nI_1]; exact hn (fun h8 => h9 h8.symm), fun h9 => hy h9.symm⟩⟩⟩
  refine st 0 115 (by omega) t0 (by omega) (fun e => ?_) (fun n0 => st 1 103 (by omega) t1 (by omega) (fun e => ?_) (fun n1 => st 2 109 (by omega) t2 (by omega) (fun e => ?_) (fun n2 => st 3 119 (by omega) t3 (by omega) (fun e => ?_) (fun n3 => st 4 108 (by omega) t4 (by omega) (fun e => ?_) (fun n4 => s5 ⟨n0, n1, n2, n3, n4⟩)))))
  all_goals subst e; exact h1 (by decide)
theorem k_suits {v c : Nat} {Q : Int32 → Unit → Prop} (hv : v < 127) (hc : c < 127) (h : Q (if suitB v c then 1 else 0) ()) : w_X4_suits (nI v) (nI c) Q := by
  unfold w_X4_suits
  rw [show (75 : Int32) = nI 75 from rfl, show (68 : Int32) = nI 68 from rfl, nI_eq (a := c) (b := 75) (by omega) (by omega), nI_eq (a := c) (b := 68) (by omega) (by omega), nI_eq (a := v) (b := c) (by omega) (by omega)]
  refine ⟨fun n1 => ⟨fun n2 => ⟨fun n3 => ?_, fun e3 => ?_⟩, fun e2 => ?_⟩, fun e1 => ?_⟩
  · simpa [suitB, n1, n2, n3] using h
  · have : suitB v c = true := by unfold suitB; rw [if_neg n1, if_neg n2]; exact decide_eq_true e3
    rw [this] at h
    exact h
  · have et : (nI v - 48).toInt = (v : Int) - 48 := pk_sub_toInt (b := 48) (by omega) (by omega)
    have hs : suitB v c = (decide (48 ≤ v) && decide (v ≤ 57)) := by unfold suitB; rw [if_neg n1, if_pos e2]
    rw [hs] at h
    unfold w_X10_isDigit
    refine k_within (a := 0) (b := 9) rfl rfl (fun g1 g2 => ⟨Or.inr rfl, Or.inr rfl, ?_⟩) (fun g => ⟨Or.inl rfl, Or.inl rfl, ?_⟩)
    · rw [decide_eq_true (show 48 ≤ v by omega), decide_eq_true (show v ≤ 57 by omega)] at h
      exact h
    · by_cases g1 : 48 ≤ v
      · rw [decide_eq_false (show ¬ v ≤ 57 by omega), Bool.and_false] at h
        exact h
      · rw [decide_eq_false g1, Bool.false_and] at h
        exact h
  · have hs : suitB v c = decide (kdN v < 5) := by unfold suitB; rw [if_pos e1]
    rw [hs] at h
    refine k_index hv (fun g => ⟨fun h9 => absurd h9 (nI_pos (by omega)), fun _ => ?_⟩) (fun g => ⟨fun _ => ?_, fun h9 => absurd (by decide) h9⟩)
    · rw [decide_eq_true g] at h; exact h
    · rw [decide_eq_false (by omega)] at h; exact h
/-- which form the first letter asks for -/
def fmN (m : Nat) (L : Nat → Nat) : Nat := if m = 0 then 0 else if L 0 = 50 then 2 else if L 0 = 51 then 3 else if L 0 = 52 then 4 else 0
theorem fmN_lt (m : Nat) (L : Nat → Nat) : fmN m L < 5 := by
  unfold fmN
  repeat' split
  all_goals omega
theorem k_letterAt {i : Nat} {Q : Int32 → Unit → Prop} (hp : CP m L bm cn bt) (hL : LI L) (hi : i < m) (h : Q (nI (L i)) ()) : w_X4_letterAt bv bm ml cn bt (nI i) Q := by
  obtain ⟨e1, hm, -, -, -⟩ := id hp
  subst e1
  unfold w_X4_letterAt
  refine k_jlen ?_
  refine k_wy (a := 0) (b := m) (by omega) hi (by omega) rfl (by rw [nI_sub1_toInt (by omega)]) ⟨fun hc => absurd hc (by decide), fun _ => k_jchar hp hL hi h⟩
theorem k_form {Q : Nat → Prop} (hp : CP m L bm cn bt) (hL : LI L) (h : Q (fmN m L)) : w_X4_form bv bm ml cn bt Q := by
  obtain ⟨e1, hm, -, -, -⟩ := id hp
  subst e1
  unfold w_X4_form
  by_cases h0 : m = 0
  · subst h0
    unfold w_X4_letterAt
    refine k_jlen ?_
    refine k_wn (a := 0) (b := 0) (fun hc => by omega) rfl (by decide) ⟨fun _ => ?_, fun hc => absurd rfl hc⟩
    refine ⟨fun hc => absurd hc (by decide), fun _ => ⟨fun hc => absurd hc (by decide), fun _ => ⟨fun hc => absurd hc (by decide), fun _ => h⟩⟩⟩
  · refine k_letterAt hp hL (i := 0) (by omega) ?_
    have hb := hL 0
    rw [show (50 : Int32) = nI 50 from rfl, show (51 : Int32) = nI 51 from rfl, show (52 : Int32) = nI 52 from rfl, nI_eq (by omega) (by omega), nI_eq (by omega) (by omega), nI_eq (by omega) (by omega)]
    refine ⟨fun e => ?_, fun n1 => ⟨fun e => ?_, fun n2 => ⟨fun e => ?_, fun n3 => ?_⟩⟩⟩
    · simpa [fmN, h0, e] using h
    · simpa [fmN, h0, e] using h
    · simpa [fmN, h0, e] using h
    · simpa [fmN, h0, n1, n2, n3] using h
/-- the letter at i may stand there -/
def okB (w : Nat) (L : Nat → Nat) (i : Nat) : Bool := decide (i < czm w) && suitB (L i) (fch w i)
/-- r is the first fault of the page -/
def isFlt (w m : Nat) (L : Nat → Nat) (r : Nat) : Prop := r ≤ m ∧ (∀ i, i < r → okB w L i = true) ∧ (r = m ∨ okB w L r = false)
theorem isFlt_uniq {w r r' : Nat} (h : isFlt w m L r) (h' : isFlt w m L r') : r = r' := by
  rcases Nat.lt_trichotomy r r' with h1 | h1 | h1
  · have := h'.2.1 r h1
    rcases h.2.2 with g | g
    · have := h'.1; omega
    · rw [this] at g; cases g
  · exact h1
  · have := h.2.1 r' h1
    rcases h'.2.2 with g | g
    · have := h.1; omega
    · rw [this] at g; cases g
theorem k_firstFault {Q : Int32 → Unit → Prop} (hp : CP m L bm cn bt) (hL : LI L) (h : ∀ r, isFlt (fmN m L) m L r → Q (nI r) ()) : w_X4_firstFault bv bm ml cn bt Q := by
  obtain ⟨e1, hm, -, -, -⟩ := id hp
  subst e1
  have hw := fmN_lt m L
  unfold w_X4_firstFault
  refine k_form hp hL ⟨hw, fun X hX => ?_⟩
  have hcz := czm_le _ hw
  have key : ∀ d i, i + d = m → (∀ j, j < i → okB (fmN m L) L j = true) → X (nI i) := by
    intro d
    induction d with
    | zero =>
      intro i hi hok
      refine hX _ (k_jlen ?_)
      refine pk_le m i (fun _ => k_jlen ?_) (fun _ => by omega)
      have := h i ⟨by omega, hok, Or.inl (by omega)⟩
      rw [show i = m by omega] at this
      exact this
    | succ d ih =>
      intro i hi hok
      refine hX _ (k_jlen ?_)
      refine pk_le m i (fun _ => by omega) (fun _ => k_slen (by omega) ?_)
      refine pk_le (czm (fmN m L)) i (fun hge => ?_) (fun hlt => ?_)
      · exact h i ⟨by omega, hok, Or.inr (by unfold okB; rw [decide_eq_false (by omega), Bool.false_and])⟩
      · obtain ⟨e1, e2⟩ := fch_t _ hw i (by omega) hlt
        refine k_jchar hp hL (by omega) (k_schar (by omega) hlt e1 e2 (k_suits (hL i) e2 ?_))
        have hob : okB (fmN m L) L i = suitB (L i) (fch (fmN m L) i) := by unfold okB; rw [decide_eq_true hlt, Bool.true_and]
        cases hs : suitB (L i) (fch (fmN m L) i) with
        | true =>
          refine ⟨fun _ x19 e19 => ?_, fun hc => absurd hc (by decide)⟩
          rw [e19, nI_1]
          refine ih (i + 1) (by omega) (fun j hj => ?_)
          by_cases hji : j = i
          · subst hji; rw [hob]; exact hs
          · exact hok j (by omega)
        | false =>
          exact ⟨fun hc => absurd rfl hc, fun _ => h i ⟨by omega, hok, Or.inr (by rw [hob]; exact hs)⟩⟩
  exact key m 0 (by omega) (fun j hj => by omega)
/-- the page is a pile -/
def pileP (m : Nat) (L : Nat → Nat) : Prop := 0 < m ∧ m = czm (fmN m L) ∧ ∀ i, i < m → okB (fmN m L) L i = true
theorem k_isPile {Q : Int32 → Unit → Prop} (hp : CP m L bm cn bt) (hL : LI L) (h1 : pileP m L → Q 1 ()) (h0 : ¬ pileP m L → Q 0 ()) : w_X4_isPile bv bm ml cn bt Q := by
  obtain ⟨e1, hm, -, -, -⟩ := id hp
  subst e1
  have hw := fmN_lt m L
  have hcz := czm_le _ hw
  unfold w_X4_isPile
  refine k_jlen ?_
  by_cases hm0 : m = 0
  · subst hm0
    exact ⟨fun _ => h0 (fun hc => by have := hc.1; omega), fun hc => absurd (by decide) hc⟩
  · refine ⟨fun hc => absurd hc (nI_nle (by omega) (by omega)), fun _ => ?_⟩
    refine k_form hp hL ⟨hw, k_slen (by omega) ?_⟩
    rw [nI_eq (by omega) (by omega)]
    refine ⟨fun hne => h0 (fun hc => hne hc.2.1), fun heq => k_firstFault hp hL (fun r hr => ?_)⟩
    have hrm := hr.1
    rw [nI_eq (by omega) (by omega)]
    refine ⟨fun hne => h0 (fun hc => hne (isFlt_uniq hr ⟨Nat.le_refl _, hc.2.2, Or.inl rfl⟩)), fun hrr => h1 ⟨by omega, heq, fun i hi => hr.2.1 i (by omega)⟩⟩
theorem k_addL {v : Nat} {Q : (Nat × Nat × Int32 × (Nat → Int32)) → Prop} (hp : CP m L bm cn bt) (hL : LI L) (hm : m < 18) (hv : v < 127) (h : ∀ bv' bm' bt', CP (m + 1) (va_up L m v) bm' (nI (m + 1)) bt' → Q (bv', bm', nI (m + 1), bt')) : w_X4_add bv bm ml cn bt (nI v) Q := by
  obtain ⟨e1, h1, h2, h3, h4⟩ := hp
  subst e1
  unfold w_X4_add w_J4_append_cf468 w_J5_append_3fe6f
  have fin : ∀ (u : Nat × Nat × (Nat → Int32)), (u.2.1 = 16 ∨ u.2.1 = 34) → m + 1 ≤ u.2.1 → (∀ i, i < m → u.2.2 i = nI (L i)) → (w_J5_isLatin1_aae02 (u.1) (u.2.1) ml (nI m) (u.2.2) (fun (r3 : Int32) (u2 : Unit) => ∀ J4 : Prop, ((w_J5_isLatin1_aae02 (u.1) (u.2.1) ml (nI m) (u.2.2) (fun (r6 : Int32) (u5 : Unit) => ∀ J7 : Prop, ((∀ x8 : Int32, x8 = (nI m + (1 : Int32)) → False) → J7) → (((r6 = 0) → J7) ∧ (¬ (r6 = 0) → False)))) → J4) → (((r3 = 0) → J4) ∧ (¬ (r3 = 0) → w_J1_canEncode_fc78d (nI v) (fun (r11 : Int32) => (((r11 = 0) → J4) ∧ (¬ (r11 = 0) → ∀ x13 : Int32, x13 = (nI m + (1 : Int32)) → ∀ x15 : Int32, x15 = ((nI v).toInt8.toInt32) → (vp_in (nI m) (u.2.1)) ∧ Q (u.1, u.2.1, x13, (upd (u.2.2) (nI m).toNatClampNeg (vp_nar .byte x15)))))))))) := by
    intro u hu1 hu2 hu3
    unfold w_J5_isLatin1_aae02
    refine ⟨fun hc => absurd hc (by decide), fun _ => ⟨fun hc => absurd rfl hc, fun _ J4 _ => ⟨fun hc => absurd hc (by decide), fun _ => ?_⟩⟩⟩
    unfold w_J1_canEncode_fc78d
    refine ⟨fun hc => by
      rw [show (255 : Int32) = nI 255 from rfl, nI_ltI (by omega) (by omega)] at hc
      omega, fun _ => ⟨fun hc => absurd hc (by decide), fun _ x13 e13 x15 e15 => ⟨vp_in_nI (by omega) (by omega), ?_⟩⟩⟩
    rw [e13, e15, nI_1, vb7 hv, nI_clamp (by omega)]
    refine h _ _ _ ⟨rfl, by omega, hu1, hu2, fun i hi => ?_⟩
    by_cases hi2 : i = m
    · subst hi2; rw [pk_us, va_up_self]
    · rw [pk_un hi2, va_up_ne _ _ hi2]; exact hu3 i (by omega)
  unfold w_J5_ensureCapacityInternal_d00df
  intro x1 ex1
  rw [shr0 (by omega)] at ex1
  subst ex1
  by_cases hle : m + 1 ≤ bm
  · refine ⟨fun _ => fin (bv, bm, bt) h2 hle h4, fun hc => absurd ?_ hc⟩
    rw [nI_1, Int32.le_iff_toInt_le, pk_sub_toInt (by omega) (by omega)]
    have : (0 : Int32).toInt = 0 := by decide
    omega
  · have hbm : bm = 16 := by omega
    subst hbm
    have hm16 : m = 16 := by omega
    subst hm16
    refine ⟨fun hc => absurd hc (by decide), fun _ => ?_⟩
    unfold w_J5_newCapacity_0f7a4
    intro x1 e1 x2 e2 x3 e3
    have e2' : x2 = nI 17 := by rw [e2]; decide
    have e3' : x3 = nI 1 := by rw [e3, e2', e1]; decide
    subst e1 e2' e3'
    unfold w_J8_newLength_cabcc
    intro x1 e1 J2 _
    have e1' : x1 = nI 34 := by rw [e1]; decide
    subst e1'
    refine ⟨fun hc => absurd hc (by decide), fun _ => ⟨fun hc => absurd hc (by decide), fun _ => ⟨fun _ => ?_, fun hc => absurd hc (by decide)⟩⟩⟩
    rw [shr0 (n := 34) (by decide)]
    dsimp only
    rw [shl0 (n := 34) (by decide)]
    unfold w_J7_copyOf_9075b
    refine ⟨fun _ => ⟨34, rfl, by omega, fun q3 => ⟨⟨by decide, by decide, by decide, by decide, by decide⟩, fun i hi => ?_, ?_⟩⟩, fun hc => absurd hc (by decide)⟩
    · have hi' : i < 16 := hi
      rw [show (0 : Int32).toNatClampNeg + i = i from Nat.zero_add i, h4 i hi']
      exact fb7 (hL i)
    · refine fin (q3, 34, _) (Or.inr rfl) (by show 17 ≤ 34; omega) (fun i hi => ?_)
      show va_cpy bt (fun _ => 0) (0 : Int32).toNatClampNeg (0 : Int32).toNatClampNeg (nI 16).toNatClampNeg i = nI (L i)
      rw [cp_at (by omega) hi]
      exact h4 i hi
theorem k_clear {Q : (Nat × Nat × Int32 × Int32 × (Nat → Int32)) → Prop} (hp : CP m L bm cn bt) (h : ∀ ml', CP 0 L bm 0 bt → Q (bv, bm, ml', 0, bt)) : w_X4_clear bv bm ml cn bt Q := by
  obtain ⟨e1, h1, h2, h3, h4⟩ := hp
  subst e1
  have hC : CP 0 L bm 0 bt := ⟨rfl, by omega, h2, by omega, fun i hi => by omega⟩
  unfold w_X4_clear w_J4_setLength_d00df w_J5_setLength_d00df
  refine ⟨fun _ => ?_, fun hc => absurd (by decide) hc⟩
  unfold w_J5_ensureCapacityInternal_d00df
  intro x1 ex1
  rw [shr0 (by omega)] at ex1
  subst ex1
  refine ⟨fun _ => ⟨fun _ => ⟨fun _ => h _ hC, fun _ => h _ hC⟩, fun hc => absurd (nI_pos' (by omega)) hc⟩, fun hc => absurd ?_ hc⟩
  rw [show (0 : Int32) = nI 0 from rfl, Int32.le_iff_toInt_le, pk_sub_toInt (by omega) (by omega), nI_toInt (by omega)]
  omega
theorem k_text {Q : (Nat × Nat × (Nat → Int32) × Nat) → Prop} (hp : CP m L bm cn bt) (hL : LI L) (hne : m < 16) (h : ∀ q v sb, (∀ i, i < m → sb i = nI (L i)) → Q (q, v, sb, m)) : w_X4_text bv bm ml cn bt Q := by
  obtain ⟨e1, h1, h2, h3, h4⟩ := hp
  subst e1
  unfold w_X4_text w_J4_toString_0e30d
  intro q1
  unfold w_J0_init_81219 w_J0_init_db425 w_J5_getValue_6d5f1
  refine k_jlen (bv := bv) (bm := bm) (ml := ml) (cn := nI m) (bt := bt) ?_
  unfold w_J5_isLatin1_aae02
  refine ⟨fun hc => absurd hc (by decide), fun _ => ⟨fun hc => absurd rfl hc, fun _ => ⟨fun hc => absurd hc (by decide), fun _ => ?_⟩⟩⟩
  unfold w_J7_copyOfRange_39247
  intro J1 hJ1
  have hJ : J1 := by
    refine hJ1 ?_
    unfold w_J7_copyOfRangeByte_39247 w_J7_checkLength_df160
    refine ⟨fun _ x2 e2 => ⟨m, ?_, by omega, fun q4 => ?_⟩, fun hc => absurd (nI_pos' (by omega)) hc⟩
    · rw [e2, show (0 : Int32) = nI 0 from rfl, pk_sub (by omega)]; rfl
    · have e2' : x2 = nI m := by rw [e2, show (0 : Int32) = nI 0 from rfl, pk_sub (by omega)]; rfl
      subst e2'
      rw [show nI bm - (0 : Int32) = nI bm by rw [show (0 : Int32) = nI 0 from rfl, pk_sub (by omega)]; rfl, if_pos (nI_lt (by omega) (by omega))]
      refine ⟨?_, fun i hi => ?_, ?_⟩
      · have e0 : (0 : Int32).toNatClampNeg = 0 := rfl
        rw [nI_clamp (by omega), e0]
        exact ⟨by decide, by decide, nI_pos (by omega), by omega, by omega⟩
      · rw [nI_clamp (by omega)] at hi
        rw [show (0 : Int32).toNatClampNeg + i = i from Nat.zero_add i, h4 i hi]
        exact fb7 (hL i)
      · refine h _ _ _ (fun i hi => ?_)
        show va_cpy bt (fun _ => 0) (0 : Int32).toNatClampNeg (0 : Int32).toNatClampNeg (nI m).toNatClampNeg i = nI (L i)
        rw [cp_at (by omega) hi]
        exact h4 i hi
  refine ⟨fun hc => absurd rfl hc, fun _ => ⟨fun hc => ?_, fun _ => hJ⟩⟩
  rw [nI_eq (by omega) (by omega)] at hc
  omega
end PG
