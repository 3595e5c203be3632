/-! ===== the class: the nearest row, the brick to look at next, how likely ===== -/
def wishT (n v : Nat) : Nat → Int32 := fun i => if i = szN n - 1 then nI v else -1
theorem wish_fit {n v N : Nat} {kd : Nat → Nat} (hn : okN n) (hv : v ≤ 999) : fitB n kd (wishT n v) N = true ↔ topN n kd (dg n N) = v := by
  have hs := hn.sz
  have ht : topN n kd (dg n N) ≤ 243 := vl_le hn (fun j _ => dg_le n N j) (by omega)
  rw [fitB_P]
  unfold fitP
  constructor
  · intro h
    rcases h (szN n - 1) (by omega) with h9 | h9
    · unfold wishT at h9
      rw [if_pos rfl] at h9
      exact absurd h9 (nI_nem1 (by omega))
    · unfold wishT at h9
      rw [if_pos rfl] at h9
      have := (nI_eq (a := v) (b := topN n kd (dg n N)) (by omega) (by omega)).mp h9
      exact this.symm
  · intro h i hi
    by_cases h9 : i = szN n - 1
    · right
      unfold wishT
      rw [if_pos h9, h9, ← h]
      rfl
    · left
      unfold wishT
      rw [if_neg h9]
def keyN (D : Nat → Nat) (n N : Nat) : Nat := chg D (dg n N) n * 10000 + N
section PN
variable {n k : Nat} {q : Nat → Nat} {ni : Nat → Int32} {bv bm : Nat} {ml cn : Int32} {bt : Nat → Int32} {f : Nat → Int32} {t : Nat} {a : Nat → Nat → Int32} {b : Nat → Nat → Int32} {sg : Nat → Nat → Option Nat} {sL : List Nat} {sf : Nat → Nat → Int32}
variable {kd D x : Nat → Nat} {T : Nat → Int32}
theorem k_nearest {v : Nat} {Q : Int32 → ((Nat → Int32) × Nat × (Nat → Nat → Int32) × (Nat → Nat → Int32)) → Prop} (hn : okN n) (hk : ∀ i, kd i < 5) (hd : ∀ i, D i ≤ 9) (hb : CB n kd a b) (ha1 : ∀ i, i < n → a 1 i = nI (D i)) (hv : v ≤ 999)
    (h1 : ∀ f' t' a' b' N, (∀ j, j ≠ 7 → f' j = f j) → (∀ j, j ≠ 8 → a' j = a j) → (∀ j, j ≠ 4 → b' j = b j) → BG n b' → nearest n kd D v N → Q (nI (keyN D n N)) (f', t', a', b'))
    (h0 : ∀ f' t' a' b', (∀ j, j ≠ 7 → f' j = f j) → (∀ j, j ≠ 8 → a' j = a j) → (∀ j, j ≠ 4 → b' j = b j) → BG n b' → (∀ N, N < 10 ^ n → topN n kd (dg n N) ≠ v) → Q (-1) (f', t', a', b')) : w_X5_nearestWithTop n (szN n) q f t a b sg sL sf (nI v) Q := by
  have hl := hn.le
  have hs := hn.sz
  have hpw := pow_le4 hn
  unfold w_X5_nearestWithTop
  intro J6 hJ6
  refine ⟨fun hc => absurd hc (nI_nle (by omega) (by omega)), fun _ => ?_⟩
  rw [show (1 : Int32) = nI 1 from rfl, pk_sub (by omega), nI_clamp (by omega)]
  refine ⟨vp_in_nI (by omega) (by omega), hJ6 _ _ ?_⟩
  clear hJ6
  have hb4 : va_up b 4 (upd (b 4) (szN n - 1) (nI v)) 4 = upd (b 4) (szN n - 1) (nI v) := by rw [va_up_self]
  have hbo : ∀ j, j ≠ 4 → va_up b 4 (upd (b 4) (szN n - 1) (nI v)) j = b j := fun j hj => va_up_ne _ _ hj
  generalize va_up b 4 (upd (b 4) (szN n - 1) (nI v)) = b' at hb4 hbo ⊢
  have hW : ∀ i, i < szN n → wishT n v i = b' 4 i := fun i hi => by
    rw [hb4]
    unfold wishT
    by_cases h9 : i = szN n - 1
    · rw [if_pos h9, h9, pk_us]
    · rw [if_neg h9, pk_un h9, hb.2.2.2 i (by omega)]
  have hBG : BG n b' := ⟨fun i hi => by rw [hbo 2 (by decide)]; exact hb.2.2.1 i hi, fun i hi => by rw [hb4, pk_un (by omega)]; exact hb.2.2.2 i hi⟩
  have hb0 : ∀ i, n ≤ i → i < szN n → b' 0 (i - n) = nI (kd i) := fun i p r => by rw [hbo 0 (by decide)]; exact hb.2.1 i p r
  have hfit : ∀ N, fitB n kd (b' 4) N = true ↔ topN n kd (dg n N) = v := fun N => by rw [← fitB_cong hW]; exact wish_fit hn hv
  have hkey : ∀ N, N < 10 ^ n → keyN D n N < 50000 := fun N hN => by
    have := chg_le D (dg n N) n
    unfold keyN; omega
  refine k_start (kd := kd) (T := b' 4) hn (fun z1 hz1 X hX => ?_)
  have key : ∀ d M c x8 fv av, 10 ^ n - M = d → M ≤ 10 ^ n → c ≤ M → RwS n kd (b' 4) (fv 7) (av 8) M → ((x8 = -1 ∧ ∀ N, N < M → topN n kd (dg n N) ≠ v) ∨ ∃ B, B < M ∧ x8 = nI (keyN D n B) ∧ topN n kd (dg n B) = v ∧ ∀ N, N < M → topN n kd (dg n N) = v → keyN D n B ≤ keyN D n N) → (∀ j, j ≠ 7 → fv j = f j) → (∀ j, j ≠ 8 → av j = a j) → X x8 (nI c) fv av := by
    intro d
    induction d using Nat.strongRecOn with
    | ind d ih =>
      intro M c x8 fv av hdd hM hcM hR hx8 hKF hKA
      have done : ∀ fv av, (∀ j, j ≠ 7 → fv j = f j) → (∀ j, j ≠ 8 → av j = a j) → (∀ N, M ≤ N → N < 10 ^ n → topN n kd (dg n N) ≠ v) → Q x8 (fv, (q 21), av, b') := by
        intro fv av e1 e2 hno
        rcases hx8 with ⟨e, hno1⟩ | ⟨B, hB, e, hBt, hBm⟩
        · subst e
          refine h0 fv (q 21) av b' e1 e2 hbo hBG (fun N hN => ?_)
          rcases Nat.lt_or_ge N M with h9 | h9
          · exact hno1 N h9
          · exact hno N h9 hN
        · subst e
          refine h1 fv (q 21) av b' B e1 e2 hbo hBG ⟨by omega, hBt, fun N hN hNt => ?_⟩
          have hNM : N < M := by
            rcases Nat.lt_or_ge N M with h9 | h9
            · exact h9
            · exact absurd hNt (hno N h9 hN)
          have := hBm N hNM hNt
          unfold keyN at this
          have l1 := chg_le D (dg n B) n
          have l2 := chg_le D (dg n N) n
          omega
      refine hX _ _ _ _ (pk_le 10000 c (fun h9 => ?_) (fun _ => ?_))
      · refine done fv av hKF hKA (fun N h8 h7 => by omega)
      · refine k_next (kd := kd) hn hk hb0 hR (fun at' z N hMN hN hfitN hno hz hR' => ?_) (fun at' z hno hR' => ?_)
        · refine ⟨fun h8 => absurd h8 (by decide), fun _ => ?_⟩
          refine k_changesTo (D := D) (x := dg n N) hn hd (dg_le n N) (fun i hi => by rw [va_up_ne _ _ (by decide), hKA 1 (by decide)]; exact ha1 i hi) (fun i hi => by rw [va_up_self]; show z i = _; rw [hz i (by omega), vl_low hi]) ?_
          unfold w_X6_number
          refine k_asNumber (D := dg n N) (by omega) (by omega) (fun i hi => by show z i = _; rw [hz i (by omega), vl_low hi]) ?_
          rw [numN_dgn hN]
          intro x21 e21 J23 hJ23
          rw [show (10000 : Int32) = nI 10000 from rfl, pk_mul, nI_add] at e21
          have e21' : x21 = nI (keyN D n N) := e21
          subst e21'
          have hkN := hkey N hN
          have htN := (hfit N).mp hfitN
          have hnoM : ∀ N', M ≤ N' → N' < N → topN n kd (dg n N') ≠ v := fun N' p r h9 => by
            have := hno N' p r
            rw [(hfit N').mpr h9] at this
            exact absurd this (by decide)
          have go : ∀ x22 : Int32, ((∃ B, B < N + 1 ∧ x22 = nI (keyN D n B) ∧ topN n kd (dg n B) = v ∧ ∀ N', N' < N + 1 → topN n kd (dg n N') = v → keyN D n B ≤ keyN D n N')) → J23 x22 := fun x22 hx => hJ23 _ (fun x24 e24 => by
            rw [e24, nI_1]
            refine ih (10 ^ n - (N + 1)) (by omega) (N + 1) (c + 1) x22 _ _ rfl (by omega) (by omega) ?_ (Or.inr hx) (fun j hj => by rw [pk_un hj]; exact hKF j hj) (fun j hj => by rw [va_up_ne _ _ hj]; exact hKA j hj)
            rw [pk_us, va_up_self]; exact hR')
          rcases hx8 with ⟨e, hno1⟩ | ⟨B, hB, e, hBt, hBm⟩
          · subst e
            refine ⟨fun hc => absurd rfl hc, fun _ => go _ ⟨N, by omega, rfl, htN, fun N' h9 h8 => ?_⟩⟩
            rcases Nat.lt_or_ge N' M with h7 | h7
            · exact absurd h8 (hno1 N' h7)
            · rcases Nat.lt_or_ge N' N with h6 | h6
              · exact absurd h8 (hnoM N' h7 h6)
              · rw [show N' = N by omega]; exact Nat.le_refl _
          · subst e
            have hkB := hkey B (by omega)
            refine ⟨fun _ => ?_, fun hc => absurd hc (nI_nem1 (by omega))⟩
            by_cases hlt : keyN D n N < keyN D n B
            · rw [if_pos ((nI_ltI (by omega) (by omega)).mpr hlt)]
              refine go _ ⟨N, by omega, rfl, htN, fun N' h9 h8 => ?_⟩
              rcases Nat.lt_or_ge N' M with h7 | h7
              · have := hBm N' h7 h8; omega
              · rcases Nat.lt_or_ge N' N with h6 | h6
                · exact absurd h8 (hnoM N' h7 h6)
                · rw [show N' = N by omega]; exact Nat.le_refl _
            · rw [if_neg (fun h9 => hlt ((nI_ltI (by omega) (by omega)).mp h9))]
              refine go _ ⟨B, by omega, rfl, hBt, fun N' h9 h8 => ?_⟩
              rcases Nat.lt_or_ge N' M with h7 | h7
              · exact hBm N' h7 h8
              · rcases Nat.lt_or_ge N' N with h6 | h6
                · exact absurd h8 (hnoM N' h7 h6)
                · rw [show N' = N by omega]; omega
        · refine ⟨fun _ => done _ _ (fun j hj => by rw [pk_un hj]; exact hKF j hj) (fun j hj => by rw [va_up_ne _ _ hj]; exact hKA j hj) (fun N h9 h8 h7 => ?_), fun h8 => absurd rfl h8⟩
          have := hno N h9 h8
          rw [(hfit N).mpr h7] at this
          exact absurd this (by decide)
  refine key (10 ^ n) 0 0 _ _ _ (by omega) (by omega) (by omega) ?_ (Or.inl ⟨rfl, fun N hN => by omega⟩) (fun j hj => pk_un hj) (fun j hj => va_up_ne _ _ hj)
  rw [pk_us, va_up_self]
  exact hz1
theorem k_gcd {all up : Nat} {Q : Int32 → Prop} (ha : all ≤ 10000) (hu : up ≤ 10000) (h : Q (nI (max (Nat.gcd all up) 1))) : w_X10_greatestDivisor (nI all) (nI up) Q := by
  unfold w_X10_greatestDivisor
  intro X hX
  have fin : ∀ x, x ≤ 10000 → x = Nat.gcd all up → Q (if nI x < 1 then 1 else nI x) := by
    intro x hx ex
    rw [← ex] at h
    rw [show (1 : Int32) = nI 1 from rfl]
    by_cases h0 : x < 1
    · rw [if_pos ((nI_ltI (b := 1) (by omega) (by omega)).mpr h0)]
      rw [show max x 1 = 1 by omega] at h
      exact h
    · rw [if_neg (fun h9 => h0 ((nI_ltI (b := 1) (by omega) (by omega)).mp h9))]
      rw [show max x 1 = x by omega] at h
      exact h
  have key : ∀ y x st, x ≤ 10000 → y ≤ 10000 → st + y < 100000 → Nat.gcd x y = Nat.gcd all up → X (nI x) (nI y) (nI st) := by
    intro y
    induction y using Nat.strongRecOn with
    | ind y ih =>
      intro x st hx hy hst hg
      refine hX _ _ _ (fun J hJ => pk_le 100000 st (fun _ => by omega) (fun _ => ?_))
      by_cases h0 : y = 0
      · subst h0
        rw [Nat.gcd_zero_right] at hg
        exact ⟨fun _ => hJ (fin x hx hg), fun hc => absurd rfl hc⟩
      · refine ⟨fun hc => absurd hc (nI_ne0 (by omega) (by omega)), fun _ => ⟨nI_ne0 (by omega) (by omega), fun x9 e9 x10 e10 => ?_⟩⟩
        rw [e9, e10, pk_rem (by omega) (by omega) (by omega), nI_1]
        have hm : x % y < y := Nat.mod_lt _ (by omega)
        refine ih (x % y) hm y (st + 1) hy (by omega) (by omega) ?_
        rw [← hg, Nat.gcd_comm x y, Nat.gcd_rec y x, Nat.gcd_comm]
  exact key up all 0 ha hu (by omega) rfl
/-- how many counts the tally has of brick i -/
def wdN (n i : Nat) : Nat := 9 * 3 ^ (bkR n i) + 1
theorem bg_t : ∀ n, n < 5 → 2 ≤ n → ∀ i, i < szN n → (bgN n i + wdN n i = bgN n (i + 1) ∧ bgN n (i + 1) ≤ toL n ∧ wdN n i ≤ 244) := by decide +kernel
theorem bg_mono : ∀ n, n < 5 → 2 ≤ n → ∀ j, j < szN n → ∀ i, i < j → bgN n (i + 1) ≤ bgN n j := by decide +kernel
theorem to_le : ∀ n, n < 5 → toL n ≤ 532 := by decide +kernel
theorem vl_row {n : Nat} {kd x : Nat → Nat} (hn : okN n) (hx : ∀ j, x j ≤ 9) : ∀ r p, p < n → r ≤ p → vl n kd x (bk n p r) ≤ 9 * 3 ^ r := by
  have hl := hn.le
  intro r
  induction r with
  | zero =>
    intro p hp _
    show vl n kd x p ≤ _
    rw [vl_low hp]
    exact hx p
  | succ r ih =>
    intro p hp hr
    obtain ⟨f1, f2, f3, f4, f5⟩ := bk_f n (by omega) p hp r (by omega)
    have e1 : lfN n 0 (bk n p (r + 1)) = bk n (p - 1) r := by omega
    have h3 : 1 ≤ 3 ^ r := Nat.pow_pos (by decide)
    rw [vl_up hn f1 f2, f3, e1, Nat.pow_succ]
    have := mk_le (k := kd (bk n p (r + 1))) (ih (p - 1) (by omega) (by omega)) (ih p hp (by omega)) (show 9 ≤ 9 * 3 ^ r by omega)
    omega
theorem vl_wd {n i : Nat} {kd x : Nat → Nat} (hn : okN n) (hx : ∀ j, x j ≤ 9) (hi : i < szN n) : vl n kd x i < wdN n i := by
  have hl := hn.le
  obtain ⟨c1, c2, c3⟩ := bk_cov n (by omega) (by omega) i hi
  have := vl_row (kd := kd) hn hx (bkR n i) (bkP n i) c1 (by omega)
  rw [c3] at this
  unfold wdN
  omega
/-- a row of figures more is counted -/
theorem k_add {n : Nat} {vv : Nat → Nat} {bg z of_ : Nat → Int32} {C : Nat → Nat → Nat} {Q : (Nat → Int32) → Prop} (hn : okN n) (hbg : ∀ i, i < szN n → bg i = nI (bgN n i) ∧ bg (i + 1) = nI (bgN n (i + 1))) (hz : ∀ i, i < szN n → z i = nI (vv i)) (hv : ∀ i, i < szN n → vv i < wdN n i) (hU : ∀ i, i < szN n → ∀ v, v < wdN n i → of_ (bgN n i + v) = nI (C i v))
    (h : ∀ U', (∀ i, i < szN n → ∀ v, v < wdN n i → U' (bgN n i + v) = nI (C i v + if vv i = v then 1 else 0)) → Q U') : w_X12_add (szN n) (toL n) bg (szN n) z of_ Q := by
  have hl := hn.le
  have hs := hn.sz
  have hto := to_le n (by omega)
  unfold w_X12_add
  intro X hX
  have e1 : nI (szN n + 1) - (1 : Int32) = nI (szN n) := by
    rw [show (1 : Int32) = nI 1 from rfl, pk_sub (by omega)]
    congr 1
  have key : ∀ d i w, i + d = szN n → (∀ j, j < i → ∀ v, v < wdN n j → w (bgN n j + v) = nI (C j v + if vv j = v then 1 else 0)) → (∀ j, i ≤ j → j < szN n → ∀ v, v < wdN n j → w (bgN n j + v) = nI (C j v)) → X (nI i) w := by
    intro d
    induction d with
    | zero =>
      intro i w hi w1 w2
      refine hX _ _ ?_
      rw [e1]
      exact pk_le (szN n) i (fun _ => h w (fun j hj v hv => w1 j (by omega) v hv)) (fun h9 => absurd h9 (by omega))
    | succ d ih =>
      intro i w hi w1 w2
      have hin : i < szN n := by omega
      obtain ⟨t1, t2, t3⟩ := bg_t n (by omega) (by omega) i hin
      have hvi := hv i hin
      have ei : nI i + (1 : Int32) = nI (i + 1) := nI_1 i
      refine hX _ _ ?_
      rw [e1, ei, nI_clamp (show i < 2 ^ 31 by omega), nI_clamp (show i + 1 < 2 ^ 31 by omega), (hbg i hin).1, (hbg i hin).2, hz i hin, nI_add]
      refine pk_le (szN n) i (fun h9 => absurd h9 (by omega)) (fun _ => pk_le (szN n) i (fun h9 => absurd h9 (by omega)) (fun _ => ⟨vp_in_nI (by omega) (by omega), vp_in_nI (by omega) (by omega), fun x8 e8 => ⟨vp_in_nI (by omega) (by omega), vp_in_nI (by omega) (by omega), ?_⟩⟩))
      subst e8
      refine k_wy (a := bgN n i) (b := bgN n (i + 1)) (by omega) (by omega) (by omega) (nI_toInt (by omega)) (nI_sub1_toInt (by omega)) (fun J hJ => ⟨fun hc => absurd hc (by decide), fun _ => ?_⟩)
      rw [nI_clamp (show bgN n i + vv i < 2 ^ 31 by omega), w2 i (Nat.le_refl _) hin (vv i) hvi, nI_1]
      refine ⟨vp_in_nI (by omega) (by omega), fun x18 e18 => ⟨vp_in_nI (by omega) (by omega), hJ _ (fun x14 e14 => ?_)⟩⟩
      rw [e14, e18]
      have hne : ∀ j v, j < szN n → v < wdN n j → ¬ (j = i ∧ v = vv i) → bgN n j + v ≠ bgN n i + vv i := fun j v hj hv2 hno => by
        obtain ⟨u1, u2, u3⟩ := bg_t n (by omega) (by omega) j hj
        rcases Nat.lt_trichotomy j i with g | g | g
        · have := bg_mono n (by omega) (by omega) i hin j g
          omega
        · subst g
          have : v ≠ vv j := fun e => hno ⟨rfl, e⟩
          omega
        · have := bg_mono n (by omega) (by omega) j hj i g
          omega
      refine ih (i + 1) _ (by omega) (fun j hj v hv2 => ?_) (fun j hj hjn v hv2 => ?_)
      · by_cases hji : j = i
        · subst hji
          by_cases hvv : vv j = v
          · subst hvv
            rw [pk_us, if_pos rfl]
          · rw [pk_un (hne j v hin hv2 (fun h9 => hvv h9.2.symm)), w2 j (Nat.le_refl _) hin v hv2, if_neg hvv]
            rfl
        · rw [pk_un (hne j v (by omega) hv2 (fun h9 => hji h9.1))]
          exact w1 j (by omega) v hv2
      · rw [pk_un (hne j v hjn hv2 (fun h9 => by omega))]
        exact w2 j (by omega) hjn v hv2
  exact key (szN n) 0 of_ (by omega) (fun j hj => absurd hj (by omega)) (fun j _ hj v hv2 => hU j hj v hv2)
theorem k_worst {n i : Nat} {bg of_ : Nat → Int32} {g : Nat → Nat} {Q : Int32 → Unit → Prop} (hn : okN n) (hi : i < szN n) (hbg : bg i = nI (bgN n i) ∧ bg (i + 1) = nI (bgN n (i + 1))) (hg : ∀ v, g v < 2 ^ 31) (hU : ∀ v, v < wdN n i → of_ (bgN n i + v) = nI (g v)) (h : Q (nI (mxN g (wdN n i))) ()) : w_X12_worst (szN n) (toL n) bg of_ (nI i) Q := by
  have hl := hn.le
  have hs := hn.sz
  have hto := to_le n (by omega)
  obtain ⟨t1, t2, t3⟩ := bg_t n (by omega) (by omega) i hi
  have hmx : ∀ v, mxN g v < 2 ^ 31 := fun v => by
    have := mxN_le (f := g) (B := 2 ^ 31 - 1) (fun v => by have := hg v; omega) v
    omega
  unfold w_X12_worst
  have ei : nI i + (1 : Int32) = nI (i + 1) := nI_1 i
  rw [ei, nI_clamp (show i < 2 ^ 31 by omega), nI_clamp (show i + 1 < 2 ^ 31 by omega), hbg.1, hbg.2]
  refine ⟨vp_in_nI (by omega) (by omega), fun x2 e2 X hX => ?_⟩
  have key : ∀ d v, v + d = wdN n i → X (nI (mxN g v)) (nI (bgN n i + v)) := by
    intro d
    induction d with
    | zero =>
      intro v hv
      refine hX _ _ ⟨vp_in_nI (by omega) (by omega), pk_le (bgN n (i + 1)) (bgN n i + v) (fun _ => ?_) (fun h9 => absurd h9 (by omega))⟩
      rw [show v = wdN n i by omega]; exact h
    | succ d ih =>
      intro v hv
      refine hX _ _ ⟨vp_in_nI (by omega) (by omega), pk_le (bgN n (i + 1)) (bgN n i + v) (fun h9 => absurd h9 (by omega)) (fun _ => ⟨vp_in_nI (by omega) (by omega), fun x9 e9 x10 e10 => ?_⟩)⟩
      rw [nI_clamp (show bgN n i + v < 2 ^ 31 by omega), hU v (by omega)] at e9
      have hst : mxN g (v + 1) = max (mxN g v) (g v) := rfl
      have e9' : x9 = nI (mxN g (v + 1)) := by
        rw [e9]
        by_cases hlt : mxN g v < g v
        · rw [if_pos ((nI_ltI (hmx v) (hg v)).mpr hlt), hst, show max (mxN g v) (g v) = g v by omega]
        · rw [if_neg (fun h9 => hlt ((nI_ltI (hmx v) (hg v)).mp h9)), hst, show max (mxN g v) (g v) = mxN g v by omega]
      rw [e9', e10, nI_1]
      exact ih (v + 1) (by omega)
  have := key (wdN n i) 0 (by omega)
  rw [e2]
  exact this
/-- the tally by the rows below M: how often each brick is how great -/
def tlyP (n : Nat) (kd : Nat → Nat) (T U : Nat → Int32) (M : Nat) : Prop := ∀ i, i < szN n → ∀ v, v < wdN n i → U (bgN n i + v) = nI (cnt (fitV n kd T i v) M)
theorem k_tally {Q : ((Nat → Int32) × Nat × (Nat → Nat → Int32) × (Nat → Nat → Int32)) → Prop} (hn : okN n) (hk : ∀ i, kd i < 5) (hb : CB n kd a b) (h2 : ∀ i, i < szN n → a 2 i = T i)
    (h : ∀ f' t' a' b', (∀ j, j ≠ 7 → f' j = f j) → (∀ j, j ≠ 8 → a' j = a j) → (∀ j, j ≠ 3 → b' j = b j) → tlyP n kd T (b' 3) (10 ^ n) → Q (f', t', a', b')) : w_X5_tallyFitting n (szN n) q f t a b sg sL sf Q := by
  have hl := hn.le
  have hs := hn.sz
  have hpw := pow_le4 hn
  have hto := to_le n (by omega)
  have hTc : ∀ i, i < szN n → T i = a 2 i := fun i hi => (h2 i hi).symm
  unfold w_X5_tallyFitting w_X12_clear
  refine k_fill (by omega) (fun z0 hz0 _ => k_start (kd := kd) (T := T) hn (fun z1 hz1 X hX => ?_))
  have key : ∀ d M fv av bv, 10 ^ n - M = d → M ≤ 10 ^ n → RwS n kd (a 2) (fv 7) (av 8) M → tlyP n kd T (bv 3) M → (∀ j, j ≠ 7 → fv j = f j) → (∀ j, j ≠ 8 → av j = a j) → (∀ j, j ≠ 3 → bv j = b j) → X (nI (cnt (fitB n kd T) M)) fv av bv := by
    intro d
    induction d using Nat.strongRecOn with
    | ind d ih =>
      intro M fv av bv hd hM hR hU hKF hKA hKB
      have hcl := cnt_le (fitB n kd T) M
      refine hX _ _ _ _ (pk_le 10000 (cnt (fitB n kd T) M) (fun h9 => ?_) (fun h9 => ?_))
      · have e : M = 10 ^ n := by omega
        subst e
        exact h fv _ av bv hKF hKA hKB hU
      · rw [show av 2 = a 2 from hKA 2 (by decide)]
        have hb0 : ∀ i, n ≤ i → i < szN n → bv 0 (i - n) = nI (kd i) := fun i p r => by rw [hKB 0 (by decide)]; exact hb.2.1 i p r
        refine k_next (kd := kd) hn hk hb0 hR (fun at' z N hMN hN hfit hno hz hR' => ?_) (fun at' z hno hR' => ?_)
        · refine ⟨fun h8 => absurd h8 (by decide), fun _ => ?_⟩
          rw [← fitB_cong hTc] at hfit
          have hno' : ∀ N', M ≤ N' → N' < N → fitB n kd T N' = false := fun N' p r => by rw [fitB_cong hTc]; exact hno N' p r
          have c1 : cnt (fitB n kd T) (N + 1) = cnt (fitB n kd T) M + 1 := by rw [cnt_found hMN hno', hfit]; rfl
          have c2 : ∀ i e, cnt (fitV n kd T i e) (N + 1) = cnt (fitV n kd T i e) M + (if vl n kd (dg n N) i = e then 1 else 0) := fun i e => by
            rw [cnt_found hMN (fun N' p r => by unfold fitV; rw [hno' N' p r]; rfl)]
            congr 1
            unfold fitV
            rw [hfit]
            simp
          refine k_add (vv := fun i => vl n kd (dg n N) i) (C := fun i v => cnt (fitV n kd T i v) M) hn (fun i hi => by rw [hKB 2 (by decide)]; exact hb.2.2.1 i hi) hz (fun i hi => vl_wd hn (dg_le n N) hi) hU (fun U' hU' x13 e13 => ?_)
          rw [e13, nI_1, ← c1]
          refine ih (10 ^ n - (N + 1)) (by omega) (N + 1) _ _ _ rfl (by omega) ?_ ?_ (fun j hj => by rw [pk_un hj]; exact hKF j hj) (fun j hj => by rw [va_up_ne _ _ hj]; exact hKA j hj) (fun j hj => by rw [va_up_ne _ _ hj]; exact hKB j hj)
          · rw [pk_us, va_up_self]; exact hR'
          · intro i hi v hv
            rw [va_up_self, hU' i hi v hv, c2]
        · refine ⟨fun _ => ?_, fun h8 => absurd rfl h8⟩
          have c2 : ∀ i e, cnt (fitV n kd T i e) (10 ^ n) = cnt (fitV n kd T i e) M := fun i e => cnt_same _ hM (fun N' p r => by unfold fitV; rw [fitB_cong hTc, hno N' p r]; rfl)
          exact h _ _ _ bv (fun j hj => by rw [pk_un hj]; exact hKF j hj) (fun j hj => by rw [va_up_ne _ _ hj]; exact hKA j hj) hKB (fun i hi v hv => by rw [hU i hi v hv, c2])
  refine key (10 ^ n) 0 _ _ _ (by omega) (by omega) ?_ (fun i hi v hv => ?_) (fun j hj => pk_un hj) (fun j hj => va_up_ne _ _ hj) (fun j hj => va_up_ne _ _ hj)
  · rw [pk_us, va_up_self]
    exact hz1.cong hn hTc
  · obtain ⟨t1, t2, t3⟩ := bg_t n (by omega) (by omega) i hi
    rw [va_up_self, hz0 _ (by omega)]
    rfl
theorem mx_cut {f : Nat → Nat} {w : Nat} (h : ∀ v, w ≤ v → f v = 0) : ∀ d, mxN f (w + d) = mxN f w
  | 0 => rfl
  | d + 1 => by
    show max (mxN f (w + d)) (f (w + d)) = _
    rw [mx_cut h d, h _ (by omega), Nat.max_zero]
theorem cnt_z {P : Nat → Bool} : ∀ n, (∀ i, P i = false) → cnt P n = 0
  | 0, _ => rfl
  | n + 1, h => by rw [cnt_succ, h n, cnt_z n h]; rfl
theorem wst_cut {i : Nat} (hn : okN n) (hi : i < szN n) : mxN (fun v => cnt (fitV n kd T i v) (10 ^ n)) (wdN n i) = wst n kd T i := by
  have hl := hn.le
  obtain ⟨t1, t2, t3⟩ := bg_t n (by omega) (by omega) i hi
  have := mx_cut (f := fun v => cnt (fitV n kd T i v) (10 ^ n)) (w := wdN n i) (fun v hv => cnt_z _ (fun N => by
    have := vl_wd (kd := kd) hn (dg_le n N) hi
    unfold fitV
    rw [decide_eq_false (show ¬ vl n kd (dg n N) i = v by omega), Bool.and_false])) (244 - wdN n i)
  rw [show wdN n i + (244 - wdN n i) = 244 by omega] at this
  exact this.symm
theorem wst_pos {i : Nat} (hn : okN n) (hi : i < szN n) (hc : cnt (fitB n kd T) (10 ^ n) ≠ 0) : 0 < wst n kd T i := by
  have ex : ∀ K, cnt (fitB n kd T) K ≠ 0 → ∃ N, N < K ∧ fitB n kd T N = true := by
    intro K
    induction K with
    | zero => intro h; exact absurd rfl h
    | succ K ih =>
      intro h
      cases hb : fitB n kd T K with
      | true => exact ⟨K, by omega, hb⟩
      | false =>
        rw [cnt_succ, hb] at h
        obtain ⟨N, h1, h2⟩ := ih (by simpa using h)
        exact ⟨N, by omega, h2⟩
  obtain ⟨N, hN, hf⟩ := ex _ hc
  have hv := vl_le hn (kd := kd) (fun j _ => dg_le n N j) hi
  have g1 : cnt (fitV n kd T i (vl n kd (dg n N) i)) (10 ^ n) ≤ wst n kd T i := mxN_ge (fun v => cnt (fitV n kd T i v) (10 ^ n)) 244 _ (by omega)
  have g2 := cnt_lt (p := fitV n kd T i (vl n kd (dg n N) i)) hN (by unfold fitV; rw [hf]; simp)
  omega
theorem wst_zero {i : Nat} (hc : cnt (fitB n kd T) (10 ^ n) = 0) : wst n kd T i = 0 := by
  have : wst n kd T i ≤ 0 := mxN_le (fun v => by
    have : cnt (fitV n kd T i v) (10 ^ n) ≤ cnt (fitB n kd T) (10 ^ n) := cnt_and_le _ _ _
    omega) _
  omega
theorem lk_zero {T : Nat → Int32} {w : Nat → Nat} (h : ∀ i, w i = 0) : ∀ i, (lkB T w i).1 = -1
  | 0 => rfl
  | i + 1 => by
    unfold lkB
    rw [if_neg (by rw [h i]; omega)]
    exact lk_zero h i
theorem k_nextLook {Q : Int32 → ((Nat → Int32) × Nat × (Nat → Nat → Int32) × (Nat → Nat → Int32)) → Prop} (hn : okN n) (hk : ∀ i, kd i < 5) (hb : CB n kd a b) (h2 : ∀ i, i < szN n → a 2 i = T i) (hc : CC n kd T f a) (h : ∀ f' t' a' b', KF f f' → KA a a' → (∀ j, j ≠ 3 → b' j = b j) → f' 2 ≠ 0 → CCd n kd T f' a' → Q (lkB T (wst n kd T) (szN n)).1 (f', t', a', b')) : w_X5_nextLook n (szN n) q f t a b sg sL sf Q := by
  have hl := hn.le
  have hs := hn.sz
  have hpw := pow_le4 hn
  unfold w_X5_nextLook
  refine k_fitting (T := T) hn hk hb h2 hc (fun f1 t1 a1 g1 g2 g3 g4 g5 => ?_)
  have hcl := cnt_le (fitB n kd T) (10 ^ n)
  rw [show (0 : Int32) = nI 0 from rfl, nI_eq (by omega) (by omega)]
  refine ⟨fun hc0 => ?_, fun hc0 => ?_⟩
  · have h2' : ∀ i, i < szN n → a1 2 i = T i := fun i hi => by rw [g2 2 (by decide) (by decide) (by decide)]; exact h2 i hi
    refine k_tally (T := T) hn hk (hb.ka g2) h2' (fun f' t' a' b' e1 e2 e3 hU => ?_)
    have hq := h f' t' a' b' (g1.trans (fun j p q r => e1 j r)) (g2.trans (fun j p q r => e2 j r)) e3 (by rw [e1 2 (by decide)]; exact g4) ⟨by rw [e1 1 (by decide)]; exact g5.1, by rw [e2 7 (by decide)]; exact g5.2⟩
    intro X hX
    have key : ∀ d i w, i + d = szN n → w = (if (lkB T (wst n kd T) i).2 = 100000 then 10001 else (lkB T (wst n kd T) i).2) → X (lkB T (wst n kd T) i).1 (nI w) (nI i) := by
      intro d
      induction d with
      | zero =>
        intro i w hi hw
        refine hX _ _ _ (pk_le (szN n) i (fun _ => ?_) (fun _ => by omega))
        rw [show i = szN n by omega]
        exact hq
      | succ d ih =>
        intro i w hi hw
        refine hX _ _ _ (pk_le (szN n) i (fun h9 => absurd h9 (by omega)) (fun _ => ?_))
        refine k_worst (g := fun v => cnt (fitV n kd T i v) (10 ^ n)) hn (show i < szN n by omega) (by show b' 2 i = _ ∧ b' 2 (i + 1) = _; rw [e3 2 (by decide)]; exact hb.2.2.1 i (by omega)) (fun v => by have := cnt_le (fitV n kd T i v) (10 ^ n); omega) (fun v hv => hU i (by omega) v hv) ?_
        rw [wst_cut hn (show i < szN n by omega), nI_clamp (show i < 2 ^ 31 by omega)]
        refine ⟨vp_in_nI (by omega) (by omega), fun J17 hJ17 => ?_⟩
        show (¬ a' 2 i = -1 → J17 _ _) ∧ (a' 2 i = -1 → ((nI w ≤ nI (wst n kd T i) → J17 _ _) ∧ (¬ nI w ≤ nI (wst n kd T i) → J17 (nI i) (nI (wst n kd T i)))))
        have hwp := wst_pos (kd := kd) (T := T) hn (show i < szN n by omega) hc0
        have hwl := wst_le (kd := kd) (T := T) (i := i) hn
        have hll := lkB_le (T := T) (w := wst n kd T) i
        have hwb : w ≤ 100001 := by rw [hw]; split <;> omega
        have hst : lkB T (wst n kd T) (i + 1) = if T i = -1 ∧ 0 < wst n kd T i ∧ wst n kd T i < (lkB T (wst n kd T) i).2 then (nI i, wst n kd T i) else lkB T (wst n kd T) i := rfl
        have hT : a' 2 i = T i := by rw [e2 2 (by decide)]; exact h2' i (by omega)
        rw [hT, nI_leI (by omega) (by omega)]
        have keep : ¬ (T i = -1 ∧ 0 < wst n kd T i ∧ wst n kd T i < (lkB T (wst n kd T) i).2) → J17 (lkB T (wst n kd T) i).1 (nI w) := fun hno => hJ17 _ _ (fun x18 e18 => by
          rw [e18, nI_1]
          have := ih (i + 1) w (by omega) (by rw [hst, if_neg hno]; exact hw)
          rw [hst, if_neg hno] at this
          exact this)
        refine ⟨fun hne => keep (fun h9 => hne h9.1), fun he => ⟨fun hle => keep (fun h9 => ?_), fun hgt => hJ17 _ _ (fun x18 e18 => ?_)⟩⟩
        · have h8 := h9.2.2
          rw [hw] at hle
          split at hle <;> omega
        · have hyes : T i = -1 ∧ 0 < wst n kd T i ∧ wst n kd T i < (lkB T (wst n kd T) i).2 := by
            refine ⟨he, hwp, ?_⟩
            rw [hw] at hgt
            split at hgt <;> omega
          rw [e18, nI_1]
          have := ih (i + 1) (wst n kd T i) (by omega) (by rw [hst, if_pos hyes]; show wst n kd T i = if wst n kd T i = 100000 then 10001 else wst n kd T i; rw [if_neg (by omega)])
          rw [hst, if_pos hyes] at this
          exact this
    have := key (szN n) 0 10001 (by omega) (by rfl)
    exact this
  · have := h f1 t1 a1 b g1 g2 (fun _ _ => rfl) g4 g5
    rw [lk_zero (fun i => wst_zero hc0)] at this
    exact this
end PN
