/-! ===== the class: how many fit, which one, with which figures ===== -/
theorem fitB_cong {n : Nat} {kd : Nat → Nat} {T T' : Nat → Int32} (h : ∀ i, i < szN n → T i = T' i) : fitB n kd T = fitB n kd T' := by
  funext N
  unfold fitB
  apply decide_eq_decide.mpr
  exact ⟨fun g i hi => by rw [← h i hi]; exact g i hi, fun g i hi => by rw [h i hi]; exact g i hi⟩
theorem fitD_cong {n : Nat} {kd : Nat → Nat} {T T' : Nat → Int32} (h : ∀ i, i < szN n → T i = T' i) (i d : Nat) : fitD n kd T i d = fitD n kd T' i d := by
  funext N
  unfold fitD
  rw [fitB_cong h]
theorem fitV_cong {n : Nat} {kd : Nat → Nat} {T T' : Nat → Int32} (h : ∀ i, i < szN n → T i = T' i) (i d : Nat) : fitV n kd T i d = fitV n kd T' i d := by
  funext N
  unfold fitV
  rw [fitB_cong h]
theorem cnt_same {p : Nat → Bool} {M : Nat} : ∀ K, M ≤ K → (∀ N', M ≤ N' → N' < K → p N' = false) → cnt p K = cnt p M := by
  intro K
  induction K with
  | zero => intro h _; rw [show M = 0 by omega]
  | succ K ih =>
    intro h hno
    by_cases hMK : M = K + 1
    · rw [hMK]
    · rw [cnt_succ, hno K (by omega) (by omega), ih (by omega) (fun N' h1 h2 => hno N' h1 (by omega))]
      rfl
theorem cnt_found {p : Nat → Bool} {M N : Nat} (h : M ≤ N) (hno : ∀ N', M ≤ N' → N' < N → p N' = false) : cnt p (N + 1) = cnt p M + (if p N then 1 else 0) := by
  rw [cnt_succ, cnt_same N h hno]
theorem cnt_all {p : Nat → Bool} : ∀ {M K : Nat}, M ≤ K → K ≤ cnt p M → M = K := by
  intro M K h1 h2
  have := cnt_le p M
  omega
/-- what the class has counted -/
def CCd (n : Nat) (kd : Nat → Nat) (T : Nat → Int32) (f : Nat → Int32) (a : Nat → Nat → Int32) : Prop := f 1 = nI (cnt (fitB n kd T) (10 ^ n)) ∧ ∀ i, i < n → ∀ d, d ≤ 9 → a 7 (10 * i + d) = nI (cnt (fitD n kd T i d) (10 ^ n))
def CC (n : Nat) (kd : Nat → Nat) (T : Nat → Int32) (f : Nat → Int32) (a : Nat → Nat → Int32) : Prop := f 2 = 0 ∨ CCd n kd T f a
def KF (f f' : Nat → Int32) : Prop := ∀ j, j ≠ 1 → j ≠ 2 → j ≠ 7 → f' j = f j
def KA (a a' : Nat → Nat → Int32) : Prop := ∀ j, j ≠ 6 → j ≠ 7 → j ≠ 8 → a' j = a j
theorem KF.rfl' {f : Nat → Int32} : KF f f := fun _ _ _ _ => rfl
theorem KA.rfl' {a : Nat → Nat → Int32} : KA a a := fun _ _ _ _ => rfl
theorem KF.trans {f g h : Nat → Int32} (h1 : KF f g) (h2 : KF g h) : KF f h := fun j p q r => (h2 j p q r).trans (h1 j p q r)
theorem KA.trans {f g h : Nat → Nat → Int32} (h1 : KA f g) (h2 : KA g h) : KA f h := fun j p q r => (h2 j p q r).trans (h1 j p q r)
theorem KA.up {a a' : Nat → Nat → Int32} {j : Nat} {v : Nat → Int32} (h : KA a a') (hj : j = 6 ∨ j = 7 ∨ j = 8) : KA a (va_up a' j v) := fun i p q r => by
  rw [va_up_ne _ _ (by omega)]; exact h i p q r
theorem KF.up {f f' : Nat → Int32} {j : Nat} {v : Int32} (h : KF f f') (hj : j = 1 ∨ j = 2 ∨ j = 7) : KF f (upd f' j v) := fun i p q r => by
  rw [pk_un (by omega)]; exact h i p q r
theorem dg_ix {n : Nat} (hn : okN n) {i d : Nat} (hi : i < n) (hd : d ≤ 9) : 10 * i + d < 10 * n := by omega
section PF
variable {n k : Nat} {q : Nat → Nat} {ni : Nat → Int32} {bv bm : Nat} {ml cn : Int32} {bt : Nat → Int32} {f : Nat → Int32} {t : Nat} {a : Nat → Nat → Int32} {b : Nat → Nat → Int32} {sg : Nat → Nat → Option Nat} {sL : List Nat} {sf : Nat → Nat → Int32}
variable {kd D x : Nat → Nat} {T : Nat → Int32}
theorem k_fitting {Q : Int32 → ((Nat → Int32) × Nat × (Nat → Nat → Int32)) → Prop} (hn : okN n) (hk : ∀ i, kd i < 5) (hb : CB n kd a b) (h2 : ∀ i, i < szN n → a 2 i = T i) (hc : CC n kd T f a) (h : ∀ f' t' a', KF f f' → KA a a' → a' 6 = a 6 → f' 2 ≠ 0 → CCd n kd T f' a' → Q (nI (cnt (fitB n kd T) (10 ^ n))) (f', t', a')) : w_X5_fitting n (szN n) q f t a b sg sL sf Q := by
  have hl := hn.le
  have hs := hn.sz
  have hpw := pow_le4 hn
  have hTc : ∀ i, i < szN n → T i = a 2 i := fun i hi => (h2 i hi).symm
  unfold w_X5_fitting
  refine ⟨fun hf2 => ?_, fun hf2 => ?_⟩
  · refine k_fill (by omega) (fun z0 hz0 _ => k_start (kd := kd) (T := T) hn (fun z1 hz1 => ?_))
    intro X hX
    have key : ∀ d M fv av, 10 ^ n - M = d → M ≤ 10 ^ n → RwS n kd (a 2) (fv 7) (av 8) M → fv 1 = nI (cnt (fitB n kd T) M) → (∀ i, i < n → ∀ e, e ≤ 9 → av 7 (10 * i + e) = nI (cnt (fitD n kd T i e) M)) → KF f fv → KA a av → av 6 = a 6 → X (nI (cnt (fitB n kd T) M)) fv av := by
      intro d
      induction d using Nat.strongRecOn with
      | ind d ih =>
        intro M fv av hd hM hR hf1 ha7 hKF hKA h6
        have hcl := cnt_le (fitB n kd T) M
        refine hX _ _ _ (pk_le 10000 (cnt (fitB n kd T) M) (fun h9 => ?_) (fun h9 => ?_))
        · have e : M = 10 ^ n := by omega
          subst e
          rw [hf1]
          refine h _ _ _ (hKF.up (by omega)) hKA h6 (by rw [pk_us]; decide) ⟨by rw [pk_un (by decide)]; exact hf1, ha7⟩
        · rw [show av 2 = a 2 from hKA 2 (by decide) (by decide) (by decide)]
          refine k_next (kd := kd) hn hk hb.2.1 hR (fun at' z N hMN hN hfit hno hz hR' => ?_) (fun at' z hno hR' => ?_)
          · refine ⟨fun h8 => absurd h8 (by decide), fun _ x12 e12 Y hY => ?_⟩
            rw [hf1, nI_1] at e12
            rw [← fitB_cong hTc] at hfit
            have hno' : ∀ N', M ≤ N' → N' < N → fitB n kd T N' = false := fun N' p r => by rw [fitB_cong hTc]; exact hno N' p r
            have c1 : cnt (fitB n kd T) (N + 1) = cnt (fitB n kd T) M + 1 := by rw [cnt_found hMN hno', hfit]; rfl
            have c2 : ∀ i e, cnt (fitD n kd T i e) (N + 1) = cnt (fitD n kd T i e) M + (if dg n N i = e then 1 else 0) := fun i e => by
              rw [cnt_found hMN (fun N' p r => by unfold fitD; rw [hno' N' p r]; rfl)]
              congr 1
              unfold fitD
              rw [hfit]
              simp
            have hdl := dg_le n N
            have hvz : ∀ i, i < n → z i = nI (dg n N i) := fun i hi => by rw [hz i (by omega), vl_low hi]
            have inner : ∀ d2 i w, i + d2 = n → (∀ j, j < i → ∀ e, e ≤ 9 → w (10 * j + e) = nI (cnt (fitD n kd T j e) (N + 1))) → (∀ j, i ≤ j → j < n → ∀ e, e ≤ 9 → w (10 * j + e) = nI (cnt (fitD n kd T j e) M)) → Y (nI i) (va_up (va_up av 8 z) 7 w) := by
              intro d2
              induction d2 with
              | zero =>
                intro i w hi w1 w2
                refine hY _ _ (pk_le n i (fun _ x17 e17 => ?_) (fun _ => by omega))
                rw [e17, nI_1, ← c1]
                refine ih (10 ^ n - (N + 1)) (by omega) (N + 1) _ _ rfl (by omega) ?_ ?_ ?_ ((hKF.up (by omega)).up (by omega)) ((hKA.up (by omega)).up (by omega)) ?_
                · rw [pk_un (by decide), pk_us, va_up_ne _ _ (by decide), va_up_self]; exact hR'
                · rw [pk_us, e12, c1]
                · intro j hj e he
                  rw [va_up_self]; exact w1 j (by omega) e he
                · rw [va_up_ne _ _ (by decide), va_up_ne _ _ (by decide)]; exact h6
              | succ d2 ih2 =>
                intro i w hi w1 w2
                have hdi := hdl i
                refine hY _ _ (pk_le n i (fun _ => by omega) (fun _ => ?_))
                rw [nI_clamp (show i < 2 ^ 31 by omega), va_up_ne (va_up av 8 z) w (show (8 : Nat) ≠ 7 by decide), va_up_self, hvz i (by omega), show (10 : Int32) = nI 10 from rfl, pk_mul, nI_add, nI_clamp (show i * 10 + dg n N i < 2 ^ 31 by omega), va_up_self]
                refine ⟨vp_in_nI (by omega) (by omega), vp_in_nI (by omega) (by omega), fun x21 e21 => ⟨vp_in_nI (by omega) (by omega), fun x22 e22 => ?_⟩⟩
                rw [show i * 10 + dg n N i = 10 * i + dg n N i by omega] at e21 ⊢
                rw [w2 i (Nat.le_refl _) (by omega) _ hdi, nI_1] at e21
                rw [e22, nI_1, va_up_up]
                refine ih2 (i + 1) _ (by omega) (fun j hj e he => ?_) (fun j hj hjn e he => ?_)
                · by_cases hx : 10 * j + e = 10 * i + dg n N i
                  · rw [hx, pk_us, e21]
                    have : j = i := by omega
                    subst this
                    rw [c2, if_pos (by omega), show e = dg n N j by omega]
                  · rw [pk_un hx]
                    by_cases hji : j = i
                    · subst hji
                      rw [w2 j (Nat.le_refl _) (by omega) e he, c2, if_neg (by omega)]
                      rfl
                    · exact w1 j (by omega) e he
                · rw [pk_un (by omega)]; exact w2 j (by omega) hjn e he
            have := inner n 0 (av 7) (by omega) (fun j hj => by omega) (fun j _ hj e he => ha7 j hj e he)
            rwa [show va_up (va_up av 8 z) 7 (av 7) = va_up av 8 z from by rw [va_up_comm _ (by decide), va_up_id]] at this
          · refine ⟨fun _ => ?_, fun h8 => absurd rfl h8⟩
            have hno' : ∀ N', M ≤ N' → N' < 10 ^ n → fitB n kd T N' = false := fun N' p r => by rw [fitB_cong hTc]; exact hno N' p r
            have c1 : cnt (fitB n kd T) (10 ^ n) = cnt (fitB n kd T) M := cnt_same _ hM hno'
            have c2 : ∀ i e, cnt (fitD n kd T i e) (10 ^ n) = cnt (fitD n kd T i e) M := fun i e => cnt_same _ hM (fun N' p r => by unfold fitD; rw [hno' N' p r]; rfl)
            rw [hf1, ← c1]
            refine h _ _ _ ((hKF.up (by omega)).up (by omega)) (hKA.up (by omega)) (by rw [va_up_ne _ _ (by decide)]; exact h6) (by rw [pk_us]; decide) ⟨?_, fun i hi e he => ?_⟩
            · rw [pk_un (by decide), pk_un (by decide), hf1, c1]
            · rw [va_up_ne _ _ (by decide), ha7 i hi e he, c2]
    have hz1' : RwS n kd (a 2) 0 z1 0 := by
      rcases hz1 with ⟨e1, _⟩ | ⟨p, e, x, c1, c2, c3, c4, c5, c6, c7⟩
      · exact absurd e1 (by decide)
      · refine Or.inr ⟨p, e, x, c1, c2, c3, c4, c5, c6, fun p' h9 r h8 => ⟨(c7 p' h9 r h8).1, ?_⟩⟩
        unfold okT
        rw [h2 _ (bk_lt n (by omega) p' (by omega) r (by omega))]
        exact (c7 p' h9 r h8).2
    refine key (10 ^ n) 0 _ _ (by omega) (by omega) ?_ ?_ (fun i hi e he => ?_) ((KF.rfl'.up (by omega)).up (by omega)) ((KA.rfl'.up (by omega)).up (by omega)) ?_
    · rw [pk_us, va_up_self]; exact hz1'
    · rw [pk_un (by decide), pk_us]; rfl
    · rw [va_up_ne _ _ (by decide), va_up_self, hz0 _ (by omega)]; rfl
    · rw [va_up_ne _ _ (by decide), va_up_ne _ _ (by decide)]
  · rcases hc with hc | hc
    · exact absurd hc hf2
    · have := h f t a KF.rfl' KA.rfl' rfl hf2 hc
      rw [hc.1]; exact this
theorem CB.ka {n : Nat} {kd : Nat → Nat} {a a' : Nat → Nat → Int32} {b : Nat → Nat → Int32} (h : CB n kd a b) (hk : KA a a') : CB n kd a' b := ⟨fun i p r => by rw [hk 0 (by decide) (by decide) (by decide)]; exact h.1 i p r, h.2⟩
theorem RwS.cong {n M : Nat} {kd : Nat → Nat} {T T' : Nat → Int32} {at_ : Int32} {rv : Nat → Int32} (hn : okN n) (h : ∀ i, i < szN n → T i = T' i) (hR : RwS n kd T at_ rv M) : RwS n kd T' at_ rv M := by
  have hl := hn.le
  rcases hR with h1 | ⟨p, e, x, c1, c2, c3, c4, c5, c6, c7⟩
  · exact Or.inl h1
  · refine Or.inr ⟨p, e, x, c1, c2, c3, c4, c5, c6, fun p' h9 r h8 => ⟨(c7 p' h9 r h8).1, ?_⟩⟩
    unfold okT
    rw [← h _ (bk_lt n (by omega) p' (by omega) r (by omega))]
    exact (c7 p' h9 r h8).2
theorem k_fittingRow {m : Nat} {Q : Int32 → ((Nat → Int32) × Nat × (Nat → Nat → Int32)) → Prop} (hn : okN n) (hk : ∀ i, kd i < 5) (hb : CB n kd a b) (h2 : ∀ i, i < szN n → a 2 i = T i) (hm : m < 2 ^ 31) (hlt : m < cnt (fitB n kd T) (10 ^ n)) (g4 : f 2 ≠ 0) (g5 : CCd n kd T f a)
    (h1 : ∀ f' t' a' N, KF f f' → KA a a' → a' 6 = a 6 → f' 2 ≠ 0 → CCd n kd T f' a' → N < 10 ^ n → fitB n kd T N = true → cnt (fitB n kd T) N = m → Q (nI N) (f', t', a')) : w_X5_fittingRow n (szN n) q f t a b sg sL sf (nI m) Q := by
  have hl := hn.le
  have hs := hn.sz
  have hpw := pow_le4 hn
  unfold w_X5_fittingRow
  have hcl := cnt_le (fitB n kd T) (10 ^ n)
  have hTc : ∀ i, i < szN n → T i = a 2 i := fun i hi => (h2 i hi).symm
  refine k_start (kd := kd) (T := T) hn (fun z1 hz1 X hX => ?_)
  have key : ∀ d M fv av, 10 ^ n - M = d → M ≤ 10 ^ n → cnt (fitB n kd T) M ≤ m + 1 → RwS n kd (a 2) (fv 7) (av 8) M → (cnt (fitB n kd T) M = 0 ∨ ∃ N0, N0 + 1 = M ∧ fitB n kd T N0 = true ∧ ∀ i, i < szN n → av 8 i = nI (vl n kd (dg n N0) i)) → (∀ j, j ≠ 7 → fv j = f j) → (∀ j, j ≠ 8 → av j = a j) → X (nI (cnt (fitB n kd T) M)) fv av := by
    intro d
    induction d using Nat.strongRecOn with
    | ind d ih =>
      intro M fv av hd hM hcm hR hN0 hKF hKA
      have hcM := cnt_le (fitB n kd T) M
      have kf : KF f fv := fun j p q r => hKF j r
      have ka : KA a av := fun j p q r => hKA j r
      have k6 : av 6 = a 6 := hKA 6 (by decide)
      have k2 : fv 2 ≠ 0 := by rw [hKF 2 (by decide)]; exact g4
      have kc : CCd n kd T fv av := ⟨by rw [hKF 1 (by decide)]; exact g5.1, by rw [hKA 7 (by decide)]; exact g5.2⟩
      refine hX _ _ _ (fun J9 hJ9 => pk_lt m (cnt (fitB n kd T) M) (fun h9 => hJ9 ?_) (fun h9 => pk_le 10000 (cnt (fitB n kd T) M) (fun h8 => by omega) (fun _ => ?_)))
      · rcases hN0 with h8 | ⟨N0, e0, hf0, hv0⟩
        · omega
        · have hN0lt : N0 < 10 ^ n := by omega
          unfold w_X6_number
          refine k_asNumber (D := dg n N0) (by omega) (by omega) (fun i hi => by rw [hv0 i (by omega), vl_low hi]) ?_
          rw [numN_dgn hN0lt]
          refine h1 fv _ av N0 kf ka k6 k2 kc hN0lt hf0 ?_
          have : cnt (fitB n kd T) (N0 + 1) = cnt (fitB n kd T) N0 + 1 := by rw [cnt_succ, hf0]; rfl
          rw [e0] at this
          omega
      · rw [show av 2 = a 2 from hKA 2 (by decide)]
        refine k_next (kd := kd) hn hk hb.2.1 hR (fun at' z N hMN hN hfit hno hz hR' => ?_) (fun at' z hno hR' => ?_)
        · refine ⟨fun _ x17 e17 => ?_, fun h8 => absurd h8 (by decide)⟩
          rw [← fitB_cong hTc] at hfit
          have c1 : cnt (fitB n kd T) (N + 1) = cnt (fitB n kd T) M + 1 := by rw [cnt_found hMN (fun N' p r => by rw [fitB_cong hTc]; exact hno N' p r), hfit]; rfl
          rw [e17, nI_1, ← c1]
          refine ih (10 ^ n - (N + 1)) (by omega) (N + 1) _ _ rfl (by omega) (by omega) ?_ (Or.inr ⟨N, rfl, hfit, fun i hi => by rw [va_up_self]; exact hz i hi⟩) (fun j hj => by rw [pk_un hj]; exact hKF j hj) (fun j hj => by rw [va_up_ne _ _ hj]; exact hKA j hj)
          rw [pk_us, va_up_self]; exact hR'
        · exfalso
          have := cnt_same (p := fitB n kd T) _ hM (fun N' p r => by rw [fitB_cong hTc]; exact hno N' p r)
          omega
  refine key (10 ^ n) 0 _ _ (by omega) (by omega) (by show 0 ≤ _; omega) ?_ (Or.inl rfl) (fun j hj => pk_un hj) (fun j hj => va_up_ne _ _ hj)
  rw [pk_us, va_up_self]
  exact hz1.cong hn hTc
theorem k_changesTo {x : Nat → Nat} {Q : Int32 → Unit → Prop} (hn : okN n) (hd : ∀ i, D i ≤ 9) (hx : ∀ i, x i ≤ 9) (h1 : ∀ i, i < n → a 1 i = nI (D i)) (h8 : ∀ i, i < n → a 8 i = nI (x i)) (h : Q (nI (chg D x n)) ()) : w_X5_changesTo_r n (szN n) q f t a b sg sL sf Q := by
  unfold w_X5_changesTo_r
  intro X hX
  have hl := hn.le
  have hs := hn.sz
  have key : ∀ d i, i + d = n → X (nI (chg D x i)) (nI i) := by
    intro d
    induction d with
    | zero =>
      intro i hi
      refine hX _ _ (pk_le n i (fun _ => ?_) (fun _ => by omega))
      rw [show i = n by omega]; exact h
    | succ d ih =>
      intro i hi
      refine hX _ _ (pk_le n i (fun _ => by omega) (fun _ => ⟨vp_in_nI (by omega) (by omega), vp_in_nI (by omega) (by omega), fun J hJ => ?_⟩))
      have hdi := hd i
      have hxi := hx i
      rw [nI_clamp (by omega), h8 i (by omega), h1 i (by omega), nI_eq (by omega) (by omega)]
      refine ⟨fun hne => hJ _ (fun x9 e9 x10 e10 => ?_), fun he => hJ _ (fun x9 e9 x10 e10 => ?_)⟩
      · rw [e9, e10, nI_1, nI_1, show chg D x i + 1 = chg D x (i + 1) by show _ = chg D x i + _; rw [if_neg hne]]
        exact ih (i + 1) (by omega)
      · rw [e9, e10, show (0 : Int32) = nI 0 from rfl, nI_add, nI_1, show chg D x i + 0 = chg D x (i + 1) by show _ = chg D x i + _; rw [if_pos he]]
        exact ih (i + 1) (by omega)
  exact key n 0 (by omega)
end PF
