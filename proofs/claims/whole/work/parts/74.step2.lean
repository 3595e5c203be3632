/-! ===== the law's calls: what is done ===== -/
section S2
variable {n : Nat} {kd : Nat → Nat} {D : Nat → Nat} {T : Nat → Int32} {s : Nat} {SG : Nat → Nat → Nat} {ch : Nat} {img : Bool} {kd1 : Nat → Nat} {D1 : Nat → Nat} {T1 : Nat → Int32} {s1 : Nat} {SG1 : Nat → Nat → Nat} {ch1 : Nat} {m : Nat} {L : Nat → Nat} {rd : Nat} {nd : Nat} {lk : Nat} {q : Nat → Nat} {k : Nat} {ni : Nat → Int32} {bv : Nat} {bm : Nat} {ml : Int32} {cn : Int32} {bt : Nat → Int32} {f : Nat → Int32} {t : Nat} {a : Nat → Nat → Int32} {b : Nat → Nat → Int32} {sg : Nat → Nat → Option Nat} {sL : List Nat} {sf : Nat → Nat → Int32} {j : Nat} {mf : Nat → Int32} {mg : Int64} {ma : Nat → Nat → Int32}
/-- the figures are others: the class -/
theorem c_figs {D' : Nat → Nat} {v1 : Nat → Int32} {Q : Int32 → ((Nat → Int32) × (Nat → Nat → Int32)) → Prop} (hn : okN n) (hS : SOK n kd D T s SG ch img kd1 D1 T1 s1 SG1 ch1 m L rd nd lk j) (hC : CIv n kd D T s SG ch img kd1 D1 T1 s1 SG1 ch1 m L rd nd lk k ni bm cn bt f a b sg sL sf) (hD : ∀ i, D' i ≤ 9) (h1 : ∀ i, i < n → v1 i = nI (D' i))
    (h : ∀ v, CIv n kd D' T s SG (ch + 1) img kd1 D1 T1 s1 SG1 ch1 m L rd nd lk k ni bm cn bt (upd f 4 (nI (ch + 1))) (va_up (va_up a 1 v1) 5 v) b sg sL sf → Q (nI (topN n kd D')) (upd f 4 (nI (ch + 1)), va_up (va_up a 1 v1) 5 v)) : w_X5_figuresChanged n (szN n) q f t (va_up a 1 v1) b sg sL sf Q := by
  obtain ⟨hk0, ⟨c1, c2, c3, c4, c5, c6, c7, c8⟩, c9, c10, c11⟩ := id hC
  unfold w_X5_figuresChanged
  intro x1 e1
  rw [c8, nI_1] at e1
  subst e1
  have hb : CB n kd (va_up a 1 v1) b := ⟨fun i p r => by rw [va_up_ne _ _ (by decide)]; exact c1.1 i p r, c1.2⟩
  refine k_build (kd := kd) (x := D') hn hS.2.1.1 hD hb (fun i hi => by rw [va_up_self]; exact h1 i hi) (fun v hv => ?_)
  refine k_top (kd := kd) (x := D') hn (fun i hi => by rw [va_up_self]; exact hv i hi) ?_
  refine h v ⟨hk0, ⟨⟨c1.1, c1.2⟩, c2, fun i hi => h1 i hi, c4, fun i hi => hv i hi, ?_, c7, rfl⟩, fun hi => c9 hi, c10, c11⟩
  exact c6
/-- the figures are others: the reference -/
theorem r_figs {D' : Nat → Nat} {v1 : Nat → Int32} {Q : Int32 → MSt → Prop} (hn : okN n) (hS : SOK n kd D T s SG ch img kd1 D1 T1 s1 SG1 ch1 m L rd nd lk j) (hR : RIv n kd D T s SG ch img kd1 D1 T1 s1 SG1 ch1 m L rd nd lk mf ma) (hD : ∀ i, D' i ≤ 9) (h1 : ∀ i, i < n → v1 i = nI (D' i))
    (h : ∀ a', RIv n kd D' T s SG (ch + 1) img kd1 D1 T1 s1 SG1 ch1 m L rd nd lk (upd mf 8 (nI (ch + 1))) a' → Q (nI (topN n kd D')) (upd mf 8 (nI (ch + 1)), mg, a')) : w_X11_topNow (upd mf 8 (nI (ch + 1))) mg (va_up ma 11 v1) Q := by
  obtain ⟨⟨r1, r2, r3, r4, r5⟩, h2, h3, h4, h5, h6, h7, h8, h9⟩ := id hR
  have hR' : RIv n kd D' T s SG (ch + 1) img kd1 D1 T1 s1 SG1 ch1 m L rd nd lk (upd mf 8 (nI (ch + 1))) (va_up ma 11 v1) := ⟨⟨r1, r2, r3, fun i hi => h1 i hi, r5⟩, h2, rfl, h4, h5, h6, h7, h8, h9⟩
  exact p_topNow (D := D') ⟨hn, hS.2.1.1, hD, hS.2.1.2.2.1⟩ hR'.1 (fun a' hl _ _ => h a' (hR'.kr hl.kr))
end S2
theorem s_put : st_put JInv := by
  intro j q n k ni bv bm ml cn bt f t a b sg sL sf mf mg ma hj hI p1 p2
  obtain ⟨kd, D, T, s, SG, ch, img, kd1, D1, T1, s1, SG1, ch1, m, L, rd, nd, lk, hS, hC, hR⟩ := hI
  obtain rfl := hC.1
  have ecn := hC.2.2.2.2.1.1
  subst ecn
  have hz := hS.sz
  obtain ⟨o1, o2, o3, o4, hm18, hL, o7, o8, o9⟩ := id hS
  have hch := o2.2.2.2.2
  unfold w_X10_put
  rcases arg_in p1 0 n (by omega) with ⟨i, -, hi, rfl⟩ | ho
  · have hn := hS.ok' hi
    refine k_fy hS hi ⟨fun _ => ?_, fun hc => absurd hc (by decide)⟩
    rcases arg_in p2 0 10 (by omega) with ⟨d, -, hd, rfl⟩ | ho2
    · refine k_dy hd ⟨fun _ => ?_, fun hc => absurd hc (by decide)⟩
      refine pk_lt ch 9999 (fun hlt => ⟨vp_in_nI hi (by omega), ?_⟩) (fun hge => ?_) hC.2.1.2.2.2.2.2.2.2 rfl
      · have hD : ∀ x, va_up D i d x ≤ 9 := fun x => by
          by_cases hx : x = i
          · subst hx; rw [va_up_self]; omega
          · rw [va_up_ne _ _ hx]; exact o2.2.1 x
        rw [nI_clamp (by omega)]
        refine c_figs (D' := va_up D i d) hn hS hC hD (fun x hx => ?_) (fun v hC' => ?_)
        · by_cases hxi : x = i
          · subst hxi; rw [pk_us, va_up_self]
          · rw [pk_un hxi, va_up_ne _ _ hxi]; exact hC.2.1.2.2.1 x hx
        unfold w_X11_put
        refine r_fy hS hR hi ⟨fun _ => p_iny (a := 0) (b := 10) (by omega) hd (by omega) rfl (by decide) ⟨fun _ => ⟨fun _ => ⟨vp_in_nI (by omega) (by omega), fun x8 e8 => ?_⟩, fun hc => ?_⟩, fun hc => absurd hc (by decide)⟩, fun hc => absurd hc (by decide)⟩
        · have e8' : x8 = nI (ch + 1) := by rw [e8]; show mf 8 + 1 = _; rw [hR.2.2.1, nI_1]
          subst e8'
          show w_X11_topNow (upd mf 8 (nI (ch + 1))) mg (va_up ma 11 (upd (ma 11) (nI i).toNatClampNeg (nI d))) _
          rw [nI_clamp (by omega)]
          refine r_figs (D' := va_up D i d) hn hS hR hD (fun x hx => ?_) (fun a' hR' => same (mkJ ⟨o1, ⟨o2.1, hD, o2.2.2.1, o2.2.2.2.1, by omega⟩, o3, o4, hm18, hL, by omega, o8, o9⟩ hC' hR'))
          by_cases hxi : x = i
          · subst hxi; rw [pk_us, va_up_self]
          · rw [pk_un hxi, va_up_ne _ _ hxi]; exact hR.1.2.2.2.1 x hx
        · have hc' : mf 8 = 9999 := hc
          rw [hR.2.2.1, show (9999 : Int32) = nI 9999 from rfl, nI_eq (by omega) (by omega)] at hc'
          omega
      · unfold w_X11_put
        refine r_fy hS hR hi ⟨fun _ => p_iny (a := 0) (b := 10) (by omega) hd (by omega) rfl (by decide) ⟨fun _ => ⟨fun hc => absurd ?_ hc, fun _ => same (mkJ hS.up hC hR)⟩, fun hc => absurd hc (by decide)⟩, fun hc => absurd hc (by decide)⟩
        show mf 8 = 9999
        rw [hR.2.2.1, show ch = 9999 by omega]; rfl
    · refine k_dn ho2 ⟨fun hc => absurd rfl hc, fun _ => ?_⟩
      unfold w_X11_put
      exact r_fy hS hR hi ⟨fun _ => p_inn (a := 0) (b := 10) ho2 rfl (by decide) ⟨fun hc => absurd rfl hc, fun _ => same (mkJ hS.up hC hR)⟩, fun hc => absurd hc (by decide)⟩
  · refine k_fn hS ho ⟨fun hc => absurd rfl hc, fun _ => ?_⟩
    unfold w_X11_put
    exact r_fn hS hR ho ⟨fun hc => absurd rfl hc, fun _ => same (mkJ hS.up hC hR)⟩
theorem s_exchange : st_exchange JInv := by
  intro j q n k ni bv bm ml cn bt f t a b sg sL sf mf mg ma hj hI p1 p2
  obtain ⟨kd, D, T, s, SG, ch, img, kd1, D1, T1, s1, SG1, ch1, m, L, rd, nd, lk, hS, hC, hR⟩ := hI
  obtain rfl := hC.1
  have ecn := hC.2.2.2.2.1.1
  subst ecn
  have hz := hS.sz
  obtain ⟨o1, o2, o3, o4, hm18, hL, o7, o8, o9⟩ := id hS
  have hch := o2.2.2.2.2
  unfold w_X10_exchange
  rcases arg_in p1 0 n (by omega) with ⟨i, -, hi, rfl⟩ | ho
  · have hn := hS.ok' hi
    refine k_fy hS hi ⟨fun hc => absurd hc (by decide), fun _ => ?_⟩
    rcases arg_in p2 0 n (by omega) with ⟨i2, -, hi2, rfl⟩ | ho2
    · refine k_fy hS hi2 ⟨fun hc => absurd hc (by decide), fun _ => ?_⟩
      have e12 : (nI i = nI i2) = (i = i2) := propext (nI_eq (by omega) (by omega))
      by_cases hii : i = i2
      · refine ⟨fun hc => absurd (by rw [hii]) hc, fun _ => ?_⟩
        unfold w_X11_exchange
        exact r_fy hS hR hi ⟨fun hc => absurd hc (by decide), fun _ => r_fy hS hR hi2 ⟨fun hc => absurd hc (by decide), fun _ => ⟨fun hc => absurd (by rw [hii]) hc, fun _ => same (mkJ hS.up hC hR)⟩⟩⟩
      · refine ⟨fun _ => ?_, fun hc => by rw [e12] at hc; exact absurd hc hii⟩
        refine pk_lt ch 9999 (fun hlt => ⟨vp_in_nI hi (by omega), fun x10 e10 => ⟨vp_in_nI hi2 (by omega), fun x13 e13 => ⟨vp_in_nI hi (by omega), fun z15 e15 => ⟨vp_in_nI hi2 (by omega), ?_⟩⟩⟩⟩) (fun hge => ?_) hC.2.1.2.2.2.2.2.2.2 rfl
        · have hD : ∀ x, va_up (va_up D i (D i2)) i2 (D i) x ≤ 9 := fun x => by
            by_cases hx : x = i2
            · subst hx; rw [va_up_self]; exact o2.2.1 i
            · rw [va_up_ne _ _ hx]
              by_cases hx2 : x = i
              · subst hx2; rw [va_up_self]; exact o2.2.1 i2
              · rw [va_up_ne _ _ hx2]; exact o2.2.1 x
          rw [nI_clamp (by omega), hC.2.1.2.2.1 i hi] at e10
          rw [nI_clamp (by omega), hC.2.1.2.2.1 i2 hi2] at e13
          rw [nI_clamp (by omega)] at e15
          subst e10 e13 e15
          rw [nI_clamp (by omega)]
          refine c_figs (D' := va_up (va_up D i (D i2)) i2 (D i)) hn hS hC hD (fun x hx => ?_) (fun v hC' => ?_)
          · by_cases hx2 : x = i2
            · subst hx2; rw [pk_us, va_up_self]
            · rw [pk_un hx2, va_up_ne _ _ hx2]
              by_cases hx1 : x = i
              · subst hx1; rw [pk_us, va_up_self]
              · rw [pk_un hx1, va_up_ne _ _ hx1]; exact hC.2.1.2.2.1 x hx
          unfold w_X11_exchange
          refine r_fy hS hR hi ⟨fun hc => absurd hc (by decide), fun _ => r_fy hS hR hi2 ⟨fun hc => absurd hc (by decide), fun _ => ⟨fun _ => ⟨fun _ => ⟨vp_in_nI (by omega) (by omega), fun x10 e10 => ⟨vp_in_nI (by omega) (by omega), fun x13 e13 => ⟨vp_in_nI (by omega) (by omega), fun z15 e15 => ⟨vp_in_nI (by omega) (by omega), fun x16 e16 => ?_⟩⟩⟩⟩, fun hc => ?_⟩, fun hc => by rw [e12] at hc; exact absurd hc hii⟩⟩⟩
          · have e10' : x10 = nI (D i) := by rw [e10]; show ma 11 (nI i).toNatClampNeg = _; rw [nI_clamp (by omega)]; exact hR.1.2.2.2.1 i hi
            have e13' : x13 = nI (D i2) := by rw [e13]; show ma 11 (nI i2).toNatClampNeg = _; rw [nI_clamp (by omega)]; exact hR.1.2.2.2.1 i2 hi2
            have e15' : z15 = upd (ma 11) i (nI (D i2)) := by rw [e15, e13', nI_clamp (by omega)]
            have e16' : x16 = nI (ch + 1) := by rw [e16]; show mf 8 + 1 = _; rw [hR.2.2.1, nI_1]
            subst e10' e13' e15' e16'
            show w_X11_topNow (upd mf 8 (nI (ch + 1))) mg (va_up ma 11 (upd (upd (ma 11) i (nI (D i2))) (nI i2).toNatClampNeg (nI (D i)))) _
            rw [nI_clamp (by omega)]
            refine r_figs (D' := va_up (va_up D i (D i2)) i2 (D i)) hn hS hR hD (fun x hx => ?_) (fun a' hR' => same (mkJ ⟨o1, ⟨o2.1, hD, o2.2.2.1, o2.2.2.2.1, by omega⟩, o3, o4, hm18, hL, by omega, o8, o9⟩ hC' hR'))
            by_cases hx2 : x = i2
            · subst hx2; rw [pk_us, va_up_self]
            · rw [pk_un hx2, va_up_ne _ _ hx2]
              by_cases hx1 : x = i
              · subst hx1; rw [pk_us, va_up_self]
              · rw [pk_un hx1, va_up_ne _ _ hx1]; exact hR.1.2.2.2.1 x hx
          · have hc' : mf 8 = 9999 := hc
            rw [hR.2.2.1, show (9999 : Int32) = nI 9999 from rfl, nI_eq (by omega) (by omega)] at hc'
            omega
        · unfold w_X11_exchange
          refine r_fy hS hR hi ⟨fun hc => absurd hc (by decide), fun _ => r_fy hS hR hi2 ⟨fun hc => absurd hc (by decide), fun _ => ⟨fun _ => ⟨fun hc => absurd ?_ hc, fun _ => same (mkJ hS.up hC hR)⟩, fun hc => by rw [e12] at hc; exact absurd hc hii⟩⟩⟩
          show mf 8 = 9999
          rw [hR.2.2.1, show ch = 9999 by omega]; rfl
    · refine k_fn hS ho2 ⟨fun _ => ?_, fun hc => absurd rfl hc⟩
      unfold w_X11_exchange
      exact r_fy hS hR hi ⟨fun hc => absurd hc (by decide), fun _ => r_fn hS hR ho2 ⟨fun _ => same (mkJ hS.up hC hR), fun hc => absurd rfl hc⟩⟩
  · refine k_fn hS ho ⟨fun _ => ?_, fun hc => absurd rfl hc⟩
    unfold w_X11_exchange
    exact r_fn hS hR ho ⟨fun _ => same (mkJ hS.up hC hR), fun hc => absurd rfl hc⟩
theorem s_change : st_change JInv := by
  intro j q n k ni bv bm ml cn bt f t a b sg sL sf mf mg ma hj hI p1 p2
  obtain ⟨kd, D, T, s, SG, ch, img, kd1, D1, T1, s1, SG1, ch1, m, L, rd, nd, lk, hS, hC, hR⟩ := hI
  obtain rfl := hC.1
  have ecn := hC.2.2.2.2.1.1
  subst ecn
  have hz := hS.sz
  obtain ⟨o1, o2, o3, o4, hm18, hL, o7, o8, o9⟩ := id hS
  unfold w_X10_change
  rcases arg_in p1 n (szN n) (by omega) with ⟨i, hi0, hi, rfl⟩ | ho
  · have hn := hS.ok hi
    refine k_ay hS hi0 hi ⟨fun _ => ?_, fun hc => absurd hc (by decide)⟩
    rcases arg_in p2 0 5 (by omega) with ⟨κ, -, hκ, rfl⟩ | ho2
    · refine k_wy (a := 0) (b := 5) (by omega) hκ (by omega) rfl (by decide) ⟨fun _ => k_kindOf hS hC hi0 hi ?_, fun hc => absurd hc (by decide)⟩
      have hkd : ∀ x, va_up kd i κ x < 5 := fun x => by
        by_cases hx : x = i
        · subst hx; rw [va_up_self]; exact hκ
        · rw [va_up_ne _ _ hx]; exact o2.1 x
      obtain ⟨-, ⟨c1, c2, c3, c4, c5, c6, c7, c8⟩, c9, c10, c11⟩ := id hC
      unfold w_X5_setKind
      rw [pk_sub hi0, nI_clamp (by omega)]
      refine ⟨vp_in_nI (by omega) (by omega), ?_⟩
      have hb : CB n (va_up kd i κ) a (va_up b 0 (upd (b 0) (i - n) (nI κ))) := ⟨c1.1, fun x p r => by
        rw [va_up_self]
        by_cases hx : x = i
        · subst hx; rw [pk_us, va_up_self]
        · rw [pk_un (by omega), va_up_ne _ _ hx]; exact c1.2.1 x p r, c1.2.2.cong (va_up_ne _ _ (by decide)) (va_up_ne _ _ (by decide))⟩
      refine k_build (kd := va_up kd i κ) (x := D) hn hkd o2.2.1 hb c3 (fun v hv => ?_)
      have hC' : CIv n (va_up kd i κ) D T s SG ch img kd1 D1 T1 s1 SG1 ch1 m L rd nd lk (szN n) ni bm (nI m) bt (upd f 2 0) (va_up a 5 v) (va_up b 0 (upd (b 0) (i - n) (nI κ))) sg sL sf := ⟨rfl, ⟨⟨hb.1, hb.2⟩, c2, c3, c4, hv, Or.inl rfl, c7, c8⟩, fun hi => c9 hi, c10, c11⟩
      unfold w_X11_change
      refine r_uy hS hR hi0 hi ⟨fun _ => p_iny (a := 0) (b := 5) (by omega) hκ (by omega) rfl (by decide) ⟨fun _ => ⟨vp_in_nI (by omega) (by omega), fun x7 e7 => ⟨vp_in_nI (by omega) (by omega), ?_⟩⟩, fun hc => absurd hc (by decide)⟩, fun hc => absurd hc (by decide)⟩
      have e7' : x7 = nI (kd i) := by rw [e7]; show ma 10 (nI i).toNatClampNeg = _; rw [nI_clamp (by omega)]; exact hR.1.2.2.1 i hi0 hi
      subst e7'
      obtain ⟨⟨r1, r2, r3, r4, r5⟩, h2⟩ := id hR
      refine same (mkJ ⟨o1, ⟨hkd, o2.2⟩, o3, o4, hm18, hL, by omega, o8, o9⟩ hC' ⟨⟨r1, r2, fun x p r => ?_, r4, r5⟩, h2⟩)
      show upd (ma 10) (nI i).toNatClampNeg (nI κ) x = nI (va_up kd i κ x)
      rw [nI_clamp (by omega)]
      by_cases hx : x = i
      · subst hx; rw [pk_us, va_up_self]
      · rw [pk_un hx, va_up_ne _ _ hx]; exact r3 x p r
    · refine k_wn (a := 0) (b := 5) ho2 rfl (by decide) ⟨fun hc => absurd rfl hc, fun _ => ?_⟩
      unfold w_X11_change
      exact r_uy hS hR hi0 hi ⟨fun _ => p_inn (a := 0) (b := 5) ho2 rfl (by decide) ⟨fun hc => absurd rfl hc, fun _ => same (mkJ hS.up hC hR)⟩, fun hc => absurd hc (by decide)⟩
  · refine k_an hS ho ⟨fun hc => absurd rfl hc, fun _ => ?_⟩
    unfold w_X11_change
    exact r_un hS hR ho ⟨fun hc => absurd rfl hc, fun _ => same (mkJ hS.up hC hR)⟩
section S3
variable {n : Nat} {kd : Nat → Nat} {D : Nat → Nat} {T : Nat → Int32} {s : Nat} {SG : Nat → Nat → Nat} {ch : Nat} {img : Bool} {kd1 : Nat → Nat} {D1 : Nat → Nat} {T1 : Nat → Int32} {s1 : Nat} {SG1 : Nat → Nat → Nat} {ch1 : Nat} {m : Nat} {L : Nat → Nat} {rd : Nat} {nd : Nat} {lk : Nat} {q : Nat → Nat} {k : Nat} {ni : Nat → Int32} {bv : Nat} {bm : Nat} {ml : Int32} {cn : Int32} {bt : Nat → Int32} {f : Nat → Int32} {t : Nat} {a : Nat → Nat → Int32} {b : Nat → Nat → Int32} {sg : Nat → Nat → Option Nat} {sL : List Nat} {sf : Nat → Nat → Int32} {j : Nat} {mf : Nat → Int32} {mg : Int64} {ma : Nat → Nat → Int32}
theorem upT {x : Int32} {i : Nat} (h : ∀ i, T i = -1 ∨ ∃ t, t ≤ 999 ∧ T i = nI t) (hx : x = -1 ∨ ∃ t, t ≤ 999 ∧ x = nI t) : ∀ y, upd T i x y = -1 ∨ ∃ t, t ≤ 999 ∧ upd T i x y = nI t := fun y => by
  by_cases hy : y = i
  · subst hy; rw [pk_us]; exact hx
  · rw [pk_un hy]; exact h y
/-- something else is told of a brick, or nothing: the class -/
theorem c_told {i : Nat} {x : Int32} {Q : Int32 → ((Nat → Int32) × Nat × (Nat → Nat → Int32)) → Prop} (hi : i < szN n) (hx : x = -1 ∨ ∃ t, t ≤ 999 ∧ x = nI t) (hS : SOK n kd D T s SG ch img kd1 D1 T1 s1 SG1 ch1 m L rd nd lk j) (hC : CIv n kd D T s SG ch img kd1 D1 T1 s1 SG1 ch1 m L rd nd lk k ni bm cn bt f a b sg sL sf)
    (h : ∀ f' t' a', CIv n kd D (upd T i x) s SG ch img kd1 D1 T1 s1 SG1 ch1 m L rd nd lk k ni bm cn bt f' a' b sg sL sf → Q (nI (cnt (fitB n kd (upd T i x)) (10 ^ n))) (f', t', a')) : w_X5_setTold n (szN n) q f t a b sg sL sf (nI i) x (fun u6 => w_X5_fitting n (szN n) q u6.1 t u6.2 b sg sL sf Q) := by
  have hz := hS.sz
  have hn := hS.ok hi
  obtain ⟨hk0, ⟨c1, c2, c3, c4, c5, c6, c7, c8⟩, c9, c10, c11⟩ := id hC
  unfold w_X5_setTold
  refine ⟨vp_in_nI hi (by omega), ?_⟩
  rw [nI_clamp (by omega)]
  have ht : ∀ y, y < szN n → va_up a 2 (upd (a 2) i x) 2 y = upd T i x y := fun y hy => by
    rw [va_up_self]
    by_cases hyi : y = i
    · subst hyi; rw [pk_us, pk_us]
    · rw [pk_un hyi, pk_un hyi]; exact c4 y hy
  have hC' : CIv n kd D (upd T i x) s SG ch img kd1 D1 T1 s1 SG1 ch1 m L rd nd lk k ni bm cn bt (upd f 2 0) (va_up a 2 (upd (a 2) i x)) b sg sL sf := ⟨hk0, ⟨⟨c1.1, c1.2⟩, c2, c3, ht, c5, Or.inl rfl, c7, c8⟩, fun hi => c9 hi, c10, c11⟩
  exact k_fitting hn hS.2.1.1 hC'.2.1.1 ht (Or.inl rfl) (fun f' t' a' hf ha _ _ hc => h f' t' a' (hC'.keep hf ha (Or.inr hc)))
theorem r_told {i : Nat} {x : Int32} {Q : Int32 → MSt → Prop} (hi : i < szN n) (hx : x = -1 ∨ ∃ t, t ≤ 999 ∧ x = nI t) (hS : SOK n kd D T s SG ch img kd1 D1 T1 s1 SG1 ch1 m L rd nd lk j) (hR : RIv n kd D T s SG ch img kd1 D1 T1 s1 SG1 ch1 m L rd nd lk mf ma)
    (h : ∀ a', RIv n kd D (upd T i x) s SG ch img kd1 D1 T1 s1 SG1 ch1 m L rd nd lk mf a' → Q (nI (cnt (fitB n kd (upd T i x)) (10 ^ n))) (mf, mg, a')) : w_X11_leftMany mf mg (va_up ma 12 (upd (ma 12) (nI i).toNatClampNeg x)) Q := by
  have hz := hS.sz
  have hn := hS.ok hi
  obtain ⟨⟨r1, r2, r3, r4, r5⟩, h2⟩ := id hR
  rw [nI_clamp (by omega)]
  have hR' : RIv n kd D (upd T i x) s SG ch img kd1 D1 T1 s1 SG1 ch1 m L rd nd lk mf (va_up ma 12 (upd (ma 12) i x)) := ⟨⟨r1, r2, r3, r4, fun y hy => by
    show upd (ma 12) i x y = upd T i x y
    by_cases hyi : y = i
    · subst hyi; rw [pk_us, pk_us]
    · rw [pk_un hyi, pk_un hyi]; exact r5 y hy⟩, h2⟩
  exact p_leftMany (D := D) ⟨hn, hS.2.1.1, hS.2.1.2.1, upT hS.2.1.2.2.1 hx⟩ hR'.1 (fun a' hl => h a' (hR'.kr hl.kr))
theorem SOK.told {i : Nat} {x : Int32} (hS : SOK n kd D T s SG ch img kd1 D1 T1 s1 SG1 ch1 m L rd nd lk j) (hx : x = -1 ∨ ∃ t, t ≤ 999 ∧ x = nI t) : SOK n kd D (upd T i x) s SG ch img kd1 D1 T1 s1 SG1 ch1 m L rd nd lk (j + 1) := by
  obtain ⟨o1, o2, o3, o4, o5, o6, o7, o8, o9⟩ := hS
  exact ⟨o1, ⟨o2.1, o2.2.1, upT o2.2.2.1 hx, o2.2.2.2⟩, o3, o4, o5, o6, by omega, o8, o9⟩
end S3
theorem s_tell : st_tell JInv := by
  intro j q n k ni bv bm ml cn bt f t a b sg sL sf mf mg ma hj hI p1 p2
  obtain ⟨kd, D, T, s, SG, ch, img, kd1, D1, T1, s1, SG1, ch1, m, L, rd, nd, lk, hS, hC, hR⟩ := hI
  obtain rfl := hC.1
  have ecn := hC.2.2.2.2.1.1
  subst ecn
  have hz := hS.sz
  unfold w_X10_tell
  rcases arg_in p1 0 (szN n) (by omega) with ⟨i, -, hi, rfl⟩ | ho
  · refine k_by hS hi ⟨fun _ => ?_, fun hc => absurd hc (by decide)⟩
    rcases arg_in p2 0 1000 (by omega) with ⟨v, -, hv, rfl⟩ | ho2
    · have hx : nI v = -1 ∨ ∃ t, t ≤ 999 ∧ nI v = nI t := Or.inr ⟨v, by omega, rfl⟩
      refine k_wy (a := 0) (b := 1000) (by omega) hv (by omega) rfl (by decide) ⟨fun _ => c_told hi hx hS hC (fun f' t' a' hC' => ?_), fun hc => absurd hc (by decide)⟩
      unfold w_X11_tell
      exact r_by hS hR hi ⟨fun _ => p_iny (a := 0) (b := 1000) (by omega) hv (by omega) rfl (by decide) ⟨fun _ => ⟨vp_in_nI (by omega) (by omega), r_told hi hx hS hR (fun a' hR' => same (mkJ (hS.told hx) hC' hR'))⟩, fun hc => absurd hc (by decide)⟩, fun hc => absurd hc (by decide)⟩
    · refine k_wn (a := 0) (b := 1000) ho2 rfl (by decide) ⟨fun hc => absurd rfl hc, fun _ => ?_⟩
      unfold w_X11_tell
      exact r_by hS hR hi ⟨fun _ => p_inn (a := 0) (b := 1000) ho2 rfl (by decide) ⟨fun hc => absurd rfl hc, fun _ => same (mkJ hS.up hC hR)⟩, fun hc => absurd hc (by decide)⟩
  · refine k_bn hS ho ⟨fun hc => absurd rfl hc, fun _ => ?_⟩
    unfold w_X11_tell
    exact r_bn hS hR ho ⟨fun hc => absurd rfl hc, fun _ => same (mkJ hS.up hC hR)⟩
theorem s_hush : st_hush JInv := by
  intro j q n k ni bv bm ml cn bt f t a b sg sL sf mf mg ma hj hI p1
  obtain ⟨kd, D, T, s, SG, ch, img, kd1, D1, T1, s1, SG1, ch1, m, L, rd, nd, lk, hS, hC, hR⟩ := hI
  obtain rfl := hC.1
  have ecn := hC.2.2.2.2.1.1
  subst ecn
  have hz := hS.sz
  unfold w_X10_hush
  rcases arg_in p1 0 (szN n) (by omega) with ⟨i, -, hi, rfl⟩ | ho
  · refine k_by hS hi ⟨fun _ => ⟨vp_in_nI hi (by omega), ?_⟩, fun hc => absurd hc (by decide)⟩
    have ec : a 2 (nI i).toNatClampNeg = T i := by rw [nI_clamp (by omega)]; exact hC.2.1.2.2.2.1 i hi
    have er : ma 12 (nI i).toNatClampNeg = T i := by rw [nI_clamp (by omega)]; exact hR.1.2.2.2.2 i hi
    rw [ec]
    have hx : (-1 : Int32) = -1 ∨ ∃ t, t ≤ 999 ∧ (-1 : Int32) = nI t := Or.inl rfl
    refine ⟨fun hne => c_told hi hx hS hC (fun f' t' a' hC' => ?_), fun he => ?_⟩
    · unfold w_X11_hush
      refine r_by hS hR hi ⟨fun _ => ⟨vp_in_nI (by omega) (by omega), fun _ => ⟨vp_in_nI (by omega) (by omega), r_told hi hx hS hR (fun a' hR' => same (mkJ (hS.told hx) hC' hR'))⟩, fun hc => ?_⟩, fun hc => absurd hc (by decide)⟩
      exact absurd (er.symm.trans hc) hne
    · unfold w_X11_hush
      exact r_by hS hR hi ⟨fun _ => ⟨vp_in_nI (by omega) (by omega), fun hc => absurd (er.trans he) hc, fun _ => same (mkJ hS.up hC hR)⟩, fun hc => absurd hc (by decide)⟩
  · refine k_bn hS ho ⟨fun hc => absurd rfl hc, fun _ => ?_⟩
    unfold w_X11_hush
    exact r_bn hS hR ho ⟨fun hc => absurd rfl hc, fun _ => same (mkJ hS.up hC hR)⟩
theorem s_swing : st_swing JInv := by
  intro j q n k ni bv bm ml cn bt f t a b sg sL sf mf mg ma hj hI p1
  obtain ⟨kd, D, T, s, SG, ch, img, kd1, D1, T1, s1, SG1, ch1, m, L, rd, nd, lk, hS, hC, hR⟩ := hI
  obtain rfl := hC.1
  have ecn := hC.2.2.2.2.1.1
  subst ecn
  have hz := hS.sz
  rcases arg_in p1 0 n (by omega) with ⟨i, -, hi, rfl⟩ | ho
  · refine c_swing hS hC hi (fun v => ?_)
    unfold w_X11_swing
    exact r_fy hS hR hi ⟨fun hc => absurd hc (by decide), fun _ => p_swingOf (hS.pi (hS.ok' hi)) hR.1 hi (fun a' hl => same (mkJ hS.up hC.g (hR.kr hl.kr)))⟩
  · unfold w_X10_swing
    refine k_fn hS ho ⟨fun _ => ?_, fun hc => absurd rfl hc⟩
    unfold w_X11_swing
    exact r_fn hS hR ho ⟨fun _ => same (mkJ hS.up hC hR), fun hc => absurd rfl hc⟩
theorem s_order : st_order JInv := by
  intro j q n k ni bv bm ml cn bt f t a b sg sL sf mf mg ma hj hI p1
  obtain ⟨kd, D, T, s, SG, ch, img, kd1, D1, T1, s1, SG1, ch1, m, L, rd, nd, lk, hS, hC, hR⟩ := hI
  obtain rfl := hC.1
  have ecn := hC.2.2.2.2.1.1
  subst ecn
  have hz := hS.sz
  rcases arg_in p1 0 2 (by omega) with ⟨w, -, hw, rfl⟩ | ho
  · rcases hS.1 with h0 | hn
    · unfold w_X10_order
      refine k_wy (a := 0) (b := 2) (by omega) hw (by omega) rfl (by decide) ⟨fun _ => k_hp hS (fun h9 => by have := h9.le; omega) (fun _ => ⟨fun hc => absurd rfl hc, fun _ => ?_⟩), fun hc => absurd hc (by decide)⟩
      unfold w_X11_order
      exact p_iny (a := 0) (b := 2) (by omega) hw (by omega) rfl (by decide) ⟨fun _ => r_lk hS hR (fun h9 => by have := h9.le; omega) (fun _ => ⟨fun hc => absurd hc (by decide), fun _ => same (mkJ hS.up hC hR)⟩), fun hc => absurd hc (by decide)⟩
    · refine c_order hS hC hn (by omega) (fun v => ?_)
      unfold w_X11_order
      exact p_iny (a := 0) (b := 2) (by omega) hw (by omega) rfl (by decide) ⟨fun _ => r_lk hS hR (fun _ => ⟨fun _ => r_order hS hR hn (by omega) (fun a' hk => same (mkJ hS.up hC.g (hR.kr hk))), fun hc => absurd rfl hc⟩) (fun h0 => by have := hn.le; omega), fun hc => absurd hc (by decide)⟩
  · unfold w_X10_order
    refine k_wn (a := 0) (b := 2) ho rfl (by decide) ⟨fun hc => absurd rfl hc, fun _ => ?_⟩
    unfold w_X11_order
    exact p_inn (a := 0) (b := 2) ho rfl (by decide) ⟨fun hc => absurd rfl hc, fun _ => same (mkJ hS.up hC hR)⟩
theorem s_left : st_left JInv := by
  intro j q n k ni bv bm ml cn bt f t a b sg sL sf mf mg ma hj hI
  obtain ⟨kd, D, T, s, SG, ch, img, kd1, D1, T1, s1, SG1, ch1, m, L, rd, nd, lk, hS, hC, hR⟩ := hI
  obtain rfl := hC.1
  have ecn := hC.2.2.2.2.1.1
  subst ecn
  rcases hS.1 with h0 | hn
  · unfold w_X10_left
    refine k_hp hS (fun h9 => by have := h9.le; omega) (fun _ => ⟨fun _ => ?_, fun hc => absurd rfl hc⟩)
    unfold w_X11_left
    exact r_lk hS hR (fun h9 => by have := h9.le; omega) (fun _ => ⟨fun hc => absurd hc (by decide), fun _ => same (mkJ hS.up hC hR)⟩)
  · refine c_left hS hC hn (fun f' t' a' hC' => ?_)
    unfold w_X11_left
    exact r_lk hS hR (fun _ => ⟨fun _ => p_leftMany (hS.pi hn) hR.1 (fun a' hl => same (mkJ hS.up hC' (hR.kr hl.kr))), fun hc => absurd rfl hc⟩) (fun h0 => by have := hn.le; omega)
theorem s_fits : st_fits JInv := by
  intro j q n k ni bv bm ml cn bt f t a b sg sL sf mf mg ma hj hI p1
  obtain ⟨kd, D, T, s, SG, ch, img, kd1, D1, T1, s1, SG1, ch1, m, L, rd, nd, lk, hS, hC, hR⟩ := hI
  obtain rfl := hC.1
  have ecn := hC.2.2.2.2.1.1
  subst ecn
  by_cases hp : p1 < 0
  · unfold w_X10_fits
    have hp' : ¬ 0 ≤ p1 := fun h => by
      rw [Int32.le_iff_toInt_le] at h
      rw [Int32.lt_iff_toInt_lt] at hp
      omega
    refine ⟨fun hc => absurd hc hp', fun _ => ?_⟩
    unfold w_X11_fits
    exact ⟨fun hc => absurd hc hp', fun _ => same (mkJ hS.up hC hR)⟩
  · obtain ⟨x, hx, rfl⟩ := nI_of hp
    rcases hS.1 with h0 | hn
    · unfold w_X10_fits
      refine ⟨fun _ => k_hp hS (fun h9 => by have := h9.le; omega) (fun _ => ⟨fun hc => absurd rfl hc, fun _ => ?_⟩), fun hc => absurd (nI_pos' hx) hc⟩
      unfold w_X11_fits
      exact ⟨fun _ => r_lk hS hR (fun h9 => by have := h9.le; omega) (fun _ => ⟨fun hc => absurd hc (by decide), fun _ => same (mkJ hS.up hC hR)⟩), fun hc => absurd (nI_pos' hx) hc⟩
    · refine c_fits hS hC hn hx (fun f' t' a' hC' => ?_)
      unfold w_X11_fits
      exact ⟨fun _ => r_lk hS hR (fun _ => ⟨fun _ => r_fits hS hR hn hx (fun a' hk => same (mkJ hS.up hC' (hR.kr hk))), fun hc => absurd rfl hc⟩) (fun h0 => by have := hn.le; omega), fun hc => absurd (nI_pos' hx) hc⟩
theorem s_odds : st_odds JInv := by
  intro j q n k ni bv bm ml cn bt f t a b sg sL sf mf mg ma hj hI p1 p2 p3
  obtain ⟨kd, D, T, s, SG, ch, img, kd1, D1, T1, s1, SG1, ch1, m, L, rd, nd, lk, hS, hC, hR⟩ := hI
  obtain rfl := hC.1
  have ecn := hC.2.2.2.2.1.1
  subst ecn
  have hz := hS.sz
  rcases arg_in p1 0 n (by omega) with ⟨i, -, hi, rfl⟩ | ho
  · rcases arg_in p2 0 10 (by omega) with ⟨d, -, hd, rfl⟩ | ho2
    · rcases arg_in p3 0 2 (by omega) with ⟨w, -, hw, rfl⟩ | ho3
      · refine c_odds hS hC hi (by omega) (by omega) (fun f' t' a' hC' => ?_)
        unfold w_X11_odds
        exact r_fy hS hR hi ⟨fun _ => p_iny (a := 0) (b := 10) (by omega) hd (by omega) rfl (by decide) ⟨fun hc => absurd hc (by decide), fun _ => p_iny (a := 0) (b := 2) (by omega) hw (by omega) rfl (by decide) ⟨fun hc => absurd hc (by decide), fun _ => p_oddsOf (hS.pi (hS.ok' hi)) hR.1 hi (by omega) (by omega) (fun a' hl => same (mkJ hS.up hC' (hR.kr hl.kr)))⟩⟩, fun hc => absurd hc (by decide)⟩
      · unfold w_X10_odds
        refine k_fy hS hi ⟨fun _ => k_dy hd ⟨fun hc => absurd hc (by decide), fun _ => k_wn (a := 0) (b := 2) ho3 rfl (by decide) ⟨fun hc => absurd rfl hc, fun _ => ?_⟩⟩, fun hc => absurd hc (by decide)⟩
        unfold w_X11_odds
        exact r_fy hS hR hi ⟨fun _ => p_iny (a := 0) (b := 10) (by omega) hd (by omega) rfl (by decide) ⟨fun hc => absurd hc (by decide), fun _ => p_inn (a := 0) (b := 2) ho3 rfl (by decide) ⟨fun _ => same (mkJ hS.up hC hR), fun hc => absurd rfl hc⟩⟩, fun hc => absurd hc (by decide)⟩
    · unfold w_X10_odds
      refine k_fy hS hi ⟨fun _ => k_dn ho2 ⟨fun _ => ?_, fun hc => absurd rfl hc⟩, fun hc => absurd hc (by decide)⟩
      unfold w_X11_odds
      exact r_fy hS hR hi ⟨fun _ => p_inn (a := 0) (b := 10) ho2 rfl (by decide) ⟨fun _ => same (mkJ hS.up hC hR), fun hc => absurd rfl hc⟩, fun hc => absurd hc (by decide)⟩
  · unfold w_X10_odds
    refine k_fn hS ho ⟨fun hc => absurd rfl hc, fun _ => ?_⟩
    unfold w_X11_odds
    exact r_fn hS hR ho ⟨fun hc => absurd rfl hc, fun _ => same (mkJ hS.up hC hR)⟩
theorem s_count : st_count JInv := by
  intro j q n k ni bv bm ml cn bt f t a b sg sL sf mf mg ma hj hI p1
  obtain ⟨kd, D, T, s, SG, ch, img, kd1, D1, T1, s1, SG1, ch1, m, L, rd, nd, lk, hS, hC, hR⟩ := hI
  obtain rfl := hC.1
  have ecn := hC.2.2.2.2.1.1
  subst ecn
  refine c_count hS hC ?_
  unfold w_X11_count
  exact r_count hS hR (fun a' hk => same (mkJ hS.up hC (hR.kr hk)))
theorem s_forget : st_forget JInv := by
  intro j q n k ni bv bm ml cn bt f t a b sg sL sf mf mg ma hj hI
  obtain ⟨kd, D, T, s, SG, ch, img, kd1, D1, T1, s1, SG1, ch1, m, L, rd, nd, lk, hS, hC, hR⟩ := hI
  obtain rfl := hC.1
  have ecn := hC.2.2.2.2.1.1
  subst ecn
  obtain ⟨o1, o2, o3, o4, hm18, hL, o7, o8, o9⟩ := id hS
  obtain ⟨-, ⟨c1, c2, c3, c4, c5, c6, c7, c8⟩, c9, c10, c11⟩ := id hC
  unfold w_X10_forget
  intro x1 e1
  unfold w_X11_forget
  intro y1 e2
  refine sameE (by rw [e1, e2, c7.1, hR.2.1.1]) (mkJ (s := 0) ⟨o1, ⟨o2.1, o2.2.1, o2.2.2.1, ⟨by omega, o2.2.2.2.1.2⟩, o2.2.2.2.2⟩, o3, o4, hm18, hL, by omega, o8, o9⟩ ⟨rfl, ⟨⟨c1.1, c1.2⟩, c2, c3, c4, c5, c6, ⟨rfl, fun i hi => by omega, c7.2.2⟩, c8⟩, fun hi => c9 hi, c10, c11⟩ ⟨hR.1, ⟨rfl, fun i hi => by omega⟩, hR.2.2.1, fun hi => hR.2.2.2.1 hi, hR.2.2.2.2⟩)
