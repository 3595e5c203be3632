/-! ===== the law's calls: searches, sights, images, draws ===== -/
theorem s_need : st_need JInv := by
  intro j q n k ni bv bm ml cn bt f t a b sg sL sf mf mg ma hj hI p1 p2
  obtain ⟨kd, D, T, s, SG, ch, img, kd1, D1, T1, s1, SG1, ch1, m, L, rd, nd, lk, hS, hC, hR⟩ := hI
  obtain rfl := hC.1
  have ecn := hC.2.2.2.2.1.1
  subst ecn
  have hz := hS.sz
  obtain ⟨o1, o2, o3, o4, hm18, hL, o7, o8, o9⟩ := id hS
  obtain ⟨-, ⟨c1, c2, c3, c4, c5, c6, c7, c8⟩, c9, c10, c11, c12, c13, c14⟩ := id hC
  unfold w_X10_need
  rcases arg_in p1 0 1000 (by omega) with ⟨v, -, hv, rfl⟩ | ho
  · refine k_wy (a := 0) (b := 1000) (by omega) hv (by omega) rfl (by decide) ⟨fun hc => absurd hc (by decide), fun _ => ?_⟩
    rcases arg_in p2 0 2 (by omega) with ⟨w, -, hw, rfl⟩ | ho2
    · refine k_wy (a := 0) (b := 2) (by omega) hw (by omega) rfl (by decide) ⟨fun _ => k_hp hS (fun hn => ⟨fun hc => absurd hc (by decide), fun _ => ?_⟩) (fun h0 => ⟨fun _ => ?_, fun hc => absurd rfl hc⟩), fun hc => absurd hc (by decide)⟩
      · have hpw := pow_le4 hn
        have hnl := hn.le
        refine pk_lt nd 20 (fun hlt => fun x9 e9 => ?_) (fun hge => ?_) c13 rfl
        · have e9' : x9 = nI (nd + 1) := by rw [e9, c13, nI_1]
          subst e9'
          have fin : ∀ (f' : Nat → Int32) (t' : Nat) (a' b' : Nat → Nat → Int32) (r : Int32), (∀ j, j ≠ 7 → f' j = f j) → (∀ j, j ≠ 8 → a' j = a j) → (∀ j, j ≠ 4 → b' j = b j) → BG n b' → (∀ N, nearest n kd D v N → r = nI (if w = 1 then N else chg D (dg n N) n)) → ((∀ N, N < 10 ^ n → topN n kd (dg n N) ≠ v) → r = -1) → w_X11_need mf mg ma (nI v) (nI w) (fun r4 u3 => (r = r4 → JInv (j + 1) q n (szN n) (upd ni 1 (nI (nd + 1))) bv bm ml (nI m) bt f' t' a' b' sg sL sf u3.1 u3.2.1 u3.2.2) ∧ (¬ r = r4 → False)) := by
            intro f' t' a' b' r hf ha hbo hBG hr1 hr0
            have hC1 : CIv n kd D T s SG ch img kd1 D1 T1 s1 SG1 ch1 m L rd (nd + 1) lk (szN n) (upd ni 1 (nI (nd + 1))) bm (nI m) bt f a b sg sL sf := ⟨rfl, hC.2.1, hC.2.2.1, hC.2.2.2.1, c11, c12, rfl, c14⟩
            have hC2 : CIv n kd D T s SG ch img kd1 D1 T1 s1 SG1 ch1 m L rd (nd + 1) lk (szN n) (upd ni 1 (nI (nd + 1))) bm (nI m) bt f' a' b sg sL sf := hC1.keep (fun j _ _ p => hf j p) (fun j _ _ p => ha j p) (by
              rcases c6 with g | g
              · left; rw [hf 2 (by decide)]; exact g
              · right
                exact ⟨by rw [hf 1 (by decide)]; exact g.1, by rw [ha 7 (by decide)]; exact g.2⟩)
            have hC' : CIv n kd D T s SG ch img kd1 D1 T1 s1 SG1 ch1 m L rd (nd + 1) lk (szN n) (upd ni 1 (nI (nd + 1))) bm (nI m) bt f' a' b' sg sL sf := hC2.keepB (hbo 0 (by decide)) (hbo 1 (by decide)) hBG
            have hS' : SOK n kd D T s SG ch img kd1 D1 T1 s1 SG1 ch1 m L rd (nd + 1) lk (j + 1) := ⟨o1, o2, o3, o4, hm18, hL, by omega, by omega, o9⟩
            unfold w_X11_need
            refine p_iny (a := 0) (b := 1000) (by omega) hv (by omega) rfl (by decide) ⟨fun hc => absurd hc (by decide), fun _ => p_iny (a := 0) (b := 2) (by omega) hw (by omega) rfl (by decide) ⟨fun _ => r_lk hS hR (fun _ => ⟨fun hc => absurd rfl hc, fun _ => ⟨fun _ x9 e9 => ?_, fun hc => ?_⟩⟩) (fun h0 => by omega), fun hc => absurd hc (by decide)⟩⟩
            · have e9' : x9 = nI (nd + 1) := by rw [e9]; show mf 15 + 1 = _; rw [hR.2.2.2.2.2.2.2.2.2.1, nI_1]
              subst e9'
              have hR1 : RIv n kd D T s SG ch img kd1 D1 T1 s1 SG1 ch1 m L rd (nd + 1) lk (upd mf 15 (nI (nd + 1))) ma := ⟨hR.1, hR.2.1, hR.2.2.1, fun hi => hR.2.2.2.1 hi, hR.2.2.2.2.1, hR.2.2.2.2.2.1, hR.2.2.2.2.2.2.1, hR.2.2.2.2.2.2.2.1, hR.2.2.2.2.2.2.2.2.1, rfl, hR.2.2.2.2.2.2.2.2.2.2⟩
              exact p_needOf (hS.pi hn) hR1.1 (by omega) (by omega) (fun a2 N hl hN => sameE (hr1 N hN) (mkJ hS' hC' (hR1.kr hl.kr))) (fun a2 hl hno => sameE (hr0 hno) (mkJ hS' hC' (hR1.kr hl.kr)))
            · have hc' : mf 15 = 20 := hc
              rw [hR.2.2.2.2.2.2.2.2.2.1, show (20 : Int32) = nI 20 from rfl, nI_eq (by omega) (by omega)] at hc'
              omega
          refine k_nearest hn o2.1 o2.2.1 c1 c3 (by omega) (fun f' t' a' b' N hf ha hbo hBG hN => ?_) (fun f' t' a' b' hf ha hbo hBG hno => ?_)
          · have hch := chg_le D (dg n N) n
            have hN1 := hN.1
            have hkl : keyN D n N < 2 ^ 31 := by unfold keyN; omega
            refine ⟨fun _ => ⟨fun hne => ?_, fun he => ?_⟩, fun hc => absurd hc (nI_nem1 hkl)⟩
            · have hw1 : w = 1 := by
                rcases (show w = 0 ∨ w = 1 by omega) with g | g
                · subst g; exact absurd rfl hne
                · exact g
              subst hw1
              rw [show (10000 : Int32) = nI 10000 from rfl, pk_rem hkl (by omega) (by omega)]
              refine fin f' t' a' b' _ hf ha hbo hBG (fun N' hN' => ?_) (fun hno => absurd hN.2.1 (hno N hN1))
              rw [nearest_uniq hN' hN, if_pos rfl]
              congr 1
              unfold keyN
              omega
            · have hw0 : w = 0 := (nI_eq (b := 0) (by omega) (by omega)).mp he
              subst hw0
              rw [show (10000 : Int32) = nI 10000 from rfl, pk_div hkl (by omega) (by omega)]
              refine fin f' t' a' b' _ hf ha hbo hBG (fun N' hN' => ?_) (fun hno => absurd hN.2.1 (hno N hN1))
              rw [nearest_uniq hN' hN, if_neg (by decide)]
              congr 1
              unfold keyN
              omega
          · exact ⟨fun hc => absurd rfl hc, fun _ => fin f' t' a' b' _ hf ha hbo hBG (fun N hN => absurd hN.2.1 (hno N hN.1)) (fun _ => rfl)⟩
        · unfold w_X11_need
          refine p_iny (a := 0) (b := 1000) (by omega) hv (by omega) rfl (by decide) ⟨fun hc => absurd hc (by decide), fun _ => p_iny (a := 0) (b := 2) (by omega) hw (by omega) rfl (by decide) ⟨fun _ => r_lk hS hR (fun _ => ⟨fun hc => absurd rfl hc, fun _ => ⟨fun hc => absurd ?_ hc, fun _ => same (mkJ hS.up hC hR)⟩⟩) (fun h0 => by omega), fun hc => absurd hc (by decide)⟩⟩
          show mf 15 = 20
          rw [hR.2.2.2.2.2.2.2.2.2.1, show nd = 20 by omega]; rfl
      · unfold w_X11_need
        exact p_iny (a := 0) (b := 1000) (by omega) hv (by omega) rfl (by decide) ⟨fun hc => absurd hc (by decide), fun _ => p_iny (a := 0) (b := 2) (by omega) hw (by omega) rfl (by decide) ⟨fun _ => r_lk hS hR (fun h9 => by have := h9.le; omega) (fun _ => ⟨fun _ => same (mkJ hS.up hC hR), fun hc => absurd hc (by decide)⟩), fun hc => absurd hc (by decide)⟩⟩
    · refine k_wn (a := 0) (b := 2) ho2 rfl (by decide) ⟨fun hc => absurd rfl hc, fun _ => ?_⟩
      unfold w_X11_need
      exact p_iny (a := 0) (b := 1000) (by omega) hv (by omega) rfl (by decide) ⟨fun hc => absurd hc (by decide), fun _ => p_inn (a := 0) (b := 2) ho2 rfl (by decide) ⟨fun hc => absurd rfl hc, fun _ => same (mkJ hS.up hC hR)⟩⟩
  · refine k_wn (a := 0) (b := 1000) ho rfl (by decide) ⟨fun _ => ?_, fun hc => absurd rfl hc⟩
    unfold w_X11_need
    exact p_inn (a := 0) (b := 1000) ho rfl (by decide) ⟨fun _ => same (mkJ hS.up hC hR), fun hc => absurd rfl hc⟩
theorem s_look : st_look JInv := by
  intro j q n k ni bv bm ml cn bt f t a b sg sL sf mf mg ma hj hI
  obtain ⟨kd, D, T, s, SG, ch, img, kd1, D1, T1, s1, SG1, ch1, m, L, rd, nd, lk, hS, hC, hR⟩ := hI
  obtain rfl := hC.1
  have ecn := hC.2.2.2.2.1.1
  subst ecn
  obtain ⟨o1, o2, o3, o4, hm18, hL, o7, o8, o9⟩ := id hS
  obtain ⟨-, ⟨c1, c2, c3, c4, c5, c6, c7, c8⟩, c9, c10, c11, c12, c13, c14⟩ := id hC
  unfold w_X10_look
  refine k_hp hS (fun hn => ⟨fun hc => absurd hc (by decide), fun _ => ?_⟩) (fun h0 => ⟨fun _ => ?_, fun hc => absurd rfl hc⟩)
  · refine pk_lt lk 20 (fun hlt => fun x5 e5 => ?_) (fun hge => ?_) c14 rfl
    · have e5' : x5 = nI (lk + 1) := by rw [e5, c14, nI_1]
      subst e5'
      refine k_nextLook hn o2.1 c1 c4 c6 (fun f' t' a' b' hf ha hbo _ hc => ?_)
      have hC1 : CIv n kd D T s SG ch img kd1 D1 T1 s1 SG1 ch1 m L rd nd (lk + 1) (szN n) (upd ni 2 (nI (lk + 1))) bm (nI m) bt f a b sg sL sf := ⟨rfl, hC.2.1, hC.2.2.1, hC.2.2.2.1, c11, c12, c13, rfl⟩
      have hC' := (hC1.keep hf ha (Or.inr hc)).keepB (hbo 0 (by decide)) (hbo 1 (by decide)) (c1.2.2.cong (hbo 2 (by decide)) (hbo 4 (by decide)))
      have hS' : SOK n kd D T s SG ch img kd1 D1 T1 s1 SG1 ch1 m L rd nd (lk + 1) (j + 1) := ⟨o1, o2, o3, o4, hm18, hL, by omega, o8, by omega⟩
      unfold w_X11_look
      refine r_lk hS hR (fun _ => ⟨fun hc => absurd rfl hc, fun _ => ⟨fun _ x5 e5 => ?_, fun hc => ?_⟩⟩) (fun h0 => by have := hn.le; omega)
      · have e5' : x5 = nI (lk + 1) := by rw [e5]; show mf 17 + 1 = _; rw [hR.2.2.2.2.2.2.2.2.2.2, nI_1]
        subst e5'
        have hR1 : RIv n kd D T s SG ch img kd1 D1 T1 s1 SG1 ch1 m L rd nd (lk + 1) (upd mf 17 (nI (lk + 1))) ma := ⟨hR.1, hR.2.1, hR.2.2.1, fun hi => hR.2.2.2.1 hi, hR.2.2.2.2.1, hR.2.2.2.2.2.1, hR.2.2.2.2.2.2.1, hR.2.2.2.2.2.2.2.1, hR.2.2.2.2.2.2.2.2.1, hR.2.2.2.2.2.2.2.2.2.1, rfl⟩
        exact p_lookOf (hS.pi hn) hR1.1 (fun a2 hl => same (mkJ hS' hC' (hR1.kr hl.kr)))
      · have hc' : mf 17 = 20 := hc
        rw [hR.2.2.2.2.2.2.2.2.2.2, show (20 : Int32) = nI 20 from rfl, nI_eq (by omega) (by omega)] at hc'
        omega
    · unfold w_X11_look
      refine r_lk hS hR (fun _ => ⟨fun hc => absurd rfl hc, fun _ => ⟨fun hc => absurd ?_ hc, fun _ => same (mkJ hS.up hC hR)⟩⟩) (fun h0 => by have := hn.le; omega)
      show mf 17 = 20
      rw [hR.2.2.2.2.2.2.2.2.2.2, show lk = 20 by omega]; rfl
  · unfold w_X11_look
    exact r_lk hS hR (fun h9 => by have := h9.le; omega) (fun _ => ⟨fun _ => same (mkJ hS.up hC hR), fun hc => absurd hc (by decide)⟩)
/-- more sights than before -/
theorem CS.ext {s : Nat} {SG : Nat → Nat → Nat} {v : Int32} {g : Nat → Option Nat} {sL : List Nat} {sf : Nat → Nat → Int32} {y0 : Nat} {x : Nat → Int32} (h : CS s SG v g sL sf) (hy : y0 ∉ sL) : CS s SG v g (sL ++ [y0]) (va_up sf y0 x) := by
  obtain ⟨h1, h2, h3⟩ := h
  refine ⟨h1, fun i hi => ?_, fun i hi y hy2 => List.mem_append_left _ (h3 i hi y hy2)⟩
  obtain ⟨y, g1, g2, g3⟩ := h2 i hi
  exact ⟨y, g1, List.mem_append_left _ g2, fun c hc => by rw [va_up_ne _ _ (show y ≠ y0 from fun e => hy (e ▸ g2))]; exact g3 c hc⟩
def sgW (x0 x1 x2 x3 : Nat) : Nat → Nat := fun c => [x0, x1, x2, x3].getD c 0
theorem sgv_at (x0 x1 x2 x3 : Nat) : ∀ c, c < 4 → sgv (nI x0) (nI x1) (nI x2) (nI x3) c = nI (sgW x0 x1 x2 x3 c) := by
  intro c hc
  rcases (show c = 0 ∨ c = 1 ∨ c = 2 ∨ c = 3 by omega) with rfl | rfl | rfl | rfl <;> rfl
theorem s_see : st_see JInv := by
  intro j q n k ni bv bm ml cn bt f t a b sg sL sf mf mg ma hj hI p1 p2 p3 p4
  obtain ⟨kd, D, T, s, SG, ch, img, kd1, D1, T1, s1, SG1, ch1, m, L, rd, nd, lk, hS, hC, hR⟩ := hI
  obtain rfl := hC.1
  have ecn := hC.2.2.2.2.1.1
  subst ecn
  have hz := hS.sz
  obtain ⟨o1, o2, o3, o4, hm18, hL, o7, o8, o9⟩ := id hS
  obtain ⟨-, ⟨c1, c2, c3, c4, c5, c6, c7, c8⟩, c9, c10, c11⟩ := id hC
  have hs6 := o2.2.2.2.1.1
  unfold w_X10_see
  rcases arg_in p1 n (szN n) (by omega) with ⟨i, hi0, hi, rfl⟩ | ho
  · refine k_ay hS hi0 hi ⟨fun _ => ?_, fun hc => absurd hc (by decide)⟩
    rcases arg_in p2 0 10 (by omega) with ⟨l, -, hl, rfl⟩ | ho2
    · refine k_dy hl ⟨fun hc => absurd hc (by decide), fun _ => ?_⟩
      rcases arg_in p3 0 10 (by omega) with ⟨r, -, hr, rfl⟩ | ho3
      · refine k_dy hr ⟨fun hc => absurd hc (by decide), fun _ => ?_⟩
        rcases arg_in p4 0 31 (by omega) with ⟨v, -, hv, rfl⟩ | ho4
        · refine k_wy (a := 0) (b := 31) (by omega) hv (by omega) rfl (by decide) ⟨fun _ => ?_, fun hc => absurd hc (by decide)⟩
          have c71 := c7.1
          refine pk_lt s 6 (fun hlt => ?_) (fun hge => ?_) c71 rfl
          · intro q11
            unfold w_X7_init
            intro sL0 eL sf0 es hq sL' eL' sf' es'
            rw [eL] at hq eL'
            rw [es] at es'
            subst eL' es'
            unfold w_X8_addSight
            rw [c71]
            refine ⟨fun hc => absurd hc (nI_ge (b := 6) hlt (by omega)), fun _ => ⟨vp_in_nI hlt (by omega), fun x4 e4 => ?_⟩⟩
            rw [nI_1] at e4
            subst e4
            rw [nI_clamp (by omega)]
            have hSI : SI (s + 1) (va_up SG s (sgW i l r v)) := ⟨by omega, fun x => by
              by_cases hx : x = s
              · subst hx; rw [va_up_self]; exact ⟨by show i < 10; omega, by show l ≤ 9; omega, by show r ≤ 9; omega, by show v ≤ 30; omega⟩
              · rw [va_up_ne _ _ hx]; exact o2.2.2.2.1.2 x⟩
            have hCS : CS (s + 1) (va_up SG s (sgW i l r v)) (nI (s + 1)) (va_up (sg 0) s (some q11)) (sL ++ [q11]) (va_up sf q11 (sgv (nI i) (nI l) (nI r) (nI v))) := by
              obtain ⟨e1, e2, e3⟩ := c7.ext (x := sgv (nI i) (nI l) (nI r) (nI v)) hq
              refine ⟨rfl, fun x hx => ?_, fun x hx y hy => ?_⟩
              · by_cases hxs : x = s
                · subst hxs
                  exact ⟨q11, by rw [va_up_self], List.mem_append_right _ (List.mem_singleton.mpr rfl), fun c hc => by rw [va_up_self, va_up_self]; exact sgv_at i l r v c hc⟩
                · obtain ⟨y, g1, g2, g3⟩ := e2 x (by omega)
                  exact ⟨y, by rw [va_up_ne _ _ hxs]; exact g1, g2, fun c hc => by rw [va_up_ne SG _ hxs]; exact g3 c hc⟩
              · by_cases hxs : x = s
                · subst hxs
                  rw [va_up_self] at hy
                  cases hy
                  exact List.mem_append_right _ (List.mem_singleton.mpr rfl)
                · rw [va_up_ne _ _ hxs] at hy
                  exact e3 x hx y hy
            have hC' : CIv n kd D T (s + 1) (va_up SG s (sgW i l r v)) ch img kd1 D1 T1 s1 SG1 ch1 m L rd nd lk (szN n) ni bm (nI m) bt (upd f 3 (nI (s + 1))) a b (va_up sg 0 (va_up (sg 0) s (some q11))) (sL ++ List.cons q11 List.nil) (va_up sf q11 (sgv (nI i) (nI l) (nI r) (nI v))) := by
              refine ⟨rfl, ⟨⟨c1.1, c1.2⟩, c2, c3, c4, c5, c6, hCS, c8⟩, fun hi => ?_, c10, c11⟩
              obtain ⟨k1, k2, k3, k4, k5⟩ := c9 hi
              exact ⟨k1, k2, k3, k4.ext hq, k5⟩
            unfold w_X11_see
            refine r_uy hS hR hi0 hi ⟨fun _ => p_iny (a := 0) (b := 10) (by omega) hl (by omega) rfl (by decide) ⟨fun hc => absurd hc (by decide), fun _ => p_iny (a := 0) (b := 10) (by omega) hr (by omega) rfl (by decide) ⟨fun hc => absurd hc (by decide), fun _ => p_iny (a := 0) (b := 31) (by omega) hv (by omega) rfl (by decide) ⟨fun _ => ⟨fun _ => ?_, fun hc => ?_⟩, fun hc => absurd hc (by decide)⟩⟩⟩, fun hc => absurd hc (by decide)⟩
            · show vp_in (4 * mf 18) 24 ∧ _
              have e4 : (4 : Int32) * mf 18 = nI (4 * s) := by rw [hR.2.1.1, show (4 : Int32) = nI 4 from rfl, pk_mul]
              have e18 : mf 18 + 1 = nI (s + 1) := by rw [hR.2.1.1, nI_1]
              show vp_in (4 * mf 18) 24 ∧ ∀ z13 : Nat → Int32, z13 = upd (ma 19) (4 * mf 18).toNatClampNeg (nI i) → vp_in (4 * mf 18 + 1) 24 ∧ ∀ z15 : Nat → Int32, z15 = upd z13 (4 * mf 18 + 1).toNatClampNeg (nI l) → vp_in (4 * mf 18 + 2) 24 ∧ ∀ z17 : Nat → Int32, z17 = upd z15 (4 * mf 18 + 2).toNatClampNeg (nI r) → vp_in (4 * mf 18 + 3) 24 ∧ ∀ x18 : Int32, x18 = mf 18 + 1 → _
              rw [e4, e18, show (1 : Int32) = nI 1 from rfl, show (2 : Int32) = nI 2 from rfl, show (3 : Int32) = nI 3 from rfl, nI_add, nI_add, nI_add, nI_clamp (by omega), nI_clamp (by omega), nI_clamp (by omega)]
              refine ⟨vp_in_nI (by omega) (by omega), fun z13 e13 => ⟨vp_in_nI (by omega) (by omega), fun z15 e15 => ⟨vp_in_nI (by omega) (by omega), fun z17 e17 => ⟨vp_in_nI (by omega) (by omega), fun x18 e18' => ?_⟩⟩⟩⟩
              subst e13 e15 e17 e18'
              refine same (mkJ ⟨o1, ⟨o2.1, o2.2.1, o2.2.2.1, hSI, o2.2.2.2.2⟩, o3, o4, hm18, hL, by omega, o8, o9⟩ hC' ⟨hR.1, ⟨rfl, fun x hx c hc => ?_⟩, hR.2.2.1, fun hi => hR.2.2.2.1 hi, hR.2.2.2.2⟩)
              show upd (upd (upd (upd (ma 19) (4 * s) (nI i)) (4 * s + 1) (nI l)) (4 * s + 2) (nI r)) (nI (4 * s + 3)).toNatClampNeg (nI v) (4 * x + c) = nI (va_up SG s (sgW i l r v) x c)
              rw [nI_clamp (by omega)]
              by_cases hxs : x = s
              · subst hxs
                rw [va_up_self]
                rcases (show c = 0 ∨ c = 1 ∨ c = 2 ∨ c = 3 by omega) with rfl | rfl | rfl | rfl
                · rw [pk_un (by omega), pk_un (by omega), pk_un (by omega), Nat.add_zero, pk_us]; rfl
                · rw [pk_un (by omega), pk_un (by omega), pk_us]; rfl
                · rw [pk_un (by omega), pk_us]; rfl
                · rw [pk_us]; rfl
              · rw [va_up_ne _ _ hxs, pk_un (by omega), pk_un (by omega), pk_un (by omega), pk_un (by omega)]
                exact hR.2.1.2 x (by omega) c hc
            · have hc' : mf 18 = 6 := hc
              rw [hR.2.1.1, show (6 : Int32) = nI 6 from rfl, nI_eq (by omega) (by omega)] at hc'
              omega
          · unfold w_X11_see
            refine r_uy hS hR hi0 hi ⟨fun _ => p_iny (a := 0) (b := 10) (by omega) hl (by omega) rfl (by decide) ⟨fun hc => absurd hc (by decide), fun _ => p_iny (a := 0) (b := 10) (by omega) hr (by omega) rfl (by decide) ⟨fun hc => absurd hc (by decide), fun _ => p_iny (a := 0) (b := 31) (by omega) hv (by omega) rfl (by decide) ⟨fun _ => ⟨fun hc => absurd ?_ hc, fun _ => same (mkJ hS.up hC hR)⟩, fun hc => absurd hc (by decide)⟩⟩⟩, fun hc => absurd hc (by decide)⟩
            show mf 18 = 6
            rw [hR.2.1.1, show s = 6 by omega]; rfl
        · refine k_wn (a := 0) (b := 31) ho4 rfl (by decide) ⟨fun hc => absurd rfl hc, fun _ => ?_⟩
          unfold w_X11_see
          exact r_uy hS hR hi0 hi ⟨fun _ => p_iny (a := 0) (b := 10) (by omega) hl (by omega) rfl (by decide) ⟨fun hc => absurd hc (by decide), fun _ => p_iny (a := 0) (b := 10) (by omega) hr (by omega) rfl (by decide) ⟨fun hc => absurd hc (by decide), fun _ => p_inn (a := 0) (b := 31) ho4 rfl (by decide) ⟨fun hc => absurd rfl hc, fun _ => same (mkJ hS.up hC hR)⟩⟩⟩, fun hc => absurd hc (by decide)⟩
      · refine k_dn ho3 ⟨fun _ => ?_, fun hc => absurd rfl hc⟩
        unfold w_X11_see
        exact r_uy hS hR hi0 hi ⟨fun _ => p_iny (a := 0) (b := 10) (by omega) hl (by omega) rfl (by decide) ⟨fun hc => absurd hc (by decide), fun _ => p_inn (a := 0) (b := 10) ho3 rfl (by decide) ⟨fun _ => same (mkJ hS.up hC hR), fun hc => absurd rfl hc⟩⟩, fun hc => absurd hc (by decide)⟩
    · refine k_dn ho2 ⟨fun _ => ?_, fun hc => absurd rfl hc⟩
      unfold w_X11_see
      exact r_uy hS hR hi0 hi ⟨fun _ => p_inn (a := 0) (b := 10) ho2 rfl (by decide) ⟨fun _ => same (mkJ hS.up hC hR), fun hc => absurd rfl hc⟩, fun hc => absurd hc (by decide)⟩
  · refine k_an hS ho ⟨fun hc => absurd rfl hc, fun _ => ?_⟩
    unfold w_X11_see
    exact r_un hS hR ho ⟨fun hc => absurd rfl hc, fun _ => same (mkJ hS.up hC hR)⟩
/-! images -/
section S4
variable {n : Nat} {oA tA oF oT tF tT : Nat → Int32} {oS tS : Nat → Option Nat} {os oc ts tc : Int32} {sL : List Nat} {sf : Nat → Nat → Int32}
theorem k_take {kd : Nat → Nat} {Q : ((Nat → Int32) × (Nat → Int32) × (Nat → Int32) × (Nat → Option Nat) × Int32 × Int32) → Prop} (hn : okN n) (hA : ∀ i, n ≤ i → i < szN n → oA (i - n) = nI (kd i)) (hS : ∀ i, i < 6 → ∀ y, oS i = some y → y ∈ sL)
    (h : ∀ A' F' T' S', (∀ i, n ≤ i → i < szN n → A' (i - n) = nI (kd i)) → (∀ i, i < n → F' i = oF i) → (∀ i, i < szN n → T' i = oT i) → (∀ i, i < 6 → S' i = oS i) → Q (A', F', T', S', os, oc)) : w_X8_takeFrom n (szN n) oA oF oT oS os oc tA tF tT tS ts tc sL sf Q := by
  have hl := hn.le
  have hs := hn.sz
  unfold w_X8_takeFrom
  intro Y hY
  have key2 : ∀ d i S', i + d = 6 → (∀ j, j < i → S' j = oS j) → Y (nI i) S' := by
    intro d
    induction d with
    | zero =>
      intro i S' hi hS'
      have hie : i = 6 := by omega
      subst hie
      refine hY _ _ (fun J2 hJ2 => ?_)
      have hj2 : J2 := hJ2 (k_copy (by omega) (by omega) (fun z1 h1 => k_copy (by omega) (by omega) (fun z2 h2 => k_copy (by omega) (by omega) (fun z3 h3 => h _ _ _ _ (fun i p r => (h1 (i - n) (by omega) (by omega)).trans (hA i p r)) (fun i hi => h2 i hi hi) (fun i hi => h3 i hi hi) hS'))))
      exact ⟨fun _ => hj2, fun hc => absurd (by decide) hc⟩
    | succ d ih =>
      intro i S' hi hS'
      have h6 : ¬ (6 : Int32) ≤ nI i := nI_ge (b := 6) (by omega) (by omega)
      have st : ∀ v : Option Nat, oS i = v → ∀ x : Int32, x = nI i + 1 → Y x (va_up S' (nI i).toNatClampNeg v) := by
        intro v hv x e
        rw [e, nI_1, nI_clamp (by omega)]
        refine ih (i + 1) _ (by omega) (fun j hj => ?_)
        by_cases hji : j = i
        · subst hji; rw [va_up_self]; exact hv.symm
        · rw [va_up_ne _ _ hji]; exact hS' j (by omega)
      have ec : (nI i).toNatClampNeg = i := nI_clamp (by omega)
      have hv6 : vp_in (nI i) 6 := vp_in_nI (by omega) (by omega)
      refine hY _ _ (fun J2 hJ2 => ⟨fun hc => absurd hc h6, fun _ => ⟨fun hc => absurd hc h6, fun _ => ⟨hv6, fun hq => ⟨hv6, fun x e => ?_⟩, fun y hy => ⟨?_, hv6, fun x e => ?_⟩⟩⟩⟩)
      · rw [ec] at hq
        exact st none hq x e
      · rw [ec] at hy
        exact hS i (by omega) y hy
      · rw [ec] at hy
        exact st (some y) hy x e
  exact key2 6 0 tS (by omega) (fun j hj => by omega)
end S4
theorem CS.cong {s : Nat} {SG : Nat → Nat → Nat} {v : Int32} {g g' : Nat → Option Nat} {sL : List Nat} {sf : Nat → Nat → Int32} (h : CS s SG v g sL sf) (hs : s ≤ 6) (hg : ∀ i, i < 6 → g' i = g i) : CS s SG v g' sL sf := by
  obtain ⟨h1, h2, h3⟩ := h
  refine ⟨h1, fun i hi => ?_, fun i hi y hy => h3 i hi y (by rw [← hg i hi]; exact hy)⟩
  obtain ⟨y, g1, g2⟩ := h2 i hi
  exact ⟨y, by rw [hg i (by omega)]; exact g1, g2⟩
theorem s_image : st_image JInv := by
  intro j q n k ni bv bm ml cn bt f t a b sg sL sf mf mg ma hj hI
  obtain ⟨kd, D, T, s, SG, ch, img, kd1, D1, T1, s1, SG1, ch1, m, L, rd, nd, lk, hS, hC, hR⟩ := hI
  obtain rfl := hC.1
  have ecn := hC.2.2.2.2.1.1
  subst ecn
  obtain ⟨o1, o2, o3, o4, hm18, hL, o7, o8, o9⟩ := id hS
  obtain ⟨-, ⟨c1, c2, c3, c4, c5, c6, c7, c8⟩, c9, c10, c11⟩ := id hC
  unfold w_X10_image
  refine k_hp hS (fun hn => ⟨fun _ => ?_, fun hc => absurd hc (by decide)⟩) (fun h0 => ⟨fun hc => absurd rfl hc, fun _ => ?_⟩)
  · have hz := hn.sz
    have hnl := hn.le
    unfold w_X5_keepImage
    refine k_take hn c1.2.1 c7.2.2 (fun A' F' T' S' h1 h2 h3 h4 => ?_)
    have hC' : CIv n kd D T s SG ch true kd D T s SG ch m L rd nd lk (szN n) ni bm (nI m) bt (upd (upd (upd f 5 (f 3)) 6 (f 4)) 0 1) (va_up (va_up a 3 F') 4 T') (va_up b 1 A') (va_up sg 1 S') sL sf := ⟨rfl, ⟨⟨c1.1, c1.2.1, c1.2.2.cong (va_up_ne _ _ (by decide)) (va_up_ne _ _ (by decide))⟩, c2, c3, c4, c5, c6, c7, c8⟩, fun _ => ⟨h1, fun i hi => (h2 i hi).trans (c3 i hi), fun i hi => (h3 i hi).trans (c4 i hi), c7.cong o2.2.2.2.1.1 h4, c8⟩, rfl, c11⟩
    unfold w_X11_image
    refine r_lk hS hR (fun _ => ⟨fun _ => ?_, fun hc => absurd rfl hc⟩) (fun h0 => by omega)
    refine p_copy (Nat.le_refl _) (by decide) (fun z1 g1 _ => p_copy (Nat.le_refl _) (by decide) (fun z2 g2 _ => p_copy (Nat.le_refl _) (by decide) (fun z3 g3 _ => p_copy (Nat.le_refl _) (by decide) (fun z4 g4 _ => ?_))))
    intro x8 e8 x9 e9 x10 e10
    have e8' : x8 = mf 8 := e8
    have e9' : x9 = mf 18 := e9
    have e10' : x10 = mf 9 := e10
    subst e8' e9' e10'
    obtain ⟨⟨r1, r2, r3, r4, r5⟩, ⟨r6, r7⟩, r8, r9, r10, r11, r12, r13, r14, r15, r16⟩ := id hR
    refine sameE ?_ (mkJ ⟨o1, o2, o2, fun h0 => by omega, hm18, hL, by omega, o8, o9⟩ hC' ⟨⟨r1, r2, r3, r4, r5⟩, ⟨r6, r7⟩, r8, fun _ => ⟨fun i p r => ?_, fun i hi => ?_, fun i hi => ?_, r6, fun i hi c hc => ?_, r8⟩, ⟨fun _ => rfl, fun _ => rfl⟩, Or.inr ⟨rd, by omega, r14⟩, r12, r13, r14, r15, r16⟩)
    · show f 4 = mf 8
      rw [c8, r8]
    · show z1 i = nI (kd i)
      rw [g1 i (by omega)]; exact r3 i p r
    · show z2 i = nI (D i)
      rw [g2 i (by omega)]; exact r4 i hi
    · show z3 i = T i
      rw [g3 i (by omega)]; exact r5 i hi
    · show z4 (4 * i + c) = nI (SG i c)
      have := o2.2.2.2.1.1
      rw [g4 (4 * i + c) (by omega)]; exact r7 i hi c hc
  · unfold w_X11_image
    exact r_lk hS hR (fun h9 => by have := h9.le; omega) (fun _ => ⟨fun hc => absurd hc (by decide), fun _ => same (mkJ hS.up hC hR)⟩)
theorem s_restore : st_restore JInv := by
  intro j q n k ni bv bm ml cn bt f t a b sg sL sf mf mg ma hj hI
  obtain ⟨kd, D, T, s, SG, ch, img, kd1, D1, T1, s1, SG1, ch1, m, L, rd, nd, lk, hS, hC, hR⟩ := hI
  obtain rfl := hC.1
  have ecn := hC.2.2.2.2.1.1
  subst ecn
  obtain ⟨o1, o2, o3, o4, hm18, hL, o7, o8, o9⟩ := id hS
  obtain ⟨-, ⟨c1, c2, c3, c4, c5, c6, c7, c8⟩, c9, c10, c11⟩ := id hC
  obtain ⟨⟨r1, r2, r3, r4, r5⟩, ⟨r6, r7⟩, r8, r9, r10, r11, r12, r13, r14, r15, r16⟩ := id hR
  unfold w_X10_restore
  cases him : img with
  | true =>
    have hn : okN n := by
      rcases o1 with h0 | hn
      · have := o4 h0; rw [him] at this; cases this
      · exact hn
    have hz := hn.sz
    have hnl := hn.le
    rw [c10, him]
    obtain ⟨k1, k2, k3, k4, k5⟩ := c9 him
    obtain ⟨l1, l2, l3, l4, l5, l6⟩ := r9 him
    refine ⟨fun _ => ?_, fun hc => absurd hc (by decide)⟩
    unfold w_X5_goBackToImage
    refine k_take (kd := kd1) hn k1 k4.2.2 (fun A' F' T' S' h1 h2 h3 h4 => ?_)
    have hb : CB n kd1 (va_up (va_up a 1 F') 2 T') (va_up b 0 A') := ⟨c1.1, h1, c1.2.2.cong (va_up_ne _ _ (by decide)) (va_up_ne _ _ (by decide))⟩
    refine k_build (kd := kd1) (x := D1) hn o3.1 o3.2.1 hb (fun i hi => (h2 i hi).trans (k2 i hi)) (fun v hv => ?_)
    have hC' : CIv n kd1 D1 T1 s1 SG1 ch1 img kd1 D1 T1 s1 SG1 ch1 m L rd nd lk (szN n) ni bm (nI m) bt (upd (upd (upd f 3 (f 5)) 4 (f 6)) 2 0) (va_up (va_up (va_up a 1 F') 2 T') 5 v) (va_up b 0 A') (va_up sg 0 S') sL sf := ⟨rfl, ⟨⟨c1.1, h1, hb.2.2⟩, c2, fun i hi => (h2 i hi).trans (k2 i hi), fun i hi => (h3 i hi).trans (k3 i hi), hv, Or.inl rfl, k4.cong o3.2.2.2.1.1 h4, k5⟩, fun hi => c9 hi, c10, c11⟩
    unfold w_X11_restore
    refine ⟨fun _ => ?_, fun hc => absurd (r10.mp him) hc⟩
    refine p_copy (Nat.le_refl _) (by decide) (fun z1 g1 _ => p_copy (Nat.le_refl _) (by decide) (fun z2 g2 _ => p_copy (Nat.le_refl _) (by decide) (fun z3 g3 _ => p_copy (Nat.le_refl _) (by decide) (fun z4 g4 _ => ?_))))
    intro x6 e6 x7 e7
    subst e6 e7
    refine sameE ?_ (mkJ ⟨o1, o3, o3, o4, hm18, hL, by omega, o8, o9⟩ hC' ⟨⟨r1, r2, fun i p r => ?_, fun i hi => ?_, fun i hi => ?_⟩, ⟨l4, fun i hi c hc => ?_⟩, l6, fun hi => r9 hi, r10, r11, r12, r13, r14, r15, r16⟩)
    · show f 6 = mf 22
      rw [k5, l6]
    · show z1 i = nI (kd1 i)
      rw [g1 i (by omega)]; exact l1 i p r
    · show z2 i = nI (D1 i)
      rw [g2 i (by omega)]; exact l2 i hi
    · show z3 i = T1 i
      rw [g3 i (by omega)]; exact l3 i hi
    · show z4 (4 * i + c) = nI (SG1 i c)
      have := o3.2.2.2.1.1
      rw [g4 (4 * i + c) (by omega)]; exact l5 i hi c hc
  | false =>
    rw [c10, him]
    refine ⟨fun hc => absurd rfl hc, fun _ => ?_⟩
    unfold w_X11_restore
    refine ⟨fun hc => ?_, fun _ => same (mkJ hS.up hC hR)⟩
    have := r10.mpr hc
    rw [him] at this
    cases this
/-! draws -/
def sdN (x : Int32) : Int32 := (((1103515245 : Int64) * x.toInt64 + (12345 : Int64)) &&& (2147483647 : Int64)).toInt32
theorem sd_ex (x : Int32) : ∃ N, N < 2 ^ 31 ∧ sdN x = nI N := by
  unfold sdN
  generalize (1103515245 : Int64) * x.toInt64 + (12345 : Int64) = y
  have hb : (y &&& (2147483647 : Int64)).toBitVec.toNat < 2 ^ 31 := by
    show (y.toBitVec &&& (2147483647 : Int64).toBitVec).toNat < 2 ^ 31
    rw [BitVec.toNat_and, show (2147483647 : Int64).toBitVec.toNat = 2 ^ 31 - 1 from by decide, Nat.and_two_pow_sub_one_eq_mod]
    exact Nat.mod_lt _ (by decide)
  refine ⟨(y &&& (2147483647 : Int64)).toBitVec.toNat, hb, ?_⟩
  generalize (y &&& (2147483647 : Int64)) = z at hb ⊢
  apply Int32.toBitVec_inj.mp
  apply BitVec.eq_of_toNat_eq
  rw [pk_tn (by omega)]
  show (z.toBitVec.signExtend 32).toNat = _
  rw [BitVec.signExtend_eq_setWidth_of_le _ (by decide), BitVec.toNat_setWidth, Nat.mod_eq_of_lt (by omega)]
def ddN (x : Int32) : Nat := x.toNatClampNeg / 65536 % 10
theorem dd_eq (x : Int32) : sdN x / 65536 - sdN x / 65536 / 10 * 10 = nI (ddN (sdN x)) := by
  obtain ⟨N, hN, e⟩ := sd_ex x
  rw [e, show (65536 : Int32) = nI 65536 from rfl, show (10 : Int32) = nI 10 from rfl, pk_div hN (by omega) (by omega), pk_rem (by omega) (by omega) (by omega)]
  unfold ddN
  rw [nI_clamp hN]
theorem dd_le (x : Int32) : ddN x ≤ 9 := by unfold ddN; omega
def sdI (x : Int32) : Nat → Int32
  | 0 => x
  | i + 1 => sdN (sdI x i)
def drN (x : Int32) (i : Nat) : Nat := ddN (sdI x (i + 1))
theorem dr_le (x : Int32) (i : Nat) : drN x i ≤ 9 := dd_le _
/-- after so many draws: the seed, the tops together, the greatest -/
def dwN (n : Nat) (kd : Nat → Nat) (x : Int32) : Nat → Int32 × Nat × Nat
  | 0 => (x, 0, 0)
  | i + 1 => (sdI (dwN n kd x i).1 n, (dwN n kd x i).2.1 + topN n kd (drN (dwN n kd x i).1), max (dwN n kd x i).2.2 (topN n kd (drN (dwN n kd x i).1)))
theorem dw_le {n : Nat} {kd : Nat → Nat} {x : Int32} (hn : okN n) : ∀ i, (dwN n kd x i).2.1 ≤ 243 * i ∧ (dwN n kd x i).2.2 ≤ 243 := by
  have hz := hn.sz
  intro i
  induction i with
  | zero => exact ⟨Nat.le_refl _, Nat.zero_le _⟩
  | succ i ih =>
    have ht : topN n kd (drN (dwN n kd x i).1) ≤ 243 := vl_le hn (fun j _ => dr_le _ j) (by omega)
    constructor
    · show (dwN n kd x i).2.1 + topN n kd (drN (dwN n kd x i).1) ≤ _
      omega
    · show max (dwN n kd x i).2.2 (topN n kd (drN (dwN n kd x i).1)) ≤ _
      omega
section S5
variable {n : Nat} {kd : Nat → Nat} {D : Nat → Nat} {T : Nat → Int32} {s : Nat} {SG : Nat → Nat → Nat} {ch : Nat} {img : Bool} {kd1 : Nat → Nat} {D1 : Nat → Nat} {T1 : Nat → Int32} {s1 : Nat} {SG1 : Nat → Nat → Nat} {ch1 : Nat} {m : Nat} {L : Nat → Nat} {rd : Nat} {nd : Nat} {lk : Nat} {q : Nat → Nat} {k : Nat} {ni : Nat → Int32} {bv : Nat} {bm : Nat} {ml : Int32} {cn : Int32} {bt : Nat → Int32} {f : Nat → Int32} {t : Nat} {a : Nat → Nat → Int32} {b : Nat → Nat → Int32} {sg : Nat → Nat → Option Nat} {sL : List Nat} {sf : Nat → Nat → Int32} {j : Nat} {mf : Nat → Int32} {mg : Int64} {ma : Nat → Nat → Int32}
theorem k_draw {x : Int32} {Q : Int32 → (Nat → Nat → Int32) → Prop} (hn : okN n) (hk : ∀ i, kd i < 5) (hb : CB n kd a b) (h : ∀ v, (∀ i, i < szN n → v i = nI (vl n kd (drN x) i)) → Q (sdI x n) (va_up a 6 v)) : w_X5_draw n (szN n) q f t a b sg sL sf x Q := by
  have hl := hn.le
  have hs := hn.sz
  unfold w_X5_draw
  intro X hX
  have key : ∀ d i v, i + d = n → (∀ j, j < i → v j = nI (drN x j)) → X (sdI x i) (nI i) (va_up a 6 v) := by
    intro d
    induction d with
    | zero =>
      intro i v hi hv
      refine hX _ _ _ (pk_le n i (fun _ => ?_) (fun _ => by omega))
      refine k_raise_g (kd := kd) (x := drN x) hn hk (dr_le x) ⟨fun i p r => by rw [va_up_ne _ _ (by decide)]; exact hb.1 i p r, hb.2⟩ (fun y hy => by rw [va_up_self]; exact hv y (by omega)) (fun v2 hv2 => ?_)
      rw [va_up_up, show i = n by omega]
      exact h v2 hv2
    | succ d ih =>
      intro i v hi hv
      refine hX _ _ _ (pk_le n i (fun _ => by omega) (fun _ x7 e7 x9 e9 => ⟨vp_in_nI (by omega) (by omega), fun x10 e10 => ?_⟩))
      have e7' : x7 = sdN (sdI x i) := e7
      subst e7'
      rw [dd_eq] at e9
      subst e9
      rw [e10, nI_1, nI_clamp (by omega), va_up_up, va_up_self]
      refine ih (i + 1) _ (by omega) (fun j hj => ?_)
      by_cases hji : j = i
      · subst hji; rw [pk_us]; rfl
      · rw [pk_un hji]; exact hv j (by omega)
  have := key n 0 (a 6) (by omega) (fun j hj => by omega)
  rw [va_up_id] at this
  exact this
/-- what is drawn, as answered -/
def dnV (n : Nat) (kd : Nat → Nat) (x : Int32) (T p : Nat) : Int32 := if p = 0 then nI (dwN n kd x T).2.1 else if p = 1 then nI (dwN n kd x T).2.2 else (dwN n kd x T).1
theorem c_drawn {tm p : Nat} {x : Int32} {Q : Int32 → (Nat → Nat → Int32) → Prop} (hS : SOK n kd D T s SG ch img kd1 D1 T1 s1 SG1 ch1 m L rd nd lk j) (hC : CIv n kd D T s SG ch img kd1 D1 T1 s1 SG1 ch1 m L rd nd lk k ni bm cn bt f a b sg sL sf) (hn : okN n) (ht1 : 1 ≤ tm) (ht : tm < 61) (hp : p < 3) (hx : ¬ x < 0) (h : ∀ v, Q (dnV n kd x tm p) (va_up a 6 v)) : w_X10_drawn n (szN n) q ni bv bm ml cn bt f t a b sg sL sf (nI tm) x (nI p) Q := by
  obtain ⟨-, ⟨c1, c2, c3, c4, c5, c6, c7, c8⟩, -⟩ := id hC
  unfold w_X10_drawn
  refine k_wy (a := 1) (b := 61) ht1 ht (by omega) rfl (by decide) ⟨fun hc => absurd hc (by decide), fun _ => ⟨fun hc => absurd hc hx, fun _ => k_wy (a := 0) (b := 3) (by omega) hp (by omega) rfl (by decide) ⟨fun _ => k_hp hS (fun _ => ⟨fun _ => ?_, fun hc => absurd hc (by decide)⟩) (fun h0 => by have := hn.le; omega), fun hc => absurd hc (by decide)⟩⟩⟩
  intro X hX
  have key : ∀ d i v, i + d = tm → X (nI (dwN n kd x i).2.1) (nI (dwN n kd x i).2.2) (dwN n kd x i).1 (nI i) (va_up a 6 v) := by
    intro d
    induction d with
    | zero =>
      intro i v hi
      refine hX _ _ _ _ _ (pk_le tm i (fun _ => ?_) (fun _ => by omega))
      have hq := h v
      rw [← show i = tm by omega] at hq
      unfold dnV at hq
      have e : ∀ c : Nat, c < 3 → ((nI p = nI c) = (p = c)) := fun c hc => propext (nI_eq (by omega) (by omega))
      show (¬ nI p = nI 2 → (¬ nI p = nI 0 → _) ∧ (nI p = nI 0 → _)) ∧ (nI p = nI 2 → _)
      rw [e 2 (by omega), e 0 (by omega)]
      refine ⟨fun n2 => ⟨fun n0 => ?_, fun e0 => ?_⟩, fun e2 => ?_⟩
      · rw [if_neg n0, if_pos (by omega)] at hq; exact hq
      · rw [if_pos e0] at hq; exact hq
      · rw [if_neg (by omega), if_neg (by omega)] at hq; exact hq
    | succ d ih =>
      intro i v hi
      have hdw := dw_le (kd := kd) (x := x) hn i
      have htop : topN n kd (drN (dwN n kd x i).1) ≤ 243 := vl_le hn (fun j _ => dr_le _ j) (by have := hn.sz; omega)
      refine hX _ _ _ _ _ (pk_le tm i (fun _ => by omega) (fun _ => ?_))
      refine k_draw hn hS.2.1.1 ⟨fun i p r => by rw [va_up_ne _ _ (by decide)]; exact c1.1 i p r, c1.2⟩ (fun v2 hv2 => ?_)
      refine k_guessedTop (kd := kd) (x := drN (dwN n kd x i).1) hn (fun y hy => by rw [va_up_self]; exact hv2 y hy) (fun x22 e22 => ?_)
      refine k_guessedTop (kd := kd) (x := drN (dwN n kd x i).1) hn (fun y hy => by rw [va_up_self]; exact hv2 y hy) (fun x25 e25 x26 e26 => ?_)
      have e25' : x25 = nI (max (dwN n kd x i).2.2 (topN n kd (drN (dwN n kd x i).1))) := by
        rw [e25]
        by_cases hlt : (dwN n kd x i).2.2 < topN n kd (drN (dwN n kd x i).1)
        · rw [if_pos ((nI_ltI (by omega) (by omega)).mpr hlt)]; congr 1; omega
        · rw [if_neg (fun h9 => hlt ((nI_ltI (by omega) (by omega)).mp h9))]; congr 1; omega
      rw [e22, e25', e26, nI_add, nI_1, va_up_up]
      exact ih (i + 1) v2 (by omega)
  have := key tm 0 (a 6) (by omega)
  rw [va_up_id] at this
  exact this
theorem r_drawn {tm p : Nat} {x : Int32} {Q : Int32 → MSt → Prop} (hS : SOK n kd D T s SG ch img kd1 D1 T1 s1 SG1 ch1 m L rd nd lk j) (hR : RIv n kd D T s SG ch img kd1 D1 T1 s1 SG1 ch1 m L rd nd lk mf ma) (hn : okN n) (ht1 : 1 ≤ tm) (ht : tm < 61) (hp : p < 3) (hx : ¬ x < 0) (h : ∀ f' a', KR mf f' ma a' → Q (dnV n kd x tm p) (f', mg, a')) : w_X11_drawn mf mg ma (nI tm) x (nI p) Q := by
  have hl := hn.le
  have hs := hn.sz
  unfold w_X11_drawn
  refine p_iny (a := 1) (b := 61) ht1 ht (by omega) rfl (by decide) ⟨fun hc => absurd hc (by decide), fun _ => ⟨fun hc => absurd hc hx, fun _ => p_iny (a := 0) (b := 3) (by omega) hp (by omega) rfl (by decide) ⟨fun _ => r_lk hS hR (fun _ => ⟨fun _ => ?_, fun hc => absurd rfl hc⟩) (fun h0 => by omega), fun hc => absurd hc (by decide)⟩⟩⟩
  intro X hX
  have key : ∀ d i f' a', i + d = tm → KR mf f' ma a' → f' 20 = (dwN n kd x i).1 → X (nI (dwN n kd x i).2.1) (nI (dwN n kd x i).2.2) (nI i) (f', mg, a') := by
    intro d
    induction d with
    | zero =>
      intro i f' a' hi hk h20
      refine hX _ _ _ _ (pk_le tm i (fun _ => ?_) (fun h9 => absurd h9 (by omega)))
      have hq := h f' a' hk
      rw [← show i = tm by omega] at hq
      unfold dnV at hq
      have e : ∀ c : Nat, c < 3 → ((nI p = nI c) = (p = c)) := fun c hc => propext (nI_eq (by omega) (by omega))
      show (¬ nI p = nI 0 → (¬ nI p = nI 1 → Q (f' 20) (f', mg, a')) ∧ (nI p = nI 1 → _)) ∧ (nI p = nI 0 → _)
      rw [e 1 (by omega), e 0 (by omega)]
      refine ⟨fun n0 => ⟨fun n1 => ?_, fun e1 => ?_⟩, fun e0 => ?_⟩
      · rw [if_neg n0, if_neg n1] at hq; rw [h20]; exact hq
      · rw [if_neg n0, if_pos e1] at hq; exact hq
      · rw [if_pos e0] at hq; exact hq
    | succ d ih =>
      intro i f' a' hi hk h20
      have hdw := dw_le (kd := kd) (x := x) hn i
      have htop : topN n kd (drN (dwN n kd x i).1) ≤ 243 := vl_le hn (fun j _ => dr_le _ j) (by omega)
      refine hX _ _ _ _ (pk_le tm i (fun _ => by omega) (fun _ Y hY => ?_))
      have inner : ∀ d2 k2 f2 v, k2 + d2 = n → KR mf f2 ma (va_up a' 14 v) → f2 20 = sdI (dwN n kd x i).1 k2 → (∀ y, y < k2 → v y = nI (drN (dwN n kd x i).1 y)) → Y (nI k2) (f2, mg, va_up a' 14 v) := by
        intro d2
        induction d2 with
        | zero =>
          intro k2 f2 v hk2 hkr h202 hv
          have hR2 := hR.kr hkr
          refine hY _ _ (pk_le n k2 (fun _ => ?_) (fun _ => by omega) hR2.1.1 rfl)
          refine p_layValues (kd := kd) (x := drN (dwN n kd x i).1) hn hS.2.1.1 (dr_le _) hR2.1.1 hR2.1.2.1 hR2.1.2.2.1 (fun y hy => by show va_up a' 14 v 14 y = _; rw [va_up_self]; exact hv y (by omega)) (fun v2 hv2 => ?_)
          have e7 : f2 7 - 1 = nI (szN n - 1) := by rw [hR2.1.2.1, show (1 : Int32) = nI 1 from rfl, pk_sub (by omega)]
          have et : va_up (va_up a' 14 v) 13 v2 13 (f2 7 - 1).toNatClampNeg = nI (topN n kd (drN (dwN n kd x i).1)) := by
            rw [e7, nI_clamp (by omega), va_up_self, hv2 _ (by omega)]; rfl
          have hin : vp_in (f2 7 - 1) 10 := by rw [e7]; exact vp_in_nI (by omega) (by omega)
          refine ⟨hin, fun x23 e23 => ⟨hin, fun J26 hJ26 => ?_⟩⟩
          have e23' : x23 = nI (dwN n kd x (i + 1)).2.1 := by
            rw [e23]
            show nI (dwN n kd x i).2.1 + va_up (va_up a' 14 v) 13 v2 13 (f2 7 - 1).toNatClampNeg = _
            rw [et, nI_add]; rfl
          subst e23'
          have hkr2 : KR mf f2 ma (va_up (va_up a' 14 v) 13 v2) := ⟨hkr.1, fun y p q r s => by rw [va_up_ne _ _ q]; exact hkr.2 y p q r s⟩
          have fin : ∀ W, W = (dwN n kd x (i + 1)).2.2 → J26 (nI W) := fun W hW => hJ26 _ (fun x27 e27 => by
            rw [e27, nI_1, hW]
            refine ih (i + 1) f2 _ (by omega) hkr2 ?_
            rw [h202, show k2 = n by omega]; rfl)
          have hmx : (dwN n kd x (i + 1)).2.2 = max (dwN n kd x i).2.2 (topN n kd (drN (dwN n kd x i).1)) := rfl
          show (va_up (va_up a' 14 v) 13 v2 13 (f2 7 - 1).toNatClampNeg ≤ nI (dwN n kd x i).2.2 → J26 (nI (dwN n kd x i).2.2)) ∧ (¬ va_up (va_up a' 14 v) 13 v2 13 (f2 7 - 1).toNatClampNeg ≤ nI (dwN n kd x i).2.2 → vp_in (f2 7 - 1) 10 ∧ J26 (va_up (va_up a' 14 v) 13 v2 13 (f2 7 - 1).toNatClampNeg))
          rw [et, nI_leI (by omega) (by omega)]
          exact ⟨fun hle => fin _ (by omega), fun hgt => ⟨hin, fin _ (by omega)⟩⟩
        | succ d2 ih2 =>
          intro k2 f2 v hk2 hkr h202 hv
          have hR2 := hR.kr hkr
          refine hY _ _ (pk_le n k2 (fun _ => by omega) (fun _ => ?_) hR2.1.1 rfl)
          unfold w_X11_draw
          intro x1 e1
          have e1' : x1 = sdN (sdI (dwN n kd x i).1 k2) := by
            rw [e1]
            show (((1103515245 : Int64) * (f2 20).toInt64 + (12345 : Int64)) &&& (2147483647 : Int64)).toInt32 = _
            rw [h202]; rfl
          subst e1'
          refine ⟨by decide, vp_in_nI (by omega) (by omega), fun x33 e33 => ?_⟩
          rw [e33, nI_1, dd_eq]
          show Y (nI (k2 + 1)) (upd f2 20 (sdN (sdI (dwN n kd x i).1 k2)), mg, va_up (va_up a' 14 v) 14 (upd (va_up a' 14 v 14) (nI k2).toNatClampNeg (nI (ddN (sdN (sdI (dwN n kd x i).1 k2))))))
          rw [va_up_up, va_up_self, nI_clamp (by omega)]
          refine ih2 (k2 + 1) _ _ (by omega) ⟨fun y p q r s => by rw [pk_un s]; exact hkr.1 y p q r s, fun y p q r s => ?_⟩ (by rw [pk_us]; rfl) (fun y hy => ?_)
          · have := hkr.2 y p q r s
            rw [va_up_ne _ _ r] at this
            rw [va_up_ne _ _ r]; exact this
          · by_cases hyk : y = k2
            · subst hyk; rw [pk_us]; rfl
            · rw [pk_un hyk]; exact hv y (by omega)
      have := inner n 0 f' (a' 14) (by omega) (by rw [va_up_id]; exact hk) h20 (fun y hy => by omega)
      rw [va_up_id] at this
      exact this
  exact key tm 0 _ ma (by omega) (KR.rfl'.up (Or.inr (Or.inr (Or.inr rfl)))) pk_us
end S5
theorem s_drawn : st_drawn JInv := by
  intro j q n k ni bv bm ml cn bt f t a b sg sL sf mf mg ma hj hI p1 p2 p3
  obtain ⟨kd, D, T, s, SG, ch, img, kd1, D1, T1, s1, SG1, ch1, m, L, rd, nd, lk, hS, hC, hR⟩ := hI
  obtain rfl := hC.1
  have ecn := hC.2.2.2.2.1.1
  subst ecn
  rcases arg_in p1 1 61 (by omega) with ⟨tm, ht1, ht, rfl⟩ | ho
  · by_cases hx : p2 < 0
    · unfold w_X10_drawn
      refine k_wy (a := 1) (b := 61) ht1 ht (by omega) rfl (by decide) ⟨fun hc => absurd hc (by decide), fun _ => ⟨fun _ => ?_, fun hc => absurd hx hc⟩⟩
      unfold w_X11_drawn
      exact p_iny (a := 1) (b := 61) ht1 ht (by omega) rfl (by decide) ⟨fun hc => absurd hc (by decide), fun _ => ⟨fun _ => same (mkJ hS.up hC hR), fun hc => absurd hx hc⟩⟩
    · rcases arg_in p3 0 3 (by omega) with ⟨p, -, hp, rfl⟩ | ho3
      · rcases hS.1 with h0 | hn
        · unfold w_X10_drawn
          refine k_wy (a := 1) (b := 61) ht1 ht (by omega) rfl (by decide) ⟨fun hc => absurd hc (by decide), fun _ => ⟨fun hc => absurd hc hx, fun _ => k_wy (a := 0) (b := 3) (by omega) hp (by omega) rfl (by decide) ⟨fun _ => k_hp hS (fun h9 => by have := h9.le; omega) (fun _ => ⟨fun hc => absurd rfl hc, fun _ => ?_⟩), fun hc => absurd hc (by decide)⟩⟩⟩
          unfold w_X11_drawn
          exact p_iny (a := 1) (b := 61) ht1 ht (by omega) rfl (by decide) ⟨fun hc => absurd hc (by decide), fun _ => ⟨fun hc => absurd hc hx, fun _ => p_iny (a := 0) (b := 3) (by omega) hp (by omega) rfl (by decide) ⟨fun _ => r_lk hS hR (fun h9 => by have := h9.le; omega) (fun _ => ⟨fun hc => absurd hc (by decide), fun _ => same (mkJ hS.up hC hR)⟩), fun hc => absurd hc (by decide)⟩⟩⟩
        · exact c_drawn hS hC hn ht1 ht hp hx (fun v => r_drawn hS hR hn ht1 ht hp hx (fun f' a' hk => same (mkJ hS.up hC.g (hR.kr hk))))
      · unfold w_X10_drawn
        refine k_wy (a := 1) (b := 61) ht1 ht (by omega) rfl (by decide) ⟨fun hc => absurd hc (by decide), fun _ => ⟨fun hc => absurd hc hx, fun _ => k_wn (a := 0) (b := 3) ho3 rfl (by decide) ⟨fun hc => absurd rfl hc, fun _ => ?_⟩⟩⟩
        unfold w_X11_drawn
        exact p_iny (a := 1) (b := 61) ht1 ht (by omega) rfl (by decide) ⟨fun hc => absurd hc (by decide), fun _ => ⟨fun hc => absurd hc hx, fun _ => p_inn (a := 0) (b := 3) ho3 rfl (by decide) ⟨fun hc => absurd rfl hc, fun _ => same (mkJ hS.up hC hR)⟩⟩⟩
  · unfold w_X10_drawn
    refine k_wn (a := 1) (b := 61) ho rfl (by decide) ⟨fun _ => ?_, fun hc => absurd rfl hc⟩
    unfold w_X11_drawn
    exact p_inn (a := 1) (b := 61) ho rfl (by decide) ⟨fun _ => same (mkJ hS.up hC hR), fun hc => absurd rfl hc⟩
