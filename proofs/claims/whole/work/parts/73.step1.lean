/-! ===== the law's calls, one by one: letters, a pile, what a brick is ===== -/
theorem sameE {P : Prop} {x y : Int32} (e : x = y) (h : P) : (x = y → P) ∧ (¬ x = y → False) := ⟨fun _ => h, fun hc => hc e⟩
theorem same {P : Prop} {x : Int32} (h : P) : (x = x → P) ∧ (¬ x = x → False) := ⟨fun _ => h, fun hc => hc rfl⟩
section S1
variable {n : Nat} {kd : Nat → Nat} {D : Nat → Nat} {T : Nat → Int32} {s : Nat} {SG : Nat → Nat → Nat} {ch : Nat} {img : Bool} {kd1 : Nat → Nat} {D1 : Nat → Nat} {T1 : Nat → Int32} {s1 : Nat} {SG1 : Nat → Nat → Nat} {ch1 : Nat} {m : Nat} {L : Nat → Nat} {rd : Nat} {nd : Nat} {lk : Nat} {q : Nat → Nat} {k : Nat} {ni : Nat → Int32} {bv : Nat} {bm : Nat} {ml : Int32} {cn : Int32} {bt : Nat → Int32} {f : Nat → Int32} {t : Nat} {a : Nat → Nat → Int32} {b : Nat → Nat → Int32} {sg : Nat → Nat → Option Nat} {sL : List Nat} {sf : Nat → Nat → Int32} {j : Nat} {mf : Nat → Int32} {mg : Int64} {ma : Nat → Nat → Int32}
theorem mkJ (hS : SOK n kd D T s SG ch img kd1 D1 T1 s1 SG1 ch1 m L rd nd lk j) (hC : CIv n kd D T s SG ch img kd1 D1 T1 s1 SG1 ch1 m L rd nd lk k ni bm cn bt f a b sg sL sf) (hR : RIv n kd D T s SG ch img kd1 D1 T1 s1 SG1 ch1 m L rd nd lk mf ma) : JInv j q n k ni bv bm ml cn bt f t a b sg sL sf mf mg ma := ⟨kd, D, T, s, SG, ch, img, kd1, D1, T1, s1, SG1, ch1, m, L, rd, nd, lk, hS, hC, hR⟩
end S1
theorem s_letter : st_letter JInv := by
  intro j q n k ni bv bm ml cn bt f t a b sg sL sf mf mg ma hj hI p1
  obtain ⟨kd, D, T, s, SG, ch, img, kd1, D1, T1, s1, SG1, ch1, m, L, rd, nd, lk, hS, hC, hR⟩ := hI
  obtain rfl := hC.1
  have ecn := hC.2.2.2.2.1.1
  subst ecn
  obtain ⟨o1, o2, o3, o4, hm18, hL, o7, o8, o9⟩ := id hS
  have hP := hC.2.2.2.2.1
  unfold w_X10_letter
  rcases arg_in p1 1 127 (by omega) with ⟨v, hv1, hv2, rfl⟩ | ho
  · refine k_wy (a := 1) (b := 127) hv1 hv2 (by omega) rfl (by decide) ⟨fun _ => k_len ?_, fun hc => absurd hc (by decide)⟩
    refine pk_lt m 18 (fun hm => ?_) (fun hm => ?_)
    · rw [cc7 v hv2]
      refine k_addL hP hL hm hv2 (fun bv' bm' bt' hP2 => k_len ?_)
      unfold w_X11_letter
      refine p_iny (a := 1) (b := 127) hv1 hv2 (by omega) rfl (by decide) ⟨fun _ => ⟨fun _ => ⟨?_, fun x5 e5 => ?_⟩, fun hc => ?_⟩, fun hc => absurd hc (by decide)⟩
      · rw [hR.2.2.2.2.2.2.1]; exact vp_in_nI hm (by omega)
      · rw [hR.2.2.2.2.2.2.1, nI_1] at e5
        subst e5
        rw [hR.2.2.2.2.2.2.1, nI_clamp (by omega)]
        refine same (mkJ (m := m + 1) (L := va_up L m v) ⟨o1, o2, o3, o4, by omega, fun i => ?_, by omega, o8, o9⟩ ⟨rfl, hC.2.1, hC.2.2.1, hC.2.2.2.1, hP2, hC.2.2.2.2.2⟩ ⟨hR.1, hR.2.1, hR.2.2.1, hR.2.2.2.1, hR.2.2.2.2.1, hR.2.2.2.2.2.1, rfl, fun i hi => ?_, hR.2.2.2.2.2.2.2.2⟩)
        · by_cases hi : i = m
          · subst hi; rw [va_up_self]; exact hv2
          · rw [va_up_ne _ _ hi]; exact hL i
        · show upd (ma 0) m (nI v) i = nI (va_up L m v i)
          by_cases hi2 : i = m
          · subst hi2; rw [pk_us, va_up_self]
          · rw [pk_un hi2, va_up_ne _ _ hi2]; exact hR.2.2.2.2.2.2.2.1 i (by omega)
      · rw [hR.2.2.2.2.2.2.1, show (18 : Int32) = nI 18 from rfl, nI_eq (by omega) (by omega)] at hc
        omega
    · unfold w_X11_letter
      refine p_iny (a := 1) (b := 127) hv1 hv2 (by omega) rfl (by decide) ⟨fun _ => ⟨fun hc => absurd ?_ hc, fun _ => ?_⟩, fun hc => absurd hc (by decide)⟩
      · rw [hR.2.2.2.2.2.2.1, show m = 18 by omega]; rfl
      · exact same (mkJ hS.up hC hR)
  · refine k_wn (a := 1) (b := 127) ho rfl (by decide) ⟨fun hc => absurd rfl hc, fun _ => ?_⟩
    unfold w_X11_letter
    exact p_inn (a := 1) (b := 127) ho rfl (by decide) ⟨fun hc => absurd rfl hc, fun _ => same (mkJ hS.up hC hR)⟩
theorem s_blank : st_blank JInv := by
  intro j q n k ni bv bm ml cn bt f t a b sg sL sf mf mg ma hj hI
  obtain ⟨kd, D, T, s, SG, ch, img, kd1, D1, T1, s1, SG1, ch1, m, L, rd, nd, lk, hS, hC, hR⟩ := hI
  obtain rfl := hC.1
  have ecn := hC.2.2.2.2.1.1
  subst ecn
  obtain ⟨o1, o2, o3, o4, hm18, hL, o7, o8, o9⟩ := id hS
  have hP := hC.2.2.2.2.1
  unfold w_X10_blank
  refine k_len (k_clear hP (fun ml' hP2 => ?_))
  unfold w_X11_blank
  intro x1 e1
  refine sameE (by rw [e1, hR.2.2.2.2.2.2.1]) (mkJ (m := 0) ⟨o1, o2, o3, o4, by omega, hL, by omega, o8, o9⟩ ⟨rfl, hC.2.1, hC.2.2.1, hC.2.2.2.1, hP2, hC.2.2.2.2.2⟩ ⟨hR.1, hR.2.1, hR.2.2.1, hR.2.2.2.1, hR.2.2.2.2.1, hR.2.2.2.2.2.1, rfl, fun i hi => by omega, hR.2.2.2.2.2.2.2.2⟩)
theorem s_fault : st_fault JInv := by
  intro j q n k ni bv bm ml cn bt f t a b sg sL sf mf mg ma hj hI
  obtain ⟨kd, D, T, s, SG, ch, img, kd1, D1, T1, s1, SG1, ch1, m, L, rd, nd, lk, hS, hC, hR⟩ := hI
  obtain rfl := hC.1
  have ecn := hC.2.2.2.2.1.1
  subst ecn
  obtain ⟨o1, o2, o3, o4, hm18, hL, o7, o8, o9⟩ := id hS
  have hP := hC.2.2.2.2.1
  unfold w_X10_fault
  refine k_firstFault hP hL (fun r hr => ?_)
  unfold w_X11_fault
  exact p_faultOf hR.2.2.2.2.2.2.1 hm18 hL hR.2.2.2.2.2.2.2.1 (fun r' f' a' hr' hk _ => sameE (by rw [isFlt_uniq hr hr']) (mkJ hS.up hC (hR.kr hk)))
theorem SI0 : SI 0 (fun _ _ => 0) := ⟨by omega, fun _ => ⟨Nat.zero_lt_succ _, Nat.zero_le _, Nat.zero_le _, Nat.zero_le _⟩⟩
theorem s_pile : st_pile JInv := by
  intro j q n k ni bv bm ml cn bt f t a b sg sL sf mf mg ma hj hI
  obtain ⟨kd, D, T, s, SG, ch, img, kd1, D1, T1, s1, SG1, ch1, m, L, rd, nd, lk, hS, hC, hR⟩ := hI
  obtain rfl := hC.1
  have ecn := hC.2.2.2.2.1.1
  subst ecn
  obtain ⟨o1, o2, o3, o4, hm18, hL, o7, o8, o9⟩ := id hS
  have hP := hC.2.2.2.2.1
  unfold w_X10_pile
  refine k_isPile hP hL (fun hp => ⟨fun _ q4 => ?_, fun hc => absurd hc (by decide)⟩) (fun hp => ⟨fun hc => absurd rfl hc, fun _ => ?_⟩)
  · obtain ⟨w2, w5, wL0⟩ := pile_w hp
    obtain ⟨e1, e2, e3, e4, e5, e6⟩ := tb_e _ w5 w2
    have hpm := hp.2.1
    have hok := hp.2.2
    have hnw : okN (fmN m L) := by unfold okN; omega
    refine k_wide hP hL hp ?_
    refine k_new (n := fmN m L) (Or.inr hnw) (fun q1 t' a0 b0 g6 g7 g8 g9 => ?_)
    intro n' en k' ek q'
    subst en ek
    refine k_text hP hL (by omega) (fun q0 v0 sb hsb => ?_)
    refine k_readB (n := fmN m L) (L := L) hnw hpm hL hsb hok g6 g7 g8 g9 (fun a' b' g1 g2 g3 g4 g5 => ?_)
    refine k_clear hP (fun ml' hP2 => fun x10 e10 => ?_)
    have e10' : x10 = nI (rd + 1) := by rw [e10, hC.2.2.2.2.2.1, nI_1]
    subst e10'
    refine p_pile hR.2.2.2.2.2.2.1 hm18 hL hR.2.2.2.2.2.2.2.1 (fun _ f' ma' hN => ?_) (fun hc => absurd hp hc)
    obtain ⟨r6, r7, r8, r18, r1, r9, r15, r17, r21, r10, r11, r12⟩ := hN
    have e9 : f' 9 = nI (rd + 1) := by rw [r9, hR.2.2.2.2.2.2.2.2.1, nI_1]
    have h21 : ¬ f' 21 = f' 9 := by
      rw [r21, e9]
      rcases hR.2.2.2.2.2.1 with h | ⟨r, hr, h⟩
      · rw [h]; exact fun hc => nI_nem1 (by omega) hc.symm
      · rw [h, nI_eq (by omega) (by omega)]; omega
    have hsz := hnw.sz
    have hD9 : ∀ i, dgP (fmN m L) L i ≤ 9 := fun i => by
      have := Nat.mod_lt (L (czm (fmN m L) - fmN m L + i) - 48) (show 0 < 10 by omega)
      unfold dgP
      omega
    have hS' : SOK (fmN m L) (kdP (fmN m L) L) (dgP (fmN m L) L) (fun _ => -1) 0 (fun _ _ => 0) 0 false kd1 D1 T1 s1 SG1 ch1 0 L (rd + 1) nd lk (j + 1) := ⟨Or.inr hnw, ⟨fun i => Nat.mod_lt _ (by omega), hD9, fun i => Or.inl rfl, SI0, by omega⟩, o3, fun _ => rfl, by omega, hL, by omega, o8, o9⟩
    have hCN : CN (fmN m L) (kdP (fmN m L) L) (dgP (fmN m L) L) (fun _ => -1) 0 (fun _ _ => 0) 0 (upd (fun _ => 0) 7 (-1)) a' b' (fun _ _ => none) sL sf := ⟨g1, g2, g3, g4, g5, Or.inl rfl, ⟨rfl, fun i hi => absurd hi (by omega), fun i hi y hy => by cases hy⟩, rfl⟩
    have hC' : CIv (fmN m L) (kdP (fmN m L) L) (dgP (fmN m L) L) (fun _ => -1) 0 (fun _ _ => 0) 0 false kd1 D1 T1 s1 SG1 ch1 0 L (rd + 1) nd lk (szN (fmN m L)) (upd ni 0 (nI (rd + 1))) bm 0 bt (upd (fun _ => 0) 7 (-1)) a' b' (fun _ _ => none) sL sf := ⟨rfl, hCN, fun hc => absurd hc (by decide), rfl, hP2, rfl, hC.2.2.2.2.2.2⟩
    have h21' : f' 21 = -1 ∨ ∃ r, r ≤ rd + 1 ∧ f' 21 = nI r := by
      rw [r21]
      rcases hR.2.2.2.2.2.1 with h | ⟨r, hr, h⟩
      · exact Or.inl h
      · exact Or.inr ⟨r, by omega, h⟩
    have hR' : RIv (fmN m L) (kdP (fmN m L) L) (dgP (fmN m L) L) (fun _ => -1) 0 (fun _ _ => 0) 0 false kd1 D1 T1 s1 SG1 ch1 0 L (rd + 1) nd lk f' ma' := ⟨⟨r6, r7, r10, r11, fun i hi => r12 i (by omega)⟩, ⟨r18, fun i hi => absurd hi (by omega)⟩, r8, fun hc => absurd hc (by decide), ⟨fun hc => absurd hc (by decide), fun hc => absurd hc h21⟩, h21', r1, fun i hi => absurd hi (by omega), e9, r15.trans hR.2.2.2.2.2.2.2.2.2.1, r17.trans hR.2.2.2.2.2.2.2.2.2.2⟩
    exact same (mkJ hS' hC' hR')
  · exact p_pile hR.2.2.2.2.2.2.1 hm18 hL hR.2.2.2.2.2.2.2.1 (fun hc => absurd hc hp) (fun _ f' a' hk => same (mkJ hS.up hC (hR.kr hk)))
theorem s_brick : st_brick JInv := by
  intro j q n k ni bv bm ml cn bt f t a b sg sL sf mf mg ma hj hI p1 p2
  obtain ⟨kd, D, T, s, SG, ch, img, kd1, D1, T1, s1, SG1, ch1, m, L, rd, nd, lk, hS, hC, hR⟩ := hI
  obtain rfl := hC.1
  have ecn := hC.2.2.2.2.1.1
  subst ecn
  rcases arg_in p1 0 (szN n) (by have := hS.sz; omega) with ⟨i, -, hi, rfl⟩ | ho
  · refine c_brick hS hC hi ?_
    unfold w_X11_brick
    exact r_by hS hR hi ⟨fun hc => absurd hc (by decide), fun _ => r_tell hS hR hi (fun a' hk => same (mkJ hS.up hC (hR.kr hk)))⟩
  · unfold w_X10_brick
    refine k_bn hS ho ⟨fun hc => absurd rfl hc, fun _ => ?_⟩
    unfold w_X11_brick
    exact r_bn hS hR ho ⟨fun _ => same (mkJ hS.up hC hR), fun hc => absurd rfl hc⟩
/-- whether a brick of kind k is one of kind p, too -/
def asB (k p : Nat) : Bool := decide (p = 0) || decide (p = k) || (decide (p = 3) && decide (k = 4))
theorem k_isOf {κ p : Nat} {Q : Int32 → Unit → Prop} (hk : κ < 5) (hp : p < 5) (h : Q (if asB κ p then 1 else 0) ()) : w_X10_isOfKind κ (nI p) Q := by
  unfold w_X10_isOfKind
  have e : ∀ c : Nat, c < 5 → ((nI p = nI c) = (p = c)) := fun c hc => propext (nI_eq (by omega) (by omega))
  rw [show (1 : Int32) = nI 1 from rfl, show (2 : Int32) = nI 2 from rfl, show (3 : Int32) = nI 3 from rfl, show (4 : Int32) = nI 4 from rfl, e 1 (by omega), e 2 (by omega), e 3 (by omega), e 4 (by omega)]
  rcases (show p = 0 ∨ p = 1 ∨ p = 2 ∨ p = 3 ∨ p = 4 by omega) with rfl | rfl | rfl | rfl | rfl <;> rcases (show κ = 0 ∨ κ = 1 ∨ κ = 2 ∨ κ = 3 ∨ κ = 4 by omega) with rfl | rfl | rfl | rfl | rfl <;> (simp (config := { decide := true }) only [false_implies, true_implies, not_true_eq_false, not_false_eq_true, and_true, true_and]; exact h)
theorem s_as : st_as JInv := by
  intro j q n k ni bv bm ml cn bt f t a b sg sL sf mf mg ma hj hI p1 p2
  obtain ⟨kd, D, T, s, SG, ch, img, kd1, D1, T1, s1, SG1, ch1, m, L, rd, nd, lk, hS, hC, hR⟩ := hI
  obtain rfl := hC.1
  have ecn := hC.2.2.2.2.1.1
  subst ecn
  have hz := hS.sz
  rcases arg_in p1 0 (szN n) (by omega) with ⟨i, -, hi, rfl⟩ | ho
  · unfold w_X10_as
    refine k_by hS hi ⟨fun _ => ?_, fun hc => absurd hc (by decide)⟩
    rcases arg_in p2 0 5 (by omega) with ⟨κ, -, hκ, rfl⟩ | ho2
    · have hkd := hS.2.1.1 i
      have ref : ∀ r : Int32, (r = if i < n then -1 else if asB (kd i) κ then nI i else -1) → w_X11_as mf mg ma (nI i) (nI κ) (fun r4 u3 => (r = r4 → JInv (j + 1) q n (szN n) ni bv bm ml (nI m) bt f t a b sg sL sf u3.1 u3.2.1 u3.2.2) ∧ (¬ r = r4 → False)) := by
        intro r hr
        unfold w_X11_as
        refine r_by hS hR hi ⟨fun _ => p_iny (a := 0) (b := 5) (by omega) hκ (by omega) rfl (by decide) ⟨fun _ J7 hJ7 J10 hJ10 => ?_, fun hc => absurd hc (by decide)⟩, fun hc => absurd hc (by decide)⟩
        have end1 : r = -1 → (r = -1 → JInv (j + 1) q n (szN n) ni bv bm ml (nI m) bt f t a b sg sL sf mf mg ma) ∧ (¬ r = -1 → False) := fun e => sameE e (mkJ hS.up hC hR)
        rcases Nat.lt_or_ge i n with g | g
        · rw [if_pos g] at hr
          have hall : ∀ x, J7 x := fun x => hJ7 x ⟨fun _ => end1 hr, fun _ => pk_lt i n (fun _ => end1 hr) (fun _ => by omega) rfl hR.1.1⟩
          exact ⟨fun _ => hJ10 (hall 1), fun _ => ⟨vp_in_nI (by omega) (by omega), fun _ => hJ10 (hall 1), fun _ J14 hJ14 => ⟨fun _ => hJ14 (hall 0), fun _ => ⟨vp_in_nI (by omega) (by omega), fun _ => hJ14 (hall 0), fun _ => hJ10 (hall 1)⟩⟩⟩⟩
        · rw [if_neg (by omega)] at hr
          have yes : asB (kd i) κ = true → J10 := fun hb => hJ10 (hJ7 1 ⟨fun hc => absurd hc (by decide), fun _ => pk_lt i n (fun _ => by omega) (fun _ => by
            rw [hb] at hr
            exact sameE hr (mkJ hS.up hC hR)) rfl hR.1.1⟩)
          have no : asB (kd i) κ = false → J7 0 := fun hb => hJ7 0 ⟨fun _ => by
            rw [hb] at hr
            exact end1 hr, fun hc => absurd rfl hc⟩
          show (nI κ = nI 0 → J10) ∧ (¬ nI κ = nI 0 → vp_in (nI i) 10 ∧ ((nI κ = ma 10 (nI i).toNatClampNeg → J10) ∧ (¬ nI κ = ma 10 (nI i).toNatClampNeg → ∀ J14 : Prop, (J7 0 → J14) → ((¬ nI κ = nI 3 → J14) ∧ (nI κ = nI 3 → vp_in (nI i) 10 ∧ ((¬ ma 10 (nI i).toNatClampNeg = nI 4 → J14) ∧ (ma 10 (nI i).toNatClampNeg = nI 4 → J10)))))))
          rw [nI_clamp (by omega), hR.1.2.2.1 i g hi, nI_eq (by omega) (by omega), nI_eq (by omega) (by omega), nI_eq (by omega) (by omega), nI_eq (by omega) (by omega)]
          refine ⟨fun e => yes (by simp [asB, e]), fun n0 => ⟨vp_in_nI (by omega) (by omega), fun e => yes (by simp [asB, e]), fun n1 J14 hJ14 => ⟨fun n3 => hJ14 (no (by simp [asB, n0, n1, n3])), fun e3 => ⟨vp_in_nI (by omega) (by omega), fun n4 => hJ14 (no (by simp [asB, n0, n1, n4])), fun e4 => yes (by simp [asB, e3, e4])⟩⟩⟩⟩
      refine k_wy (a := 0) (b := 5) (by omega) hκ (by omega) rfl (by decide) ⟨fun _ => ?_, fun hc => absurd hc (by decide)⟩
      rcases Nat.lt_or_ge i n with g | g
      · exact k_fy hS g ⟨fun _ => ref _ (by rw [if_pos g]), fun hc => absurd hc (by decide)⟩
      · refine k_fn hS (out_ge g (by omega)) ⟨fun hc => absurd rfl hc, fun _ => k_kindOf hS hC g hi (k_kind hkd rfl (k_isOf hkd hκ ?_))⟩
        cases hb : asB (kd i) κ with
        | true => exact ⟨fun _ => ref _ (by rw [if_neg (by omega), hb]; try rfl), fun hc => absurd hc (by decide)⟩
        | false => exact ⟨fun hc => absurd rfl hc, fun _ => ref _ (by rw [if_neg (by omega), hb]; try rfl)⟩
    · refine k_wn (a := 0) (b := 5) ho2 rfl (by decide) ⟨fun hc => absurd rfl hc, fun _ => ?_⟩
      unfold w_X11_as
      exact r_by hS hR hi ⟨fun _ => p_inn (a := 0) (b := 5) ho2 rfl (by decide) ⟨fun hc => absurd rfl hc, fun _ => same (mkJ hS.up hC hR)⟩, fun hc => absurd hc (by decide)⟩
  · unfold w_X10_as
    refine k_bn hS ho ⟨fun hc => absurd rfl hc, fun _ => ?_⟩
    unfold w_X11_as
    exact r_bn hS hR ho ⟨fun hc => absurd rfl hc, fun _ => same (mkJ hS.up hC hR)⟩
theorem s_makes : st_makes JInv := by
  intro j q n k ni bv bm ml cn bt f t a b sg sL sf mf mg ma hj hI p1 p2 p3
  obtain ⟨kd, D, T, s, SG, ch, img, kd1, D1, T1, s1, SG1, ch1, m, L, rd, nd, lk, hS, hC, hR⟩ := hI
  obtain rfl := hC.1
  have ecn := hC.2.2.2.2.1.1
  subst ecn
  have hz := hS.sz
  unfold w_X10_makes
  rcases arg_in p1 n (szN n) (by omega) with ⟨i, hi0, hi, rfl⟩ | ho
  · refine k_ay hS hi0 hi ⟨fun _ => ?_, fun hc => absurd hc (by decide)⟩
    rcases arg_in p2 0 10 (by omega) with ⟨l, -, hl, rfl⟩ | ho2
    · refine k_dy hl ⟨fun hc => absurd hc (by decide), fun _ => ?_⟩
      rcases arg_in p3 0 10 (by omega) with ⟨r, -, hr, rfl⟩ | ho3
      · refine k_dy hr ⟨fun _ => k_kindOf hS hC hi0 hi (k_kind (hS.2.1.1 i) rfl (k_made (hS.2.1.1 i) (by omega) (by omega) ?_)), fun hc => absurd hc (by decide)⟩
        unfold w_X11_makes
        refine r_uy hS hR hi0 hi ⟨fun _ => p_iny (a := 0) (b := 10) (by omega) hl (by omega) rfl (by decide) ⟨fun hc => absurd hc (by decide), fun _ => p_iny (a := 0) (b := 10) (by omega) hr (by omega) rfl (by decide) ⟨fun hc => absurd hc (by decide), fun _ => ⟨vp_in_nI (by omega) (by omega), ?_⟩⟩⟩, fun hc => absurd hc (by decide)⟩
        show w_X11_madeBy (ma 10 (nI i).toNatClampNeg) (nI l) (nI r) _
        rw [nI_clamp (by omega), hR.1.2.2.1 i hi0 hi]
        exact p_madeBy (hS.2.1.1 i) (by omega) (by omega) (same (mkJ hS.up hC hR))
      · refine k_dn ho3 ⟨fun hc => absurd rfl hc, fun _ => ?_⟩
        unfold w_X11_makes
        exact r_uy hS hR hi0 hi ⟨fun _ => p_iny (a := 0) (b := 10) (by omega) hl (by omega) rfl (by decide) ⟨fun hc => absurd hc (by decide), fun _ => p_inn (a := 0) (b := 10) ho3 rfl (by decide) ⟨fun _ => same (mkJ hS.up hC hR), fun hc => absurd rfl hc⟩⟩, fun hc => absurd hc (by decide)⟩
    · refine k_dn ho2 ⟨fun _ => ?_, fun hc => absurd rfl hc⟩
      unfold w_X11_makes
      exact r_uy hS hR hi0 hi ⟨fun _ => p_inn (a := 0) (b := 10) ho2 rfl (by decide) ⟨fun _ => same (mkJ hS.up hC hR), fun hc => absurd rfl hc⟩, fun hc => absurd hc (by decide)⟩
  · refine k_an hS ho ⟨fun hc => absurd rfl hc, fun _ => ?_⟩
    unfold w_X11_makes
    exact r_un hS hR ho ⟨fun hc => absurd rfl hc, fun _ => same (mkJ hS.up hC hR)⟩
