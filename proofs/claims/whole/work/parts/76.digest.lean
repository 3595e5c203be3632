/-! ===== the law's calls: the digest ===== -/
def dW (v : Nat → Int32) (h : Int64) : Nat → Int64
  | 0 => h
  | i + 1 => (31 : Int64) * dW v h i + (v i).toInt64
def hB (n : Nat) (kd D : Nat → Nat) (T : Nat → Int32) (s : Nat) (SG : Nat → Nat → Nat) : Nat → Int64
  | 0 => 1327
  | i + 1 => dW (fun w => brV n kd D T s SG i (nI w)) (hB n kd D T s SG i) 7
def odW (n : Nat) (kd : Nat → Nat) (T : Nat → Int32) (i w : Nat) : Int32 := nI (oddV (cnt (fitB n kd T) (10 ^ n)) (cnt (fitD n kd T i 3) (10 ^ n)) w)
def hF (n : Nat) (kd D : Nat → Nat) (T : Nat → Int32) (h : Int64) : Nat → Int64
  | 0 => h
  | i + 1 => (31 : Int64) * ((31 : Int64) * ((31 : Int64) * hF n kd D T h i + (swV n kd D i).toInt64) + (odW n kd T i 0).toInt64) + (odW n kd T i 1).toInt64
noncomputable def odV (n : Nat) (kd D : Nat → Nat) (w : Nat) : Int32 := nI (if w = 0 then topN n kd (dg n (bsV n kd D)) else bsV n kd D)
noncomputable def hO (n : Nat) (kd D : Nat → Nat) (T : Nat → Int32) (h : Int64) : Int64 := if n = 0 then h else (31 : Int64) * ((31 : Int64) * ((31 : Int64) * ((31 : Int64) * h + (odV n kd D 0).toInt64) + (odV n kd D 1).toInt64) + (nI (cnt (fitB n kd T) (10 ^ n))).toInt64) + (ftV n kd T 0).toInt64
noncomputable def hL (n : Nat) (kd D : Nat → Nat) (T : Nat → Int32) (s : Nat) (SG : Nat → Nat → Nat) (L : Nat → Nat) (i : Nat) : Int64 := dW (fun y => nI (L y)) (hO n kd D T (hF n kd D T (hB n kd D T s SG (szN n)) n)) i
noncomputable def hG (n : Nat) (kd D : Nat → Nat) (T : Nat → Int32) (s : Nat) (SG : Nat → Nat → Nat) (ch m : Nat) (L : Nat → Nat) (rd nd lk i : Nat) : Int64 := dW (fun w => ctV n kd D T s ch m rd nd lk (nI w)) (hL n kd D T s SG L m) i
section S6
variable {n : Nat} {kd : Nat → Nat} {D : Nat → Nat} {T : Nat → Int32} {s : Nat} {SG : Nat → Nat → Nat} {ch : Nat} {img : Bool} {kd1 : Nat → Nat} {D1 : Nat → Nat} {T1 : Nat → Int32} {s1 : Nat} {SG1 : Nat → Nat → Nat} {ch1 : Nat} {m : Nat} {L : Nat → Nat} {rd : Nat} {nd : Nat} {lk : Nat} {q : Nat → Nat} {k : Nat} {ni : Nat → Int32} {bv : Nat} {bm : Nat} {ml : Int32} {cn : Int32} {bt : Nat → Int32} {f : Nat → Int32} {t : Nat} {a : Nat → Nat → Int32} {b : Nat → Nat → Int32} {sg : Nat → Nat → Option Nat} {sL : List Nat} {sf : Nat → Nat → Int32} {j : Nat} {mf : Nat → Int32} {mg : Int64} {ma : Nat → Nat → Int32}
theorem k_hp2 {Q : Int32 → Unit → Prop} (hs : SOK n kd D T s SG ch img kd1 D1 T1 s1 SG1 ch1 m L rd nd lk j) (h : ∀ r, ((okN n ∧ r = 1) ∨ (n = 0 ∧ r = 0)) → Q r ()) : w_X10_hasPile n (szN n) q ni bv bm ml cn bt f t a b sg sL sf Q := k_hp hs (fun h1 => h _ (Or.inl ⟨h1, rfl⟩)) (fun h0 => h _ (Or.inr ⟨h0, rfl⟩))
theorem r_lk2 {Q : Int32 → MSt → Prop} (hs : SOK n kd D T s SG ch img kd1 D1 T1 s1 SG1 ch1 m L rd nd lk j) (hR : RIv n kd D T s SG ch img kd1 D1 T1 s1 SG1 ch1 m L rd nd lk mf ma) (h : ∀ r, ((okN n ∧ r = 0) ∨ (n = 0 ∧ r = 1)) → Q r (mf, mg, ma)) : w_X11_lacks mf mg ma Q := r_lk hs hR (fun h1 => h _ (Or.inl ⟨h1, rfl⟩)) (fun h0 => h _ (Or.inr ⟨h0, rfl⟩))
theorem c_digest {Q : Int64 → ((Nat → Int32) × Nat × (Nat → Nat → Int32)) → Prop} (hS : SOK n kd D T s SG ch img kd1 D1 T1 s1 SG1 ch1 m L rd nd lk j) (hC : CIv n kd D T s SG ch img kd1 D1 T1 s1 SG1 ch1 m L rd nd lk (szN n) ni bm cn bt f a b sg sL sf) (h : ∀ f' t' a', CIv n kd D T s SG ch img kd1 D1 T1 s1 SG1 ch1 m L rd nd lk (szN n) ni bm cn bt f' a' b sg sL sf → Q (hG n kd D T s SG ch m L rd nd lk 12) (f', t', a')) : w_X10_digest n (szN n) q ni bv bm ml cn bt f t a b sg sL sf Q := by
  have hz := hS.sz
  have hm := hS.2.2.2.2.1
  have hLI := hS.2.2.2.2.2.1
  have ecn := hC.2.2.2.2.1.1
  subst ecn
  unfold w_X10_digest
  intro X3 hX3
  have bricks : ∀ d i, i + d = szN n → X3 (hB n kd D T s SG i) (nI i) := by
    intro d
    induction d with
    | zero =>
      intro i hi
      obtain rfl : i = szN n := by omega
      refine hX3 _ _ (pk_le (szN n) (szN n) (fun _ => ?_) (fun h9 => absurd h9 (by omega)))
      intro X10 hX10
      have figs : ∀ d i f1 t1 a1, i + d = n → CIv n kd D T s SG ch img kd1 D1 T1 s1 SG1 ch1 m L rd nd lk (szN n) ni bm (nI m) bt f1 a1 b sg sL sf → X10 (hF n kd D T (hB n kd D T s SG (szN n)) i) (nI i) f1 t1 a1 := by
        intro d
        induction d with
        | zero =>
          intro i f1 t1 a1 hi hC1
          refine hX10 _ _ _ _ _ (pk_le n i (fun _ => ?_) (fun h9 => absurd h9 (by omega)))
          refine k_hp2 hS (fun r hr J18 hJ18 => ?_)
          have tail : ∀ f2 t2 a2, CIv n kd D T s SG ch img kd1 D1 T1 s1 SG1 ch1 m L rd nd lk (szN n) ni bm (nI m) bt f2 a2 b sg sL sf → J18 (hO n kd D T (hF n kd D T (hB n kd D T s SG (szN n)) n)) f2 t2 a2 := by
            intro f2 t2 a2 hC2
            refine hJ18 _ _ _ _ ?_
            intro X21 hX21
            have letters : ∀ d i, i + d = m → X21 (hL n kd D T s SG L i) (nI i) := by
              intro d
              induction d with
              | zero =>
                intro i hi
                refine hX21 _ _ (k_len (pk_le m i (fun _ => ?_) (fun h9 => absurd h9 (by omega))))
                intro X27 hX27
                have counts : ∀ d w, w + d = 12 → X27 (hG n kd D T s SG ch m L rd nd lk w) (nI w) := by
                  intro d
                  induction d with
                  | zero =>
                    intro w hw
                    refine hX27 _ _ (pk_le 12 w (fun _ => ?_) (fun h9 => absurd h9 (by omega)))
                    rw [show w = 12 by omega]
                    exact h f2 t2 a2 hC2
                  | succ d ihd =>
                    intro w hw
                    refine hX27 _ _ (pk_le 12 w (fun h9 => absurd h9 (by omega)) (fun _ => c_count hS hC2 (fun x31 e31 x32 e32 => ?_)))
                    rw [e31, e32, nI_1]
                    exact ihd (w + 1) (by omega)
                have := counts 12 0 (by omega)
                rw [show i = m by omega]
                exact this
              | succ d ihd =>
                intro i hi
                refine hX21 _ _ (k_len (pk_le m i (fun h9 => absurd h9 (by omega)) (fun _ => k_letterAt hC.2.2.2.2.1 hLI (by omega) (fun x35 e35 x36 e36 => ?_))))
                rw [e35, e36, nI_1]
                exact ihd (i + 1) (by omega)
            exact letters m 0 (by omega)
          rcases hr with ⟨hn, rfl⟩ | ⟨hn, rfl⟩
          · refine ⟨fun hc => absurd hc (by decide), fun _ => ?_⟩
            have hnl := hn.le
            refine c_order (w := 0) hS hC1 hn (by omega) (fun v1 x40 e40 => ?_)
            refine c_order (w := 1) hS hC1.g hn (by omega) (fun v2 x43 e43 => ?_)
            refine c_left hS hC1.g.g hn (fun f2 t2 a2 hC2 x46 e46 => ?_)
            refine c_fits (x := 0) hS hC2 hn (by omega) (fun f3 t3 a3 hC3 x49 e49 => ?_)
            have := tail f3 t3 a3 hC3
            unfold hO at this
            rw [if_neg (by omega)] at this
            rw [e49, e46, e43, e40, show i = n by omega]
            exact this
          · refine ⟨fun _ => ?_, fun hc => absurd rfl hc⟩
            have := tail f1 t1 a1 hC1
            unfold hO at this
            rw [if_pos hn] at this
            rw [show i = n by omega]
            exact this
        | succ d ihd =>
          intro i f1 t1 a1 hi hC1
          refine hX10 _ _ _ _ _ (pk_le n i (fun h9 => absurd h9 (by omega)) (fun _ => ?_))
          refine c_swing hS hC1 (by omega) (fun v1 x52 e52 => ?_)
          refine c_odds (d := 3) (w := 0) hS hC1.g (by omega) (by omega) (by omega) (fun f2 t2 a2 hC2 x55 e55 => ?_)
          refine c_odds (d := 3) (w := 1) hS hC2 (by omega) (by omega) (by omega) (fun f3 t3 a3 hC3 x58 e58 x59 e59 => ?_)
          rw [e59, nI_1, e58, e55, e52]
          exact ihd (i + 1) f3 t3 a3 (by omega) hC3
      exact figs n 0 f t a (by omega) hC
    | succ d ih =>
      intro i hi
      refine hX3 _ _ (pk_le (szN n) i (fun h9 => absurd h9 (by omega)) (fun _ => ?_))
      intro X62 hX62
      have whats : ∀ d w, w + d = 7 → X62 (dW (fun w => brV n kd D T s SG i (nI w)) (hB n kd D T s SG i) w) (nI w) := by
        intro d
        induction d with
        | zero =>
          intro w hw
          refine hX62 _ _ (pk_le 7 w (fun _ x64 e64 => ?_) (fun h9 => absurd h9 (by omega)))
          rw [e64, nI_1, show w = 7 by omega]
          exact ih (i + 1) (by omega)
        | succ d ihd =>
          intro w hw
          refine hX62 _ _ (pk_le 7 w (fun h9 => absurd h9 (by omega)) (fun _ => c_brick hS hC (by omega) (fun x67 e67 x68 e68 => ?_)))
          rw [e67, e68, nI_1]
          exact ihd (w + 1) (by omega)
      exact whats 7 0 (by omega)
  exact bricks (szN n) 0 (by omega)
theorem r_digest {Q : Int64 → MSt → Prop} (hS : SOK n kd D T s SG ch img kd1 D1 T1 s1 SG1 ch1 m L rd nd lk j) (hR : RIv n kd D T s SG ch img kd1 D1 T1 s1 SG1 ch1 m L rd nd lk mf ma) (h : ∀ g' a', RIv n kd D T s SG ch img kd1 D1 T1 s1 SG1 ch1 m L rd nd lk mf a' → Q (hG n kd D T s SG ch m L rd nd lk 12) (mf, g', a')) : w_X11_digest mf mg ma Q := by
  have hz := hS.sz
  have hm := hS.2.2.2.2.1
  unfold w_X11_digest
  intro X3 hX3
  have bricks : ∀ d i a1, i + d = szN n → RIv n kd D T s SG ch img kd1 D1 T1 s1 SG1 ch1 m L rd nd lk mf a1 → X3 (nI i) (mf, hB n kd D T s SG i, a1) := by
    intro d
    induction d with
    | zero =>
      intro i a1 hi hR1
      refine hX3 _ _ (pk_le (szN n) i (fun _ => ?_) (fun h9 => absurd h9 (by omega)) hR1.1.2.1 rfl)
      obtain rfl : i = szN n := by omega
      intro X7 hX7
      have figs : ∀ d i a1, i + d = n → RIv n kd D T s SG ch img kd1 D1 T1 s1 SG1 ch1 m L rd nd lk mf a1 → X7 (nI i) (mf, hF n kd D T (hB n kd D T s SG (szN n)) i, a1) := by
        intro d
        induction d with
        | zero =>
          intro i a1 hi hR1
          refine hX7 _ _ (pk_le n i (fun _ => ?_) (fun h9 => absurd h9 (by omega)) hR1.1.1 rfl)
          refine r_lk2 hS hR1 (fun r hr J12 hJ12 => ?_)
          have tail : ∀ a2, RIv n kd D T s SG ch img kd1 D1 T1 s1 SG1 ch1 m L rd nd lk mf a2 → J12 (mf, hO n kd D T (hF n kd D T (hB n kd D T s SG (szN n)) n), a2) := by
            intro a2 hR2
            refine hJ12 _ ?_
            intro X15 hX15
            have letters : ∀ d i, i + d = m → X15 (nI i) (mf, hL n kd D T s SG L i, a2) := by
              intro d
              induction d with
              | zero =>
                intro i hi
                refine hX15 _ _ (pk_le m i (fun _ => ?_) (fun h9 => absurd h9 (by omega)) hR2.2.2.2.2.2.2.1 rfl)
                intro X19 hX19
                have counts : ∀ d w a3, w + d = 12 → RIv n kd D T s SG ch img kd1 D1 T1 s1 SG1 ch1 m L rd nd lk mf a3 → X19 (nI w) (mf, hG n kd D T s SG ch m L rd nd lk w, a3) := by
                  intro d
                  induction d with
                  | zero =>
                    intro w a3 hw hR3
                    refine hX19 _ _ (pk_le 12 w (fun _ => ?_) (fun h9 => absurd h9 (by omega)))
                    obtain rfl : w = 12 := by omega
                    exact h _ a3 hR3
                  | succ d ihd =>
                    intro w a3 hw hR3
                    refine hX19 _ _ (pk_le 12 w (fun h9 => absurd h9 (by omega)) (fun _ => r_count hS hR3 (fun a4 hk4 x1 e1 x24 e24 => ?_)))
                    rw [e1, e24, nI_1]
                    exact ihd (w + 1) a4 (by omega) (hR3.kr hk4)
                have := counts 12 0 a2 (by omega) hR2
                rw [show i = m by omega]
                exact this
              | succ d ihd =>
                intro i hi
                refine hX15 _ _ (pk_le m i (fun h9 => absurd h9 (by omega)) (fun _ => ⟨vp_in_nI (by omega) (by omega), fun x1 e1 x27 e27 => ?_⟩) hR2.2.2.2.2.2.2.1 rfl)
                have e1' : x1 = hL n kd D T s SG L (i + 1) := by
                  rw [e1]
                  show (31 : Int64) * hL n kd D T s SG L i + (a2 0 (nI i).toNatClampNeg).toInt64 = _
                  rw [nI_clamp (by omega), hR2.2.2.2.2.2.2.2.1 i (by omega)]
                  rfl
                rw [e1', e27, nI_1]
                exact ihd (i + 1) (by omega)
            exact letters m 0 (by omega)
          rcases hr with ⟨hn, rfl⟩ | ⟨hn, rfl⟩
          · refine ⟨fun hc => absurd rfl hc, fun _ => ?_⟩
            have hnl := hn.le
            refine r_order (w := 0) hS hR1 hn (by omega) (fun a2 hk2 x1 e1 => ?_)
            have hR2 := hR1.kr hk2
            refine r_order (w := 1) hS hR2 hn (by omega) (fun a3 hk3 x2 e2 => ?_)
            have hR3 := hR2.kr hk3
            refine p_leftMany (hS.pi hn) hR3.1 (fun a4 hl4 x3 e3 => ?_)
            have hR4 := hR3.kr (hl4.kr (f := mf))
            refine r_fits (x := 0) hS hR4 hn (by omega) (fun a5 hk5 x4 e4 => ?_)
            have := tail a5 (hR4.kr hk5)
            unfold hO at this
            rw [if_neg (by omega)] at this
            rw [e4, e3, e2, e1, show i = n by omega]
            exact this
          · refine ⟨fun _ => ?_, fun hc => absurd hc (by decide)⟩
            have := tail a1 hR1
            unfold hO at this
            rw [if_pos hn] at this
            rw [show i = n by omega]
            exact this
        | succ d ihd =>
          intro i a1 hi hR1
          have hn := hS.ok' (show i < n by omega)
          refine hX7 _ _ (pk_le n i (fun h9 => absurd h9 (by omega)) (fun _ => ?_) hR1.1.1 rfl)
          refine p_swingOf (hS.pi hn) hR1.1 (by omega) (fun a2 hl2 x1 e1 => ?_)
          have hR2 := hR1.kr (hl2.kr (f := mf))
          refine p_oddsOf (d := 3) (w := 0) (hS.pi hn) hR2.1 (by omega) (by omega) (by omega) (fun a3 hl3 x2 e2 => ?_)
          have hR3 := hR2.kr (hl3.kr (f := mf))
          refine p_oddsOf (d := 3) (w := 1) (hS.pi hn) hR3.1 (by omega) (by omega) (by omega) (fun a4 hl4 x3 e3 x50 e50 => ?_)
          rw [e50, nI_1, e3, e2, e1]
          exact ihd (i + 1) a4 (by omega) (hR3.kr (hl4.kr (f := mf)))
      exact figs n 0 a1 (by omega) hR1
    | succ d ih =>
      intro i a1 hi hR1
      refine hX3 _ _ (pk_le (szN n) i (fun h9 => absurd h9 (by omega)) (fun _ => ?_) hR1.1.2.1 rfl)
      intro X53 hX53
      have whats : ∀ d w a2, w + d = 7 → RIv n kd D T s SG ch img kd1 D1 T1 s1 SG1 ch1 m L rd nd lk mf a2 → X53 (nI w) (mf, dW (fun w => brV n kd D T s SG i (nI w)) (hB n kd D T s SG i) w, a2) := by
        intro d
        induction d with
        | zero =>
          intro w a2 hw hR2
          refine hX53 _ _ (pk_le 7 w (fun _ x55 e55 => ?_) (fun h9 => absurd h9 (by omega)))
          obtain rfl : w = 7 := by omega
          rw [e55, nI_1]
          exact ih (i + 1) a2 (by omega) hR2
        | succ d ihd =>
          intro w a2 hw hR2
          refine hX53 _ _ (pk_le 7 w (fun h9 => absurd h9 (by omega)) (fun _ => r_tell hS hR2 (by omega) (fun a3 hk3 x1 e1 x59 e59 => ?_)))
          rw [e1, e59, nI_1]
          exact ihd (w + 1) a3 (by omega) (hR2.kr hk3)
      exact whats 7 0 a1 (by omega) hR1
  exact bricks (szN n) 0 ma (by omega) hR
end S6
theorem s_digest : st_digest JInv := by
  intro j q n k ni bv bm ml cn bt f t a b sg sL sf mf mg ma hj hI
  obtain ⟨kd, D, T, s, SG, ch, img, kd1, D1, T1, s1, SG1, ch1, m, L, rd, nd, lk, hS, hC, hR⟩ := hI
  obtain rfl := hC.1
  have ecn := hC.2.2.2.2.1.1
  subst ecn
  refine c_digest hS hC (fun f' t' a' hC' => ?_)
  refine r_digest hS hR (fun g' ma' hR' => ?_)
  exact ⟨fun _ => mkJ hS.up hC' hR', fun hc => hc ((lg_cmp_eq _ _).mpr rfl)⟩
