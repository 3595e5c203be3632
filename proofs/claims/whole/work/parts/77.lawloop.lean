/-! ===== the law: its loop over the script ===== -/
theorem JInv_up {j : Nat} {q : Nat → Nat} {n : Nat} {k : Nat} {ni : Nat → Int32} {bv : Nat} {bm : Nat} {ml : Int32} {cn : Int32} {bt : Nat → Int32} {f : Nat → Int32} {t : Nat} {a : Nat → Nat → Int32} {b : Nat → Nat → Int32} {sg : Nat → Nat → Option Nat} {sL : List Nat} {sf : Nat → Nat → Int32} {mf : Nat → Int32} {mg : Int64} {ma : Nat → Nat → Int32} (h : JInv j q n k ni bv bm ml cn bt f t a b sg sL sf mf mg ma) : JInv (j + 1) q n k ni bv bm ml cn bt f t a b sg sL sf mf mg ma := by
  obtain ⟨kd, D, T, s, SG, ch, img, kd1, D1, T1, s1, SG1, ch1, m, L, rd, nd, lk, hS, hC, hR⟩ := h
  exact ⟨kd, D, T, s, SG, ch, img, kd1, D1, T1, s1, SG1, ch1, m, L, rd, nd, lk, hS.up, hC, hR⟩
set_option maxHeartbeats 4000000 in
set_option maxRecDepth 100000 in
theorem lc_loop {p : Program} {l : Launch} {e : Env} {s : State} {m : MethodId} {args : Array Value} {below : List Frame} {meth : Method} {c : Code} {Q : State → Prop} {A : Nat → Prop} {dC : Nat → ClassId} {dI : Nat → Nat → Nat} {adK adV : Nat → Nat} {cI cB cS cY : ClassId} {np pg g : Nat} {qb : Nat → Nat} {mh : Nat} {mq : Nat → Nat} {sb0 L : Nat} {xs : Nat → Int32} (hC : lc_C p s m args c A dC dI adK adV cI cB cS cY sb0 L xs) (hend : ∀ {H : Heap} {locs : List Loc} {ls : Array Slot} {j : Nat}, j ≤ 512 → va_S A s.heap H locs → W p l e room_1 s m args below meth c H locs (1000 + 60 * j) (5000 + 2500 * j) Q (F0 m 827 ls [])) : ∀ (d j : Nat), 512 ≤ j + d → 5 * j ≤ L → ∀ {q : Nat → Nat} {n : Nat} {k : Nat} {ni : Nat → Int32} {bv : Nat} {bm : Nat} {ml : Int32} {cn : Int32} {bt : Nat → Int32} {f : Nat → Int32} {t : Nat} {a : Nat → Nat → Int32} {b : Nat → Nat → Int32} {sg : Nat → Nat → Option Nat} {sL : List Nat} {sf : Nat → Nat → Int32} {mf : Nat → Int32} {mg : Int64} {ma : Nat → Nat → Int32} {H : Heap} {locs : List Loc} {ls : Array Slot}, JInv j q n k ni bv bm ml cn bt f t a b sg sL sf mf mg ma → va_P (dC, dI) vwCl ((W_L adK adV cI cB cS cY np pg g q qb n k mh mq ni bv bm ml cn bt f t a b sg mf mg ma) ++ va_pl sL (sgF sf)) H → va_D A ((W_L adK adV cI cB cS cY np pg g q qb n k mh mq ni bv bm ml cn bt f t a b sg mf mg ma) ++ va_pl sL (sgF sf)) → va_S A s.heap H locs → lv_has ls 4 [(0, .ref sb0), (1, .ref np), (2, .ref mh), (3, .int (nI (5 * j)))] → W p l e room_1 s m args below meth c H locs (1000 + 60 * j) (5000 + 2500 * j) Q (F0 m 18 ls []) := by
  obtain ⟨hx, hb, hml, hown, hts, hK, hSX, hbl, hbA, hA, hZ, hL⟩ := id hC
  intro d
  induction d with
  | zero =>
    intro j hd hjl q n k ni bv bm ml cn bt f t a b sg sL sf mf mg ma H locs ls hI hP hD hS hl
    refine lv_iload_n hx hb dL_law_18 rfl (lv_at hl 3 rfl) ?_
    refine lv_aload_n hx hb dL_law_19 rfl (lv_at hl 0 rfl) ?_
    refine va_slen hx hb hSX hbl hbA hS dL_law_20 ?_
    refine lv_iconst (v := 5) hx hb dL_law_21 (by decide) ?_
    refine lv_isub hx hb dL_law_22 ?_
    refine lv_icmp_gt (tgt := 827) hx hb dL_law_23 (by decide) (fun hc => hend (by omega) hS) (fun hc => absurd ?_ hc)
    show nI L - nI 5 < nI (5 * j)
    rw [Int32.lt_iff_toInt_lt, pk_sub_toInt (by omega) (by omega), nI_toInt (by omega)]
    omega
  | succ d ih =>
    intro j hd hjl q n k ni bv bm ml cn bt f t a b sg sL sf mf mg ma H locs ls hI hP hD hS hl
    refine lv_iload_n hx hb dL_law_18 rfl (lv_at hl 3 rfl) ?_
    refine lv_aload_n hx hb dL_law_19 rfl (lv_at hl 0 rfl) ?_
    refine va_slen hx hb hSX hbl hbA hS dL_law_20 ?_
    refine lv_iconst (v := 5) hx hb dL_law_21 (by decide) ?_
    refine lv_isub hx hb dL_law_22 ?_
    refine lv_icmp_gt (tgt := 827) hx hb dL_law_23 (by decide) (fun hc => hend (by omega) hS) (fun hc => ?_)
    have hjL : 5 * j + 5 ≤ L := by
      rcases Nat.lt_or_ge L (5 * j + 5) with h9 | h9
      · refine absurd ?_ hc
        show nI L - nI 5 < nI (5 * j)
        rw [Int32.lt_iff_toInt_lt, pk_sub_toInt (by omega) (by omega), nI_toInt (by omega)]
        omega
      · exact h9
    have hj : j < 512 := by omega
    refine lv_aload_n hx hb dL_law_26 rfl (lv_at hl 0 rfl) ?_
    refine lv_iload_n hx hb dL_law_27 rfl (lv_at hl 3 rfl) ?_
    refine va_sld hx hb hSX hbl hbA hS (vp_in_nI (by omega) (by omega)) dL_law_28 ?_
    refine lv_bipush (v := 31) hx hb dL_law_29 (by decide) ?_
    refine lv_iand hx hb dL_law_31 ?_
    obtain ⟨r, hr, er⟩ := pk_andE (xs (nI (5 * j)).toNatClampNeg) (m := 31) 5 (by decide)
    rw [er]
    have hX : ∀ {q : Nat → Nat} {n : Nat} {k : Nat} {ni : Nat → Int32} {bv : Nat} {bm : Nat} {ml : Int32} {cn : Int32} {bt : Nat → Int32} {f : Nat → Int32} {t : Nat} {a : Nat → Nat → Int32} {b : Nat → Nat → Int32} {sg : Nat → Nat → Option Nat} {sL : List Nat} {sf : Nat → Nat → Int32} {mf : Nat → Int32} {mg : Int64} {ma : Nat → Nat → Int32} {H : Heap} {locs : List Loc} {ls : Array Slot}, JInv (j + 1) q n k ni bv bm ml cn bt f t a b sg sL sf mf mg ma → va_P (dC, dI) vwCl ((W_L adK adV cI cB cS cY np pg g q qb n k mh mq ni bv bm ml cn bt f t a b sg mf mg ma) ++ va_pl sL (sgF sf)) H → va_D A ((W_L adK adV cI cB cS cY np pg g q qb n k mh mq ni bv bm ml cn bt f t a b sg mf mg ma) ++ va_pl sL (sgF sf)) → va_S A s.heap H locs → lv_has ls 4 [(0, .ref sb0), (1, .ref np), (2, .ref mh), (3, .int (nI (5 * j)))] → W p l e room_1 s m args below meth c H locs (1000 + 60 * (j + 1)) (5000 + 2500 * (j + 1)) Q (F0 m 821 ls []) := by
      intro q n k ni bv bm ml cn bt f t a b sg sL sf mf mg ma H locs ls hI hP hD hS hl
      refine lv_iinc (k := 3) (v := nI (5 * (j + 1))) (lv' := [(3, .int (nI (5 * (j + 1)))), (0, .ref sb0), (1, .ref np), (2, .ref mh)]) hx hb dL_law_821 hl rfl ?_ (by decide) rfl (fun ls hl => ?_)
      · show nI (5 * j) + nI 5 = nI (5 * (j + 1))
        rw [nI_add]
        rfl
      refine lv_goto (tgt := 18) hx hb dL_law_824 (by decide) ?_
      exact ih (j + 1) (by omega) (by omega) hI hP hD hS (lv_sub hl [1, 2, 3, 0] rfl)
    rcases Nat.lt_or_ge r 26 with h26 | h26
    · rcases (show r = 0 ∨ r = 1 ∨ r = 2 ∨ r = 3 ∨ r = 4 ∨ r = 5 ∨ r = 6 ∨ r = 7 ∨ r = 8 ∨ r = 9 ∨ r = 10 ∨ r = 11 ∨ r = 12 ∨ r = 13 ∨ r = 14 ∨ r = 15 ∨ r = 16 ∨ r = 17 ∨ r = 18 ∨ r = 19 ∨ r = 20 ∨ r = 21 ∨ r = 22 ∨ r = 23 ∨ r = 24 ∨ r = 25 by omega) with rfl | rfl | rfl | rfl | rfl | rfl | rfl | rfl | rfl | rfl | rfl | rfl | rfl | rfl | rfl | rfl | rfl | rfl | rfl | rfl | rfl | rfl | rfl | rfl | rfl | rfl
      · refine lv_tableIn (tgt := 152) hx hb dL_law_32 (by decide) (by decide) rfl (by decide) ?_
        exact lc_letter hC hj rfl hjL hX s_letter hI hP hD hS hl
      · refine lv_tableIn (tgt := 175) hx hb dL_law_32 (by decide) (by decide) rfl (by decide) ?_
        exact lc_blank hC hj rfl hjL hX s_blank hI hP hD hS hl
      · refine lv_tableIn (tgt := 188) hx hb dL_law_32 (by decide) (by decide) rfl (by decide) ?_
        exact lc_fault hC hj rfl hjL hX s_fault hI hP hD hS hl
      · refine lv_tableIn (tgt := 201) hx hb dL_law_32 (by decide) (by decide) rfl (by decide) ?_
        exact lc_pile hC hj rfl hjL hX s_pile hI hP hD hS hl
      · refine lv_tableIn (tgt := 214) hx hb dL_law_32 (by decide) (by decide) rfl (by decide) ?_
        exact lc_brick hC hj rfl hjL hX s_brick hI hP hD hS hl
      · refine lv_tableIn (tgt := 247) hx hb dL_law_32 (by decide) (by decide) rfl (by decide) ?_
        exact lc_as hC hj rfl hjL hX s_as hI hP hD hS hl
      · refine lv_tableIn (tgt := 280) hx hb dL_law_32 (by decide) (by decide) rfl (by decide) ?_
        exact lc_makes hC hj rfl hjL hX s_makes hI hP hD hS hl
      · refine lv_tableIn (tgt := 323) hx hb dL_law_32 (by decide) (by decide) rfl (by decide) ?_
        exact lc_put hC hj rfl hjL hX s_put hI hP hD hS hl
      · refine lv_tableIn (tgt := 356) hx hb dL_law_32 (by decide) (by decide) rfl (by decide) ?_
        exact lc_exchange hC hj rfl hjL hX s_exchange hI hP hD hS hl
      · refine lv_tableIn (tgt := 389) hx hb dL_law_32 (by decide) (by decide) rfl (by decide) ?_
        exact lc_change hC hj rfl hjL hX s_change hI hP hD hS hl
      · refine lv_tableIn (tgt := 422) hx hb dL_law_32 (by decide) (by decide) rfl (by decide) ?_
        exact lc_tell hC hj rfl hjL hX s_tell hI hP hD hS hl
      · refine lv_tableIn (tgt := 455) hx hb dL_law_32 (by decide) (by decide) rfl (by decide) ?_
        exact lc_hush hC hj rfl hjL hX s_hush hI hP hD hS hl
      · refine lv_tableIn (tgt := 478) hx hb dL_law_32 (by decide) (by decide) rfl (by decide) ?_
        exact lc_swing hC hj rfl hjL hX s_swing hI hP hD hS hl
      · refine lv_tableIn (tgt := 501) hx hb dL_law_32 (by decide) (by decide) rfl (by decide) ?_
        exact lc_order hC hj rfl hjL hX s_order hI hP hD hS hl
      · refine lv_tableIn (tgt := 524) hx hb dL_law_32 (by decide) (by decide) rfl (by decide) ?_
        exact lc_need hC hj rfl hjL hX s_need hI hP hD hS hl
      · refine lv_tableIn (tgt := 557) hx hb dL_law_32 (by decide) (by decide) rfl (by decide) ?_
        exact lc_left hC hj rfl hjL hX s_left hI hP hD hS hl
      · refine lv_tableIn (tgt := 570) hx hb dL_law_32 (by decide) (by decide) rfl (by decide) ?_
        exact lc_fits hC hj rfl hjL hX s_fits hI hP hD hS hl
      · refine lv_tableIn (tgt := 593) hx hb dL_law_32 (by decide) (by decide) rfl (by decide) ?_
        exact lc_look hC hj rfl hjL hX s_look hI hP hD hS hl
      · refine lv_tableIn (tgt := 606) hx hb dL_law_32 (by decide) (by decide) rfl (by decide) ?_
        exact lc_odds hC hj rfl hjL hX s_odds hI hP hD hS hl
      · refine lv_tableIn (tgt := 649) hx hb dL_law_32 (by decide) (by decide) rfl (by decide) ?_
        exact lc_see hC hj rfl hjL hX s_see hI hP hD hS hl
      · refine lv_tableIn (tgt := 702) hx hb dL_law_32 (by decide) (by decide) rfl (by decide) ?_
        exact lc_forget hC hj rfl hjL hX s_forget hI hP hD hS hl
      · refine lv_tableIn (tgt := 715) hx hb dL_law_32 (by decide) (by decide) rfl (by decide) ?_
        exact lc_drawn hC hj rfl hjL hX s_drawn hI hP hD hS hl
      · refine lv_tableIn (tgt := 758) hx hb dL_law_32 (by decide) (by decide) rfl (by decide) ?_
        exact lc_image hC hj rfl hjL hX s_image hI hP hD hS hl
      · refine lv_tableIn (tgt := 771) hx hb dL_law_32 (by decide) (by decide) rfl (by decide) ?_
        exact lc_restore hC hj rfl hjL hX s_restore hI hP hD hS hl
      · refine lv_tableIn (tgt := 784) hx hb dL_law_32 (by decide) (by decide) rfl (by decide) ?_
        exact lc_count hC hj rfl hjL hX s_count hI hP hD hS hl
      · refine lv_tableIn (tgt := 807) hx hb dL_law_32 (by decide) (by decide) rfl (by decide) ?_
        exact lc_digest hC hj rfl hjL hX s_digest hI hP hD hS hl
    · have hr32 : r < 32 := hr
      refine lv_tableOut (tgt := 821) hx hb dL_law_32 (Or.inr (by rw [nI_toInt (by omega)]; omega)) (by decide) ?_
      refine W.widen (k := 1000 + 60 * (j + 1)) (n := 5000 + 2500 * (j + 1)) (by omega) (by omega) ?_
      exact hX (JInv_up hI) hP hD hS hl
