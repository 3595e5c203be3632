/-! new rows of bytes -/
section GB
variable {p : Program} {l : Launch} {e : Env} {R : Room} {s : State} {m : MethodId} {args : Array Value} {below : List Frame} {meth : Method} {c : Code} {H : Heap} {locs : List Loc} {cells slots : Nat} {Q : State → Prop}
variable {cc : ByteArray} {pc : Nat} {ls : Array Slot} {D : va_G} {cl : List vw_C} {A : Nat → Prop} {H0 : Heap} {tys : List (ClassId × FieldType)} {ws : va_W} {rest : List Value}
theorem g_newB {cY : ClassId} (hexec : p.tables.exec = Jvm.exec) (hb : c.code = cc) (harr : (Cond.arrayClass .byte).before args s = true) (hK : va_K D cl tys s) (t0 : Nat) (ht : tys[t0]? = some (cY, .byte)) (hP : va_P D cl ws H) (hD : va_D A ws) (hS : va_S A H0 H locs) (hA : ∀ q, H0.size ≤ q → A q)
    {n : Int32} {N' B : Nat} (hN : n = nI N') (hB : N' ≤ B) (hB2 : B ≤ 1000000) (hcells : cells + 1 ≤ R.cells) (hslots : slots + B ≤ R.slots) (hdg : decode cc pc = .ok (.newarray .byte, 2))
    (kk : ∀ (q : Nat) (H1 : Heap), va_P D cl (ws ++ [(q, .inl (cY, N', .inl (fun _ => 0)))]) H1 → va_D A (ws ++ [(q, .inl (cY, N', .inl (fun _ => 0)))]) → va_S A H0 H1 locs → W p l e R s m args below meth c H1 locs (cells + 1) (slots + B) Q (F0 m (pc + 2) ls (.ref q :: rest))) : W p l e R s m args below meth c H locs cells slots Q (F0 m pc ls (.int n :: rest)) := by
  subst hN
  refine va_newa (atype := .byte) hexec hb harr (ty := .byte) rfl hK hP hD hS hA (N' := N') (a0 := (N', .inl (fun _ => 0))) (fun cA => rfl) (nI_pos (by omega)) (nI_clamp (by omega)) (by show N' * 1 ≤ 536870912; omega) hcells (Nat.le_trans (by omega) hslots) hdg (fun q cA H1 hK' hP' hD' hS' => ?_)
  have h1 := (hK'.2 tys.length (cA, .byte) (by rw [List.getElem?_append_right (Nat.le_refl _)]; simp)).2
  have h2 := (hK.2 t0 _ ht).2
  have e : cA = cY := Option.some.inj ((va_nm_byte h1).symm.trans (va_nm_byte h2))
  subst e
  exact W.widen (Nat.le_refl _) (by omega) (kk q H1 hP' hD' hS')
end GB
