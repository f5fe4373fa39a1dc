section Step
variable {p : Program} {l : Launch} {e : Env} {R : Room} {s : State} {mi : MethodId} {args : Array Value} {below : List Frame} {meth : Method} {c : Code} {Q : State → Prop}
variable {D : va_G} {D7 : Nat → ClassId} {B0 : Nat} {E S0 : St} {α0 : Nat → Nat → Nat} {m : Nat} {v : Int32} {l9 : List Nat}
set_option maxHeartbeats 4000000 in
theorem st_newarray {ty : ArrayType} : StepOK p l e R s mi args below meth c Q D D7 B0 E S0 α0 m (.newarray ty, v, l9) := by
  intro pc α S lv st H locs ls lv2 st2 S2 C I hc hd h hR1 hR2 hF hLo k
  obtain ⟨hx, hb, hml, hown, hts, hK, hret, hlk, hB0, hnm, htr⟩ := C
  obtain ⟨wi, ro, eq, ext, hS, so, lo, lvo, gr, mn⟩ := I
  have hA : ∀ q : Nat, s.heap.size ≤ q → B0 ≤ q := fun q hq => Nat.le_trans hB0 hq
  have hdg : decode (mB m) pc = .ok (.newarray ty, 2) := of_decide_eq_true hd
  simp only [stp] at h
  replace h := pI_some h
  obtain ⟨x, st3, rfl, h⟩ := h
  split at h
  · rename_i hg
    cases h
    obtain ⟨hx0, hx1⟩ := hg
    have hxl : ix x < 65536 := ix_lt hx0 hx1
    have so3 := (List.forall_mem_cons.mp so).2
    simp only [chkI, Bool.and_eq_true, decide_eq_true_eq] at hc
    obtain ⟨⟨h1, h2⟩, h3⟩ := hc
    cases ty with
    | int =>
      have hkd : kd (g0 l9 0) = 1 := h2.trans rfl
      obtain ⟨hW, h20, h55⟩ := kd_isW (g0 l9 0) (by rw [hkd]; decide) (by rw [hkd]; decide)
      obtain ⟨L, hn, hL, hP, hD⟩ := wi
      refine va_newa (D := D) (cl := clL) (atype := .int) hx hb (hts _ (inW_mem h1)) rfl hK hP hD hS hA (N' := ix x) (a0 := (ix x, .inl (fun _ => 0))) (fun cA => rfl) (i32_nat hx0) rfl (Nat.le_trans (Nat.mul_le_mul_right _ (Nat.le_of_lt hxl)) (by decide)) (by have h7 : sN (nw S (g0 l9 0) (ix x) (ix x)) = sN S + 1 := rfl; have := mn.2.1; omega) (by have h7 : sM (nw S (g0 l9 0) (ix x) (ix x)) = sM S + ix x := rfl; have := mn.2.2; omega) hdg (fun q cA H1 hK1 hP1 hD1 hS1 => ?_)
      have hcA : cA = D7 1 := by
        have z1 := (hK1.2 7 (cA, .int) rfl).2
        have z2 := (hK.2 0 (D7 1, .int) rfl).2
        exact Option.some.inj (Eq.trans (Eq.symm z1) z2)
      subst hcA
      have he : (.inl (D7 1, ix x, .inl (fun _ => 0)) : va_E) = entE D7 (alp α (g0 l9 0) (sC S (g0 l9 0)) q) (nw S (g0 l9 0) (ix x) (ix x)) (g0 l9 0, sC S (g0 l9 0)) := by
        rw [entE_i (by omega) (by rw [hkd]; decide) (by rw [hkd]; decide) (by rw [hkd]; decide), hkd]
        congr 3
        · show _ = if g0 l9 0 = g0 l9 0 ∧ sC S (g0 l9 0) = sC S (g0 l9 0) then ix x else _
          simp
        · show _ = Sum.inl (clr S.1 (g0 l9 0) (sC S (g0 l9 0)) 0 (g0 l9 0) (sC S (g0 l9 0)))
          rw [nw_at]
      have gr2 : Grow α (alp α (g0 l9 0) (sC S (g0 l9 0)) q) S := grow_nw hW
      have fin := k (alp α (g0 l9 0) (sC S (g0 l9 0)) q) H1 locs ls ⟨WI.alloc hn hL ro hW he hP1 hD1, ro_nw ro hW, eqX_nw eq hW, ext.grow gr2 ro eq, hS1, List.forall_mem_cons.mpr ⟨Or.inl ⟨hW, by rw [sC_nw, if_pos rfl]; exact Nat.lt_succ_self _⟩, fun z hz => okv.mn Mn_nw (so3 z hz)⟩, lo.grow gr2 lvo, fun z hz => (lvo z hz).imp id (okv.mn Mn_nw), gr.tr mn gr2, mn.tr Mn_nw⟩
      simp only [List.map_cons] at fin
      rw [gr2.mp so3, show conc (alp α (g0 l9 0) (sC S (g0 l9 0)) q) (vr (g0 l9 0) (sC S (g0 l9 0))) = .ref q by simp [conc, alp]] at fin
      rw [show sN S - sN S0 + 1 = sN (nw S (g0 l9 0) (ix x) (ix x)) - sN S0 by have := mn.2.1; show _ = sN S + 1 - sN S0; omega, show sM S - sM S0 + ix x = sM (nw S (g0 l9 0) (ix x) (ix x)) - sM S0 by have := mn.2.2; show _ = sM S + ix x - sM S0; omega]
      exact fin
    | byte =>
      have hkd : kd (g0 l9 0) = 2 := h2.trans rfl
      obtain ⟨hW, h20, h55⟩ := kd_isW (g0 l9 0) (by rw [hkd]; decide) (by rw [hkd]; decide)
      obtain ⟨L, hn, hL, hP, hD⟩ := wi
      refine va_newa (D := D) (cl := clL) (atype := .byte) hx hb (hts _ (inW_mem h1)) rfl hK hP hD hS hA (N' := ix x) (a0 := (ix x, .inl (fun _ => 0))) (fun cA => rfl) (i32_nat hx0) rfl (Nat.le_trans (Nat.mul_le_mul_right _ (Nat.le_of_lt hxl)) (by decide)) (by have h7 : sN (nw S (g0 l9 0) (ix x) (ix x)) = sN S + 1 := rfl; have := mn.2.1; omega) (by have h7 : sM (nw S (g0 l9 0) (ix x) (ix x)) = sM S + ix x := rfl; have := mn.2.2; omega) hdg (fun q cA H1 hK1 hP1 hD1 hS1 => ?_)
      have hcA : cA = D7 2 := by
        have z1 := (hK1.2 7 (cA, .byte) rfl).2
        have z2 := (hK.2 1 (D7 2, .byte) rfl).2
        exact Option.some.inj (Eq.trans (Eq.symm z1) z2)
      subst hcA
      have he : (.inl (D7 2, ix x, .inl (fun _ => 0)) : va_E) = entE D7 (alp α (g0 l9 0) (sC S (g0 l9 0)) q) (nw S (g0 l9 0) (ix x) (ix x)) (g0 l9 0, sC S (g0 l9 0)) := by
        rw [entE_i (by omega) (by rw [hkd]; decide) (by rw [hkd]; decide) (by rw [hkd]; decide), hkd]
        congr 3
        · show _ = if g0 l9 0 = g0 l9 0 ∧ sC S (g0 l9 0) = sC S (g0 l9 0) then ix x else _
          simp
        · show _ = Sum.inl (clr S.1 (g0 l9 0) (sC S (g0 l9 0)) 0 (g0 l9 0) (sC S (g0 l9 0)))
          rw [nw_at]
      have gr2 : Grow α (alp α (g0 l9 0) (sC S (g0 l9 0)) q) S := grow_nw hW
      have fin := k (alp α (g0 l9 0) (sC S (g0 l9 0)) q) H1 locs ls ⟨WI.alloc hn hL ro hW he hP1 hD1, ro_nw ro hW, eqX_nw eq hW, ext.grow gr2 ro eq, hS1, List.forall_mem_cons.mpr ⟨Or.inl ⟨hW, by rw [sC_nw, if_pos rfl]; exact Nat.lt_succ_self _⟩, fun z hz => okv.mn Mn_nw (so3 z hz)⟩, lo.grow gr2 lvo, fun z hz => (lvo z hz).imp id (okv.mn Mn_nw), gr.tr mn gr2, mn.tr Mn_nw⟩
      simp only [List.map_cons] at fin
      rw [gr2.mp so3, show conc (alp α (g0 l9 0) (sC S (g0 l9 0)) q) (vr (g0 l9 0) (sC S (g0 l9 0))) = .ref q by simp [conc, alp]] at fin
      rw [show sN S - sN S0 + 1 = sN (nw S (g0 l9 0) (ix x) (ix x)) - sN S0 by have := mn.2.1; show _ = sN S + 1 - sN S0; omega, show sM S - sM S0 + ix x = sM (nw S (g0 l9 0) (ix x) (ix x)) - sM S0 by have := mn.2.2; show _ = sM S + ix x - sM S0; omega]
      exact fin
    | boolean =>
      have hkd : kd (g0 l9 0) = 3 := h2.trans rfl
      obtain ⟨hW, h20, h55⟩ := kd_isW (g0 l9 0) (by rw [hkd]; decide) (by rw [hkd]; decide)
      obtain ⟨L, hn, hL, hP, hD⟩ := wi
      refine va_newa (D := D) (cl := clL) (atype := .boolean) hx hb (hts _ (inW_mem h1)) rfl hK hP hD hS hA (N' := ix x) (a0 := (ix x, .inl (fun _ => 0))) (fun cA => rfl) (i32_nat hx0) rfl (Nat.le_trans (Nat.mul_le_mul_right _ (Nat.le_of_lt hxl)) (by decide)) (by have h7 : sN (nw S (g0 l9 0) (ix x) (ix x)) = sN S + 1 := rfl; have := mn.2.1; omega) (by have h7 : sM (nw S (g0 l9 0) (ix x) (ix x)) = sM S + ix x := rfl; have := mn.2.2; omega) hdg (fun q cA H1 hK1 hP1 hD1 hS1 => ?_)
      have hcA : cA = D7 3 := by
        have z1 := (hK1.2 7 (cA, .boolean) rfl).2
        have z2 := (hK.2 2 (D7 3, .boolean) rfl).2
        exact Option.some.inj (Eq.trans (Eq.symm z1) z2)
      subst hcA
      have he : (.inl (D7 3, ix x, .inl (fun _ => 0)) : va_E) = entE D7 (alp α (g0 l9 0) (sC S (g0 l9 0)) q) (nw S (g0 l9 0) (ix x) (ix x)) (g0 l9 0, sC S (g0 l9 0)) := by
        rw [entE_i (by omega) (by rw [hkd]; decide) (by rw [hkd]; decide) (by rw [hkd]; decide), hkd]
        congr 3
        · show _ = if g0 l9 0 = g0 l9 0 ∧ sC S (g0 l9 0) = sC S (g0 l9 0) then ix x else _
          simp
        · show _ = Sum.inl (clr S.1 (g0 l9 0) (sC S (g0 l9 0)) 0 (g0 l9 0) (sC S (g0 l9 0)))
          rw [nw_at]
      have gr2 : Grow α (alp α (g0 l9 0) (sC S (g0 l9 0)) q) S := grow_nw hW
      have fin := k (alp α (g0 l9 0) (sC S (g0 l9 0)) q) H1 locs ls ⟨WI.alloc hn hL ro hW he hP1 hD1, ro_nw ro hW, eqX_nw eq hW, ext.grow gr2 ro eq, hS1, List.forall_mem_cons.mpr ⟨Or.inl ⟨hW, by rw [sC_nw, if_pos rfl]; exact Nat.lt_succ_self _⟩, fun z hz => okv.mn Mn_nw (so3 z hz)⟩, lo.grow gr2 lvo, fun z hz => (lvo z hz).imp id (okv.mn Mn_nw), gr.tr mn gr2, mn.tr Mn_nw⟩
      simp only [List.map_cons] at fin
      rw [gr2.mp so3, show conc (alp α (g0 l9 0) (sC S (g0 l9 0)) q) (vr (g0 l9 0) (sC S (g0 l9 0))) = .ref q by simp [conc, alp]] at fin
      rw [show sN S - sN S0 + 1 = sN (nw S (g0 l9 0) (ix x) (ix x)) - sN S0 by have := mn.2.1; show _ = sN S + 1 - sN S0; omega, show sM S - sM S0 + ix x = sM (nw S (g0 l9 0) (ix x) (ix x)) - sM S0 by have := mn.2.2; show _ = sM S + ix x - sM S0; omega]
      exact fin
    | char =>
      have hkd : kd (g0 l9 0) = 4 := h2.trans rfl
      obtain ⟨hW, h20, h55⟩ := kd_isW (g0 l9 0) (by rw [hkd]; decide) (by rw [hkd]; decide)
      obtain ⟨L, hn, hL, hP, hD⟩ := wi
      refine va_newa (D := D) (cl := clL) (atype := .char) hx hb (hts _ (inW_mem h1)) rfl hK hP hD hS hA (N' := ix x) (a0 := (ix x, .inl (fun _ => 0))) (fun cA => rfl) (i32_nat hx0) rfl (Nat.le_trans (Nat.mul_le_mul_right _ (Nat.le_of_lt hxl)) (by decide)) (by have h7 : sN (nw S (g0 l9 0) (ix x) (ix x)) = sN S + 1 := rfl; have := mn.2.1; omega) (by have h7 : sM (nw S (g0 l9 0) (ix x) (ix x)) = sM S + ix x := rfl; have := mn.2.2; omega) hdg (fun q cA H1 hK1 hP1 hD1 hS1 => ?_)
      have hcA : cA = D7 4 := by
        have z1 := (hK1.2 7 (cA, .char) rfl).2
        have z2 := (hK.2 3 (D7 4, .char) rfl).2
        exact Option.some.inj (Eq.trans (Eq.symm z1) z2)
      subst hcA
      have he : (.inl (D7 4, ix x, .inl (fun _ => 0)) : va_E) = entE D7 (alp α (g0 l9 0) (sC S (g0 l9 0)) q) (nw S (g0 l9 0) (ix x) (ix x)) (g0 l9 0, sC S (g0 l9 0)) := by
        rw [entE_i (by omega) (by rw [hkd]; decide) (by rw [hkd]; decide) (by rw [hkd]; decide), hkd]
        congr 3
        · show _ = if g0 l9 0 = g0 l9 0 ∧ sC S (g0 l9 0) = sC S (g0 l9 0) then ix x else _
          simp
        · show _ = Sum.inl (clr S.1 (g0 l9 0) (sC S (g0 l9 0)) 0 (g0 l9 0) (sC S (g0 l9 0)))
          rw [nw_at]
      have gr2 : Grow α (alp α (g0 l9 0) (sC S (g0 l9 0)) q) S := grow_nw hW
      have fin := k (alp α (g0 l9 0) (sC S (g0 l9 0)) q) H1 locs ls ⟨WI.alloc hn hL ro hW he hP1 hD1, ro_nw ro hW, eqX_nw eq hW, ext.grow gr2 ro eq, hS1, List.forall_mem_cons.mpr ⟨Or.inl ⟨hW, by rw [sC_nw, if_pos rfl]; exact Nat.lt_succ_self _⟩, fun z hz => okv.mn Mn_nw (so3 z hz)⟩, lo.grow gr2 lvo, fun z hz => (lvo z hz).imp id (okv.mn Mn_nw), gr.tr mn gr2, mn.tr Mn_nw⟩
      simp only [List.map_cons] at fin
      rw [gr2.mp so3, show conc (alp α (g0 l9 0) (sC S (g0 l9 0)) q) (vr (g0 l9 0) (sC S (g0 l9 0))) = .ref q by simp [conc, alp]] at fin
      rw [show sN S - sN S0 + 1 = sN (nw S (g0 l9 0) (ix x) (ix x)) - sN S0 by have := mn.2.1; show _ = sN S + 1 - sN S0; omega, show sM S - sM S0 + ix x = sM (nw S (g0 l9 0) (ix x) (ix x)) - sM S0 by have := mn.2.2; show _ = sM S + ix x - sM S0; omega]
      exact fin
    | long =>
      have hkd : kd (g0 l9 0) = 5 := h2.trans rfl
      obtain ⟨hW, h20, h55⟩ := kd_isW (g0 l9 0) (by rw [hkd]; decide) (by rw [hkd]; decide)
      obtain ⟨L, hn, hL, hP, hD⟩ := wi
      refine va_newa (D := D) (cl := clL) (atype := .long) hx hb (hts _ (inW_mem h1)) rfl hK hP hD hS hA (N' := ix x) (a0 := (ix x, .inr (.inl (fun _ => 0)))) (fun cA => rfl) (i32_nat hx0) rfl (Nat.le_trans (Nat.mul_le_mul_right _ (Nat.le_of_lt hxl)) (by decide)) (by have h7 : sN (nw S (g0 l9 0) (ix x) (ix x)) = sN S + 1 := rfl; have := mn.2.1; omega) (by have h7 : sM (nw S (g0 l9 0) (ix x) (ix x)) = sM S + ix x := rfl; have := mn.2.2; omega) hdg (fun q cA H1 hK1 hP1 hD1 hS1 => ?_)
      have hcA : cA = D7 5 := by
        have z1 := (hK1.2 7 (cA, .long) rfl).2
        have z2 := (hK.2 4 (D7 5, .long) rfl).2
        exact Option.some.inj (Eq.trans (Eq.symm z1) z2)
      subst hcA
      have he : (.inl (D7 5, ix x, .inr (.inl (fun _ => 0))) : va_E) = entE D7 (alp α (g0 l9 0) (sC S (g0 l9 0)) q) (nw S (g0 l9 0) (ix x) (ix x)) (g0 l9 0, sC S (g0 l9 0)) := by
        rw [entE_l (by omega) hkd]
        congr 3
        · show _ = if g0 l9 0 = g0 l9 0 ∧ sC S (g0 l9 0) = sC S (g0 l9 0) then ix x else _
          simp
        · show _ = Sum.inr (Sum.inl (clr S.2.2.1 (g0 l9 0) (sC S (g0 l9 0)) 0 (g0 l9 0) (sC S (g0 l9 0))))
          rw [nw_at]
      have gr2 : Grow α (alp α (g0 l9 0) (sC S (g0 l9 0)) q) S := grow_nw hW
      have fin := k (alp α (g0 l9 0) (sC S (g0 l9 0)) q) H1 locs ls ⟨WI.alloc hn hL ro hW he hP1 hD1, ro_nw ro hW, eqX_nw eq hW, ext.grow gr2 ro eq, hS1, List.forall_mem_cons.mpr ⟨Or.inl ⟨hW, by rw [sC_nw, if_pos rfl]; exact Nat.lt_succ_self _⟩, fun z hz => okv.mn Mn_nw (so3 z hz)⟩, lo.grow gr2 lvo, fun z hz => (lvo z hz).imp id (okv.mn Mn_nw), gr.tr mn gr2, mn.tr Mn_nw⟩
      simp only [List.map_cons] at fin
      rw [gr2.mp so3, show conc (alp α (g0 l9 0) (sC S (g0 l9 0)) q) (vr (g0 l9 0) (sC S (g0 l9 0))) = .ref q by simp [conc, alp]] at fin
      rw [show sN S - sN S0 + 1 = sN (nw S (g0 l9 0) (ix x) (ix x)) - sN S0 by have := mn.2.1; show _ = sN S + 1 - sN S0; omega, show sM S - sM S0 + ix x = sM (nw S (g0 l9 0) (ix x) (ix x)) - sM S0 by have := mn.2.2; show _ = sM S + ix x - sM S0; omega]
      exact fin
    | double =>
      have hkd : kd (g0 l9 0) = 6 := h2.trans rfl
      obtain ⟨hW, h20, h55⟩ := kd_isW (g0 l9 0) (by rw [hkd]; decide) (by rw [hkd]; decide)
      obtain ⟨L, hn, hL, hP, hD⟩ := wi
      refine va_newa (D := D) (cl := clL) (atype := .double) hx hb (hts _ (inW_mem h1)) rfl hK hP hD hS hA (N' := ix x) (a0 := (ix x, .inr (.inr (.inr (.inl (fun _ => 0)))))) (fun cA => rfl) (i32_nat hx0) rfl (Nat.le_trans (Nat.mul_le_mul_right _ (Nat.le_of_lt hxl)) (by decide)) (by have h7 : sN (nw S (g0 l9 0) (ix x) (ix x)) = sN S + 1 := rfl; have := mn.2.1; omega) (by have h7 : sM (nw S (g0 l9 0) (ix x) (ix x)) = sM S + ix x := rfl; have := mn.2.2; omega) hdg (fun q cA H1 hK1 hP1 hD1 hS1 => ?_)
      have hcA : cA = D7 6 := by
        have z1 := (hK1.2 7 (cA, .double) rfl).2
        have z2 := (hK.2 5 (D7 6, .double) rfl).2
        exact Option.some.inj (Eq.trans (Eq.symm z1) z2)
      subst hcA
      have he : (.inl (D7 6, ix x, .inr (.inr (.inr (.inl (fun _ => 0))))) : va_E) = entE D7 (alp α (g0 l9 0) (sC S (g0 l9 0)) q) (nw S (g0 l9 0) (ix x) (ix x)) (g0 l9 0, sC S (g0 l9 0)) := by
        rw [entE_d (by omega) hkd]
        congr 3
        · show _ = if g0 l9 0 = g0 l9 0 ∧ sC S (g0 l9 0) = sC S (g0 l9 0) then ix x else _
          simp
        · show _ = Sum.inr (Sum.inr (Sum.inr (Sum.inl (clr S.2.2.2.1 (g0 l9 0) (sC S (g0 l9 0)) 0 (g0 l9 0) (sC S (g0 l9 0))))))
          rw [nw_at]
      have gr2 : Grow α (alp α (g0 l9 0) (sC S (g0 l9 0)) q) S := grow_nw hW
      have fin := k (alp α (g0 l9 0) (sC S (g0 l9 0)) q) H1 locs ls ⟨WI.alloc hn hL ro hW he hP1 hD1, ro_nw ro hW, eqX_nw eq hW, ext.grow gr2 ro eq, hS1, List.forall_mem_cons.mpr ⟨Or.inl ⟨hW, by rw [sC_nw, if_pos rfl]; exact Nat.lt_succ_self _⟩, fun z hz => okv.mn Mn_nw (so3 z hz)⟩, lo.grow gr2 lvo, fun z hz => (lvo z hz).imp id (okv.mn Mn_nw), gr.tr mn gr2, mn.tr Mn_nw⟩
      simp only [List.map_cons] at fin
      rw [gr2.mp so3, show conc (alp α (g0 l9 0) (sC S (g0 l9 0)) q) (vr (g0 l9 0) (sC S (g0 l9 0))) = .ref q by simp [conc, alp]] at fin
      rw [show sN S - sN S0 + 1 = sN (nw S (g0 l9 0) (ix x) (ix x)) - sN S0 by have := mn.2.1; show _ = sN S + 1 - sN S0; omega, show sM S - sM S0 + ix x = sM (nw S (g0 l9 0) (ix x) (ix x)) - sM S0 by have := mn.2.2; show _ = sM S + ix x - sM S0; omega]
      exact fin
    | _ => exact absurd rfl h3
  · cases h
set_option maxHeartbeats 4000000 in
theorem st_anewarray {n : Nat} : StepOK p l e R s mi args below meth c Q D D7 B0 E S0 α0 m (.anewarray n, v, l9) := by
  intro pc α S lv st H locs ls lv2 st2 S2 C I hc hd h hR1 hR2 hF hLo k
  obtain ⟨hx, hb, hml, hown, hts, hK, hret, hlk, hB0, hnm, htr⟩ := C
  obtain ⟨wi, ro, eq, ext, hS, so, lo, lvo, gr, mn⟩ := I
  have hA : ∀ q : Nat, s.heap.size ≤ q → B0 ≤ q := fun q hq => Nat.le_trans hB0 hq
  have hdg : decode (mB m) pc = .ok (.anewarray n, 3) := of_decide_eq_true hd
  simp only [stp] at h
  replace h := pI_some h
  obtain ⟨x, st3, rfl, h⟩ := h
  split at h
  · rename_i hg
    cases h
    obtain ⟨hx0, hx1⟩ := hg
    have hxl : ix x < 65536 := ix_lt hx0 hx1
    have so3 := (List.forall_mem_cons.mp so).2
    simp only [chkI, Bool.and_eq_true, decide_eq_true_eq] at hc
    obtain ⟨⟨h1, h2⟩, h3⟩ := hc
    rw [h3] at k
    obtain ⟨L, hn, hL, hP, hD⟩ := wi
    refine va_newq (D := D) (cl := clL) (C := "SighGranary$Data") hx hb hown (hts _ (inW_mem h1)) ext.2.2.2.2.2.2.2.2 hK hP hD hS hA (N' := ix x) (i32_nat hx0) rfl (by omega) (by have := hR1; rw [h3] at this; have := mn.2.1; have : sN (nw S 32 (ix x) (ix x)) = sN S + 1 := rfl; omega) (by have := hR2; rw [h3] at this; have := mn.2.2; have : sM (nw S 32 (ix x) (ix x)) = sM S + ix x := rfl; omega) hdg (fun q cA H1 hK1 hP1 hD1 hS1 => ?_)
    have hcA : cA = D7 7 := by
      obtain ⟨_, _, -, -, -, z1⟩ := (hK1.2 7 (cA, .object "SighGranary$Data") rfl).2
      obtain ⟨_, _, -, -, -, z2⟩ := (hK.2 6 (D7 7, .object "SighGranary$Data") rfl).2
      exact Option.some.inj (z1.symm.trans z2)
    subst hcA
    have hW : isW 32 = true := rfl
    have he : (.inl (D7 7, ix x, .inr (.inr (.inr (.inr (fun _ => none))))) : va_E) = entE D7 (alp α 32 (sC S 32) q) (nw S 32 (ix x) (ix x)) (32, sC S 32) := by
      rw [entE_q (by decide) rfl]
      congr 3
      · show _ = if (32 : Nat) = 32 ∧ sC S 32 = sC S 32 then ix x else _
        simp
      · congr 4
        funext j
        show _ = rfo _ (clr S.2.1 32 (sC S 32) (.inl .null) 32 (sC S 32) j)
        rw [nw_at]
        rfl
    have gr2 : Grow α (alp α 32 (sC S 32) q) S := grow_nw hW
    have fin := k (alp α 32 (sC S 32) q) H1 locs ls ⟨WI.alloc hn hL ro hW he hP1 hD1, ro_nw ro hW, eqX_nw eq hW, ext.grow gr2 ro eq, hS1, List.forall_mem_cons.mpr ⟨Or.inl ⟨hW, by rw [sC_nw, if_pos rfl]; exact Nat.lt_succ_self _⟩, fun z hz => okv.mn Mn_nw (so3 z hz)⟩, lo.grow gr2 lvo, fun z hz => (lvo z hz).imp id (okv.mn Mn_nw), gr.tr mn gr2, mn.tr Mn_nw⟩
    simp only [List.map_cons] at fin
    rw [gr2.mp so3, show conc (alp α 32 (sC S 32) q) (vr 32 (sC S 32)) = .ref q by simp [conc, alp]] at fin
    rw [show sN S - sN S0 + 1 = sN (nw S 32 (ix x) (ix x)) - sN S0 by have := mn.2.1; show _ = sN S + 1 - sN S0; omega, show sM S - sM S0 + ix x = sM (nw S 32 (ix x) (ix x)) - sM S0 by have := mn.2.2; show _ = sM S + ix x - sM S0; omega]
    exact fin
  · cases h
set_option maxHeartbeats 4000000 in
theorem st_new {n : Nat} (hv : v = 0) : StepOK p l e R s mi args below meth c Q D D7 B0 E S0 α0 m (.new n, v, l9) := by
  intro pc α S lv st H locs ls lv2 st2 S2 C I hc hd h hR1 hR2 hF hLo k
  obtain ⟨hx, hb, hml, hown, hts, hK, hret, hlk, hB0, hnm, htr⟩ := C
  obtain ⟨wi, ro, eq, ext, hS, so, lo, lvo, gr, mn⟩ := I
  have hA : ∀ q : Nat, s.heap.size ≤ q → B0 ≤ q := fun q hq => Nat.le_trans hB0 hq
  have hdg : decode (mB m) pc = .ok (.new n, 3) := of_decide_eq_true hd
  simp only [stp] at h
  cases h
  simp only [chkI] at hc
  rw [if_pos hv] at hc
  split at hc
  · rename_i cq hq
    simp only [Bool.and_eq_true, decide_eq_true_eq] at hc
    obtain ⟨⟨⟨h1, h2⟩, h3⟩, h4⟩ := hc
    have ht := cl_lt hq
    have hW := cl_isW ht
    obtain ⟨f1, f2, f3, f4⟩ := cls_fact hq
    obtain ⟨L, hn, hL, hP, hD⟩ := wi
    rw [h4] at k hR1 hR2
    refine va_new (D := D) (cl := clL) (ci := g0 l9 0) (C := cq.1) (T := cq.2.1) (N := cq.2.2) (fs := (List.range cq.2.2).map (fun j => if refF (g0 l9 0) j = true then .null else .int 0)) hx hb hts f1 _ f2 hown (hts _ (inW_mem h1)) (hts _ (inW_mem h2)) (hts _ (inW_mem h3)) hK hP hD hS hA hq (fun j hj => by rw [f4 j hj]; simp [vp_V, hj]) (by have := mn.2.1; have : sN (nw S (g0 l9 0) 0 cq.2.2) = sN S + 1 := rfl; omega) (by have := mn.2.2; have : sM (nw S (g0 l9 0) 0 cq.2.2) = sM S + cq.2.2 := rfl; omega) hdg (fun q H1 hP1 hD1 hS1 => ?_)
    have he : (.inr (g0 l9 0, (List.range cq.2.2).map (fun j => if refF (g0 l9 0) j = true then .null else .int 0)) : va_E) = entE D7 (alp α (g0 l9 0) (sC S (g0 l9 0)) q) (nw S (g0 l9 0) 0 cq.2.2) (g0 l9 0, sC S (g0 l9 0)) := by
      rw [entE_o ht, nF_eq hq]
      congr 2
      apply List.map_congr_left
      intro j _
      unfold fldV
      rw [show sR (nw S (g0 l9 0) 0 cq.2.2) (g0 l9 0) (sC S (g0 l9 0)) j = .inl .null from congrFun (nw_at S.2.1 (sC S (g0 l9 0)) _) j, show sI (nw S (g0 l9 0) 0 cq.2.2) (g0 l9 0) (sC S (g0 l9 0)) j = 0 from congrFun (nw_at S.1 (sC S (g0 l9 0)) _) j]
      rfl
    have gr2 : Grow α (alp α (g0 l9 0) (sC S (g0 l9 0)) q) S := grow_nw hW
    have fin := k (alp α (g0 l9 0) (sC S (g0 l9 0)) q) H1 locs ls ⟨WI.alloc hn hL ro hW he hP1 hD1, ro_nw ro hW, eqX_nw eq hW, ext.grow gr2 ro eq, hS1, List.forall_mem_cons.mpr ⟨Or.inl ⟨hW, by rw [sC_nw, if_pos rfl]; exact Nat.lt_succ_self _⟩, fun z hz => okv.mn Mn_nw (so z hz)⟩, lo.grow gr2 lvo, fun z hz => (lvo z hz).imp id (okv.mn Mn_nw), gr.tr mn gr2, mn.tr Mn_nw⟩
    simp only [List.map_cons] at fin
    rw [gr2.mp so, show conc (alp α (g0 l9 0) (sC S (g0 l9 0)) q) (vr (g0 l9 0) (sC S (g0 l9 0))) = .ref q by simp [conc, alp]] at fin
    rw [show sN S - sN S0 + 1 = sN (nw S (g0 l9 0) 0 cq.2.2) - sN S0 by have := mn.2.1; show _ = sN S + 1 - sN S0; omega, show sM S - sM S0 + cq.2.2 = sM (nw S (g0 l9 0) 0 cq.2.2) - sM S0 by have := mn.2.2; show _ = sM S + cq.2.2 - sM S0; omega]
    exact fin
  · cases hc
set_option maxHeartbeats 4000000 in
theorem st_invokestatic {n : Nat} (hv : v = 1) : StepOK p l e R s mi args below meth c Q D D7 B0 E S0 α0 m (.invokestatic n, v, l9) := by
  intro pc α S lv st H locs ls lv2 st2 S2 C I hc hd h hR1 hR2 hF hLo k
  obtain ⟨hx, hb, hml, hown, hts, hK, hret, hlk, hB0, hnm, htr⟩ := C
  obtain ⟨wi, ro, eq, ext, hS, so, lo, lvo, gr, mn⟩ := I
  have hA : ∀ q : Nat, s.heap.size ≤ q → B0 ≤ q := fun q hq => Nat.le_trans hB0 hq
  have hdg : decode (mB m) pc = .ok (.invokestatic n, 3) := of_decide_eq_true hd
  simp only [stp] at h
  split at h
  · rename_i n9 dp t2 i2 sp t i st3
    split at h
    · rename_i hg
      cases h
      obtain ⟨g1, g2, g3, g4, g5, g6, g7⟩ := hg
      simp only [chkI] at hc
      rw [if_pos hv] at hc
      simp only [Bool.and_eq_true] at hc
      obtain ⟨⟨⟨h1, h2⟩, h3⟩, h4⟩ := hc
      obtain ⟨-, so⟩ := List.forall_mem_cons.mp so
      obtain ⟨-, so⟩ := List.forall_mem_cons.mp so
      obtain ⟨so2, so⟩ := List.forall_mem_cons.mp so
      obtain ⟨-, so⟩ := List.forall_mem_cons.mp so
      obtain ⟨so1, so⟩ := List.forall_mem_cons.mp so
      have hlo : ((st2.map (conc α)).map fun v => v.category).sum + (nativeFrameWords "java/lang/System" "arraycopy" 5 + 11) ≤ R.locals := by
        rw [catS_map]
        have : nativeFrameWords "java/lang/System" "arraycopy" 5 ≤ 100 := by decide +kernel
        omega
      have fin : ∀ (kv : Nat) (ty : FieldType) (t0 : Nat), kd t = kv → kd t2 = kv → kv ≠ 0 → kv < 5 → (tys D7)[t0]? = some (D7 kv, ty) → refKind ty = false → (∀ j, j < ix n9 → fits ty (.int (sI S t i (ix sp + j))) = true) → W p l e R s mi args below meth c H locs (sN S - sN S0) (sM S - sM S0) Q (F0 mi pc ls ((vi n9 :: vi dp :: vr t2 i2 :: vi sp :: vr t i :: st2).map (conc α))) := by
        intro kv ty t0 k1 k2 k3 k4 hty hrk hfit
        obtain ⟨hW, h20, h55⟩ := kd_isW t (by omega) (by omega)
        obtain ⟨hW2, h202, h552⟩ := kd_isW t2 (by omega) (by omega)
        have hi := okr_w hW so1
        have hi2 := okr_w hW2 so2
        obtain ⟨L, hn, hL, hP, hD⟩ := wi
        obtain ⟨kk, hkk, hws⟩ := wOf_at (D7 := D7) (α := α) (S := S) ((hL t i).mpr ⟨hW, hi⟩)
        obtain ⟨kk2, hkk2, hws2⟩ := wOf_at (D7 := D7) (α := α) (S := S) ((hL t2 i2).mpr ⟨hW2, hi2⟩)
        rw [entE_i (by omega) (by omega) (by omega) (by omega), k1] at hws
        rw [entE_i (by omega) (by omega) (by omega) (by omega), k2] at hws2
        refine va_copyi (D := D) (cl := clL) hx hb (hml.trans lo.2.1.1.symm) hown (hts _ (inW_mem h1)) (hts _ (inW_mem h2)) (hts _ (inW_mem h3)) (hts _ (inW_mem h4)) hK hP hD hS kk kk2 t0 t0 hws hws2 hty hty hrk (i32_nat g1) (i32_nat g2) (i32_nat g3) g4 g5 hfit (by omega) hlo hdg (fun H1 locs1 hP1 hD1 hS1 => ?_)
        rw [wOf_set hn hkk2 (S2 := wCp S t i (ix sp) t2 i2 (ix dp) (ix n9)) (by rw [entE_wCp (by omega) (by omega) (by omega) (by omega), k2]) (fun q _ hq => entE_wCp_ne hq)] at hP1 hD1
        exact k α H1 locs1 ls ⟨⟨L, hn, hL, hP1, hD1⟩, ro, eq.wCp hW2, ext, hS1, so, lo, lvo, gr, mn⟩
      rcases g6 with ⟨k1, k2⟩ | ⟨k1, k2, k3⟩
      · exact fin 1 .int 0 k1 k2 (by decide) (by decide) rfl rfl (fun j _ => rfl)
      · refine fin 2 .byte 1 k1 k2 (by decide) (by decide) rfl rfl (fun j hj => ?_)
        have := of_decide_eq_true (List.all_eq_true.mp k3 j (List.mem_range.mpr hj))
        rw [this]
        exact pk_fb _
    · cases h
  · cases h
end Step
