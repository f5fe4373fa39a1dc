section Step
variable {p : Program} {l : Launch} {e : Env} {R : Room} {s : State} {mi : MethodId} {args : Array Value} {below : List Frame} {meth : Method} {c : Code} {Q : State → Prop}
variable {D : va_G} {D7 : Nat → ClassId} {B0 : Nat} {E S0 : St} {α0 : Nat → Nat → Nat} {m : Nat} {v : Int32} {l9 : List Nat}
set_option maxHeartbeats 4000000 in
theorem st_iconst {n : Int} : StepOK p l e R s mi args below meth c Q D D7 B0 E S0 α0 m (.iconst n, v, l9) := by
  intro pc α S lv st H locs ls lv2 st2 S2 C I hc hd h hR1 hR2 hF hLo k
  obtain ⟨hx, hb, hml, hown, hts, hK, hret, hlk, hB0, hnm, htr⟩ := C
  obtain ⟨wi, ro, eq, ext, hS, so, lo, lvo, gr, mn⟩ := I
  have hA : ∀ q : Nat, s.heap.size ≤ q → B0 ≤ q := fun q hq => Nat.le_trans hB0 hq
  have hdg : decode (mB m) pc = .ok (.iconst n, 1) := of_decide_eq_true hd
  simp only [stp] at h
  cases h
  have hv : Int32.ofInt n = v := of_decide_eq_true hc
  refine lv_iconst hx hb hdg hv ?_
  exact k α H locs ls ⟨wi, ro, eq, ext, hS, List.forall_mem_cons.mpr ⟨trivial, so⟩, lo, lvo, gr, mn⟩
set_option maxHeartbeats 4000000 in
theorem st_bipush {n : Int} : StepOK p l e R s mi args below meth c Q D D7 B0 E S0 α0 m (.bipush n, v, l9) := by
  intro pc α S lv st H locs ls lv2 st2 S2 C I hc hd h hR1 hR2 hF hLo k
  obtain ⟨hx, hb, hml, hown, hts, hK, hret, hlk, hB0, hnm, htr⟩ := C
  obtain ⟨wi, ro, eq, ext, hS, so, lo, lvo, gr, mn⟩ := I
  have hA : ∀ q : Nat, s.heap.size ≤ q → B0 ≤ q := fun q hq => Nat.le_trans hB0 hq
  have hdg : decode (mB m) pc = .ok (.bipush n, 2) := of_decide_eq_true hd
  simp only [stp] at h
  cases h
  have hv : (Int8.ofInt n).toInt32 = v := of_decide_eq_true hc
  refine lv_bipush hx hb hdg hv ?_
  exact k α H locs ls ⟨wi, ro, eq, ext, hS, List.forall_mem_cons.mpr ⟨trivial, so⟩, lo, lvo, gr, mn⟩
set_option maxHeartbeats 4000000 in
theorem st_sipush {n : Int} : StepOK p l e R s mi args below meth c Q D D7 B0 E S0 α0 m (.sipush n, v, l9) := by
  intro pc α S lv st H locs ls lv2 st2 S2 C I hc hd h hR1 hR2 hF hLo k
  obtain ⟨hx, hb, hml, hown, hts, hK, hret, hlk, hB0, hnm, htr⟩ := C
  obtain ⟨wi, ro, eq, ext, hS, so, lo, lvo, gr, mn⟩ := I
  have hA : ∀ q : Nat, s.heap.size ≤ q → B0 ≤ q := fun q hq => Nat.le_trans hB0 hq
  have hdg : decode (mB m) pc = .ok (.sipush n, 3) := of_decide_eq_true hd
  simp only [stp] at h
  cases h
  have hv : (Int16.ofInt n).toInt32 = v := of_decide_eq_true hc
  refine lv_sipush hx hb hdg hv ?_
  exact k α H locs ls ⟨wi, ro, eq, ext, hS, List.forall_mem_cons.mpr ⟨trivial, so⟩, lo, lvo, gr, mn⟩
set_option maxHeartbeats 4000000 in
theorem st_fconst {f : Fin 3} : StepOK p l e R s mi args below meth c Q D D7 B0 E S0 α0 m (.fconst f, v, l9) := by
  intro pc α S lv st H locs ls lv2 st2 S2 C I hc hd h hR1 hR2 hF hLo k
  obtain ⟨hx, hb, hml, hown, hts, hK, hret, hlk, hB0, hnm, htr⟩ := C
  obtain ⟨wi, ro, eq, ext, hS, so, lo, lvo, gr, mn⟩ := I
  have hA : ∀ q : Nat, s.heap.size ≤ q → B0 ≤ q := fun q hq => Nat.le_trans hB0 hq
  have hdg : decode (mB m) pc = .ok (.fconst f, 1) := of_decide_eq_true hd
  simp only [stp] at h
  cases h
  have hf : f = 0 := of_decide_eq_true hc
  subst hf
  refine lv_fconst0 hx hb hdg ?_
  exact k α H locs ls ⟨wi, ro, eq, ext, hS, List.forall_mem_cons.mpr ⟨trivial, so⟩, lo, lvo, gr, mn⟩
set_option maxHeartbeats 4000000 in
theorem st_dconst {f : Fin 2} : StepOK p l e R s mi args below meth c Q D D7 B0 E S0 α0 m (.dconst f, v, l9) := by
  intro pc α S lv st H locs ls lv2 st2 S2 C I hc hd h hR1 hR2 hF hLo k
  obtain ⟨hx, hb, hml, hown, hts, hK, hret, hlk, hB0, hnm, htr⟩ := C
  obtain ⟨wi, ro, eq, ext, hS, so, lo, lvo, gr, mn⟩ := I
  have hA : ∀ q : Nat, s.heap.size ≤ q → B0 ≤ q := fun q hq => Nat.le_trans hB0 hq
  have hdg : decode (mB m) pc = .ok (.dconst f, 1) := of_decide_eq_true hd
  simp only [stp] at h
  cases h
  have hf : f = 0 := of_decide_eq_true hc
  subst hf
  refine lv_dconst0 hx hb hdg ?_
  exact k α H locs ls ⟨wi, ro, eq, ext, hS, List.forall_mem_cons.mpr ⟨trivial, so⟩, lo, lvo, gr, mn⟩
set_option maxHeartbeats 4000000 in
theorem st_ldc {n : Nat} : StepOK p l e R s mi args below meth c Q D D7 B0 E S0 α0 m (.ldc n, v, l9) := by
  intro pc α S lv st H locs ls lv2 st2 S2 C I hc hd h hR1 hR2 hF hLo k
  obtain ⟨hx, hb, hml, hown, hts, hK, hret, hlk, hB0, hnm, htr⟩ := C
  obtain ⟨wi, ro, eq, ext, hS, so, lo, lvo, gr, mn⟩ := I
  have hA : ∀ q : Nat, s.heap.size ≤ q → B0 ≤ q := fun q hq => Nat.le_trans hB0 hq
  have hdg : decode (mB m) pc = .ok (.ldc n, 2) := of_decide_eq_true hd
  simp only [stp] at h
  by_cases g : g0 l9 0 = 0
  · rw [if_pos g] at h
    cases h
    have hc : inW m (.constant (mY m).cls n v) = true := by
      simp only [chkI] at hc
      rw [if_pos g] at hc
      exact hc
    refine lv_ldc hx hb hown (hts _ (inW_mem hc)) hdg ?_
    exact k α H locs ls ⟨wi, ro, eq, ext, hS, List.forall_mem_cons.mpr ⟨trivial, so⟩, lo, lvo, gr, mn⟩
  · rw [if_neg g] at h
    cases h
    simp only [chkI] at hc
    rw [if_neg g] at hc
    simp only [Bool.and_eq_true, decide_eq_true_eq] at hc
    obtain ⟨⟨h1, h2⟩, h3⟩ := hc
    have hz := (ext.2.1 (g0 l9 1) h2).2.2.2.2
    rw [h3] at hz
    refine va_ldcS (own := "SighGranary$Script") hx hb (by rw [← h1]; exact hown) hz hdg ?_
    exact k α H locs ls ⟨wi, ro, eq, ext, hS, List.forall_mem_cons.mpr ⟨Or.inr (Or.inl ⟨rfl, h2⟩), so⟩, lo, lvo, gr, mn⟩
set_option maxHeartbeats 4000000 in
theorem st_iload_n {n : Fin 4} : StepOK p l e R s mi args below meth c Q D D7 B0 E S0 α0 m (.iload_n n, v, l9) := by
  intro pc α S lv st H locs ls lv2 st2 S2 C I hc hd h hR1 hR2 hF hLo k
  obtain ⟨hx, hb, hml, hown, hts, hK, hret, hlk, hB0, hnm, htr⟩ := C
  obtain ⟨wi, ro, eq, ext, hS, so, lo, lvo, gr, mn⟩ := I
  have hA : ∀ q : Nat, s.heap.size ≤ q → B0 ≤ q := fun q hq => Nat.le_trans hB0 hq
  have hdg : decode (mB m) pc = .ok (.iload_n n, 1) := of_decide_eq_true hd
  simp only [stp] at h
  split at h
  · rename_i hi
    cases h
    generalize hw : lv.getD (g0 l9 0) unk = w at hi k
    have hu : w ≠ unk := by
      rintro rfl
      revert hi
      decide
    have hl := getD_some hw hu
    have hok : okv S w := (lvo _ (List.mem_of_getElem? hl)).resolve_left hu
    have fin := k α H locs ls ⟨wi, ro, eq, ext, hS, List.forall_mem_cons.mpr ⟨hok, so⟩, lo, lvo, gr, mn⟩
    cases w with
    | inl y =>
      cases y <;> first | (cases hi; done) | skip
      refine lv_iload_n hx hb hdg (of_decide_eq_true hc) (lo.2.2.1 _ _ hl hu) fin
    | inr q =>
      cases hi
  · cases h
set_option maxHeartbeats 4000000 in
theorem st_iload {n : Nat} : StepOK p l e R s mi args below meth c Q D D7 B0 E S0 α0 m (.iload n, v, l9) := by
  intro pc α S lv st H locs ls lv2 st2 S2 C I hc hd h hR1 hR2 hF hLo k
  obtain ⟨hx, hb, hml, hown, hts, hK, hret, hlk, hB0, hnm, htr⟩ := C
  obtain ⟨wi, ro, eq, ext, hS, so, lo, lvo, gr, mn⟩ := I
  have hA : ∀ q : Nat, s.heap.size ≤ q → B0 ≤ q := fun q hq => Nat.le_trans hB0 hq
  have hdg : decode (mB m) pc = .ok (.iload n, 2) := of_decide_eq_true hd
  simp only [stp] at h
  split at h
  · rename_i hi
    cases h
    generalize hw : lv.getD (g0 l9 0) unk = w at hi k
    have hu : w ≠ unk := by
      rintro rfl
      revert hi
      decide
    have hl := getD_some hw hu
    have hok : okv S w := (lvo _ (List.mem_of_getElem? hl)).resolve_left hu
    have fin := k α H locs ls ⟨wi, ro, eq, ext, hS, List.forall_mem_cons.mpr ⟨hok, so⟩, lo, lvo, gr, mn⟩
    cases w with
    | inl y =>
      cases y <;> first | (cases hi; done) | skip
      refine lv_iload hx hb hdg (by rw [show n = g0 l9 0 from of_decide_eq_true hc]; exact lo.2.2.1 _ _ hl hu) fin
    | inr q =>
      cases hi
  · cases h
set_option maxHeartbeats 4000000 in
theorem st_fload {n : Nat} : StepOK p l e R s mi args below meth c Q D D7 B0 E S0 α0 m (.fload n, v, l9) := by
  intro pc α S lv st H locs ls lv2 st2 S2 C I hc hd h hR1 hR2 hF hLo k
  obtain ⟨hx, hb, hml, hown, hts, hK, hret, hlk, hB0, hnm, htr⟩ := C
  obtain ⟨wi, ro, eq, ext, hS, so, lo, lvo, gr, mn⟩ := I
  have hA : ∀ q : Nat, s.heap.size ≤ q → B0 ≤ q := fun q hq => Nat.le_trans hB0 hq
  have hdg : decode (mB m) pc = .ok (.fload n, 2) := of_decide_eq_true hd
  simp only [stp] at h
  split at h
  · rename_i hi
    cases h
    generalize hw : lv.getD (g0 l9 0) unk = w at hi k
    have hu : w ≠ unk := by
      rintro rfl
      revert hi
      decide
    have hl := getD_some hw hu
    have hok : okv S w := (lvo _ (List.mem_of_getElem? hl)).resolve_left hu
    have fin := k α H locs ls ⟨wi, ro, eq, ext, hS, List.forall_mem_cons.mpr ⟨hok, so⟩, lo, lvo, gr, mn⟩
    cases w with
    | inl y =>
      cases y <;> first | (cases hi; done) | skip
      refine lv_fload hx hb hdg (by rw [show n = g0 l9 0 from of_decide_eq_true hc]; exact lo.2.2.1 _ _ hl hu) fin
    | inr q =>
      cases hi
  · cases h
set_option maxHeartbeats 4000000 in
theorem st_fstore {n : Nat} : StepOK p l e R s mi args below meth c Q D D7 B0 E S0 α0 m (.fstore n, v, l9) := by
  intro pc α S lv st H locs ls lv2 st2 S2 C I hc hd h hR1 hR2 hF hLo k
  obtain ⟨hx, hb, hml, hown, hts, hK, hret, hlk, hB0, hnm, htr⟩ := C
  obtain ⟨wi, ro, eq, ext, hS, so, lo, lvo, gr, mn⟩ := I
  have hA : ∀ q : Nat, s.heap.size ≤ q → B0 ≤ q := fun q hq => Nat.le_trans hB0 hq
  have hdg : decode (mB m) pc = .ok (.fstore n, 2) := of_decide_eq_true hd
  simp only [stp] at h
  replace h := pV_some h
  obtain ⟨w, st3, rfl, h⟩ := h
  split at h
  · rename_i hi
    cases h
    simp only [chkI, Bool.and_eq_true, decide_eq_true_eq] at hc
    obtain ⟨⟨h1, h2⟩, h3⟩ := hc
    obtain ⟨so1, so3⟩ := List.forall_mem_cons.mp so
    have hcat : cat w = 1 := by
      cases w with
      | inr q => rfl
      | inl y => cases y <;> first | rfl | cases hi
    have fin : ∀ ls2 : Array Slot, lv_has ls2 (ML m) ((g0 l9 0, conc α w) :: (knL α lv).filter (fun q => !(q.1 == g0 l9 0) && !(q.1 + 1 == g0 l9 0 && q.2.category == 2))) → W p l e R s mi args below meth c H locs (sN S - sN S0) (sM S - sM S0) Q (F0 mi (pc + 2) ls2 (st2.map (conc α))) := fun ls2 hl2 => k α H locs ls2 ⟨wi, ro, eq, ext, hS, so3, lo.set1 h2 h3 hcat hl2, fun z hz => by
        rcases List.mem_or_eq_of_mem_set hz with hz | rfl
        · exact lvo z hz
        · exact Or.inr so1, gr, mn⟩
    cases w with
    | inl y =>
      cases y <;> first | (cases hi; done) | skip
      
      subst h1; exact lv_fstore hx hb hdg lo.has h2 rfl fin
    | inr q =>
      
      cases hi
  · cases h
set_option maxHeartbeats 4000000 in
theorem st_aload_n {n : Fin 4} : StepOK p l e R s mi args below meth c Q D D7 B0 E S0 α0 m (.aload_n n, v, l9) := by
  intro pc α S lv st H locs ls lv2 st2 S2 C I hc hd h hR1 hR2 hF hLo k
  obtain ⟨hx, hb, hml, hown, hts, hK, hret, hlk, hB0, hnm, htr⟩ := C
  obtain ⟨wi, ro, eq, ext, hS, so, lo, lvo, gr, mn⟩ := I
  have hA : ∀ q : Nat, s.heap.size ≤ q → B0 ≤ q := fun q hq => Nat.le_trans hB0 hq
  have hdg : decode (mB m) pc = .ok (.aload_n n, 1) := of_decide_eq_true hd
  simp only [stp] at h
  split at h
  · rename_i hi
    cases h
    generalize hw : lv.getD (g0 l9 0) unk = w at hi k
    have hu : w ≠ unk := by
      rintro rfl
      revert hi
      decide
    have hl := getD_some hw hu
    have hok : okv S w := (lvo _ (List.mem_of_getElem? hl)).resolve_left hu
    have fin := k α H locs ls ⟨wi, ro, eq, ext, hS, List.forall_mem_cons.mpr ⟨hok, so⟩, lo, lvo, gr, mn⟩
    cases w with
    | inl y =>
      cases hi
      
    | inr q =>
      refine lv_aload_n hx hb hdg (of_decide_eq_true hc) (lo.2.2.1 _ _ hl hu) fin
  · cases h
set_option maxHeartbeats 4000000 in
theorem st_aload {n : Nat} : StepOK p l e R s mi args below meth c Q D D7 B0 E S0 α0 m (.aload n, v, l9) := by
  intro pc α S lv st H locs ls lv2 st2 S2 C I hc hd h hR1 hR2 hF hLo k
  obtain ⟨hx, hb, hml, hown, hts, hK, hret, hlk, hB0, hnm, htr⟩ := C
  obtain ⟨wi, ro, eq, ext, hS, so, lo, lvo, gr, mn⟩ := I
  have hA : ∀ q : Nat, s.heap.size ≤ q → B0 ≤ q := fun q hq => Nat.le_trans hB0 hq
  have hdg : decode (mB m) pc = .ok (.aload n, 2) := of_decide_eq_true hd
  simp only [stp] at h
  split at h
  · rename_i hi
    cases h
    generalize hw : lv.getD (g0 l9 0) unk = w at hi k
    have hu : w ≠ unk := by
      rintro rfl
      revert hi
      decide
    have hl := getD_some hw hu
    have hok : okv S w := (lvo _ (List.mem_of_getElem? hl)).resolve_left hu
    have fin := k α H locs ls ⟨wi, ro, eq, ext, hS, List.forall_mem_cons.mpr ⟨hok, so⟩, lo, lvo, gr, mn⟩
    cases w with
    | inl y =>
      cases hi
      
    | inr q =>
      refine lv_aload hx hb hdg (by rw [show n = g0 l9 0 from of_decide_eq_true hc]; exact lo.2.2.1 _ _ hl hu) fin
  · cases h
set_option maxHeartbeats 4000000 in
theorem st_dload_n {n : Fin 4} : StepOK p l e R s mi args below meth c Q D D7 B0 E S0 α0 m (.dload_n n, v, l9) := by
  intro pc α S lv st H locs ls lv2 st2 S2 C I hc hd h hR1 hR2 hF hLo k
  obtain ⟨hx, hb, hml, hown, hts, hK, hret, hlk, hB0, hnm, htr⟩ := C
  obtain ⟨wi, ro, eq, ext, hS, so, lo, lvo, gr, mn⟩ := I
  have hA : ∀ q : Nat, s.heap.size ≤ q → B0 ≤ q := fun q hq => Nat.le_trans hB0 hq
  have hdg : decode (mB m) pc = .ok (.dload_n n, 1) := of_decide_eq_true hd
  simp only [stp] at h
  split at h
  · rename_i hi
    cases h
    generalize hw : lv.getD (g0 l9 0) unk = w at hi k
    have hu : w ≠ unk := by
      rintro rfl
      revert hi
      decide
    have hl := getD_some hw hu
    have hok : okv S w := (lvo _ (List.mem_of_getElem? hl)).resolve_left hu
    have fin := k α H locs ls ⟨wi, ro, eq, ext, hS, List.forall_mem_cons.mpr ⟨hok, so⟩, lo, lvo, gr, mn⟩
    cases w with
    | inl y =>
      cases y <;> first | (cases hi; done) | skip
      refine lv_dload_n hx hb hdg (of_decide_eq_true hc) (lo.2.2.1 _ _ hl hu) fin
    | inr q =>
      cases hi
  · cases h
set_option maxHeartbeats 4000000 in
theorem st_dload {n : Nat} : StepOK p l e R s mi args below meth c Q D D7 B0 E S0 α0 m (.dload n, v, l9) := by
  intro pc α S lv st H locs ls lv2 st2 S2 C I hc hd h hR1 hR2 hF hLo k
  obtain ⟨hx, hb, hml, hown, hts, hK, hret, hlk, hB0, hnm, htr⟩ := C
  obtain ⟨wi, ro, eq, ext, hS, so, lo, lvo, gr, mn⟩ := I
  have hA : ∀ q : Nat, s.heap.size ≤ q → B0 ≤ q := fun q hq => Nat.le_trans hB0 hq
  have hdg : decode (mB m) pc = .ok (.dload n, 2) := of_decide_eq_true hd
  simp only [stp] at h
  split at h
  · rename_i hi
    cases h
    generalize hw : lv.getD (g0 l9 0) unk = w at hi k
    have hu : w ≠ unk := by
      rintro rfl
      revert hi
      decide
    have hl := getD_some hw hu
    have hok : okv S w := (lvo _ (List.mem_of_getElem? hl)).resolve_left hu
    have fin := k α H locs ls ⟨wi, ro, eq, ext, hS, List.forall_mem_cons.mpr ⟨hok, so⟩, lo, lvo, gr, mn⟩
    cases w with
    | inl y =>
      cases y <;> first | (cases hi; done) | skip
      refine lv_dload hx hb hdg (by rw [show n = g0 l9 0 from of_decide_eq_true hc]; exact lo.2.2.1 _ _ hl hu) fin
    | inr q =>
      cases hi
  · cases h
set_option maxHeartbeats 4000000 in
theorem st_istore_n {n : Fin 4} : StepOK p l e R s mi args below meth c Q D D7 B0 E S0 α0 m (.istore_n n, v, l9) := by
  intro pc α S lv st H locs ls lv2 st2 S2 C I hc hd h hR1 hR2 hF hLo k
  obtain ⟨hx, hb, hml, hown, hts, hK, hret, hlk, hB0, hnm, htr⟩ := C
  obtain ⟨wi, ro, eq, ext, hS, so, lo, lvo, gr, mn⟩ := I
  have hA : ∀ q : Nat, s.heap.size ≤ q → B0 ≤ q := fun q hq => Nat.le_trans hB0 hq
  have hdg : decode (mB m) pc = .ok (.istore_n n, 1) := of_decide_eq_true hd
  simp only [stp] at h
  replace h := pV_some h
  obtain ⟨w, st3, rfl, h⟩ := h
  split at h
  · rename_i hi
    cases h
    simp only [chkI, Bool.and_eq_true, decide_eq_true_eq] at hc
    obtain ⟨⟨h1, h2⟩, h3⟩ := hc
    obtain ⟨so1, so3⟩ := List.forall_mem_cons.mp so
    have hcat : cat w = 1 := by
      cases w with
      | inr q => rfl
      | inl y => cases y <;> first | rfl | cases hi
    have fin : ∀ ls2 : Array Slot, lv_has ls2 (ML m) ((g0 l9 0, conc α w) :: (knL α lv).filter (fun q => !(q.1 == g0 l9 0) && !(q.1 + 1 == g0 l9 0 && q.2.category == 2))) → W p l e R s mi args below meth c H locs (sN S - sN S0) (sM S - sM S0) Q (F0 mi (pc + 1) ls2 (st2.map (conc α))) := fun ls2 hl2 => k α H locs ls2 ⟨wi, ro, eq, ext, hS, so3, lo.set1 h2 h3 hcat hl2, fun z hz => by
        rcases List.mem_or_eq_of_mem_set hz with hz | rfl
        · exact lvo z hz
        · exact Or.inr so1, gr, mn⟩
    cases w with
    | inl y =>
      cases y <;> first | (cases hi; done) | skip
      
      exact lv_istore_n hx hb hdg h1 lo.has h2 rfl fin
    | inr q =>
      
      cases hi
  · cases h
set_option maxHeartbeats 4000000 in
theorem st_istore {n : Nat} : StepOK p l e R s mi args below meth c Q D D7 B0 E S0 α0 m (.istore n, v, l9) := by
  intro pc α S lv st H locs ls lv2 st2 S2 C I hc hd h hR1 hR2 hF hLo k
  obtain ⟨hx, hb, hml, hown, hts, hK, hret, hlk, hB0, hnm, htr⟩ := C
  obtain ⟨wi, ro, eq, ext, hS, so, lo, lvo, gr, mn⟩ := I
  have hA : ∀ q : Nat, s.heap.size ≤ q → B0 ≤ q := fun q hq => Nat.le_trans hB0 hq
  have hdg : decode (mB m) pc = .ok (.istore n, 2) := of_decide_eq_true hd
  simp only [stp] at h
  replace h := pV_some h
  obtain ⟨w, st3, rfl, h⟩ := h
  split at h
  · rename_i hi
    cases h
    simp only [chkI, Bool.and_eq_true, decide_eq_true_eq] at hc
    obtain ⟨⟨h1, h2⟩, h3⟩ := hc
    obtain ⟨so1, so3⟩ := List.forall_mem_cons.mp so
    have hcat : cat w = 1 := by
      cases w with
      | inr q => rfl
      | inl y => cases y <;> first | rfl | cases hi
    have fin : ∀ ls2 : Array Slot, lv_has ls2 (ML m) ((g0 l9 0, conc α w) :: (knL α lv).filter (fun q => !(q.1 == g0 l9 0) && !(q.1 + 1 == g0 l9 0 && q.2.category == 2))) → W p l e R s mi args below meth c H locs (sN S - sN S0) (sM S - sM S0) Q (F0 mi (pc + 2) ls2 (st2.map (conc α))) := fun ls2 hl2 => k α H locs ls2 ⟨wi, ro, eq, ext, hS, so3, lo.set1 h2 h3 hcat hl2, fun z hz => by
        rcases List.mem_or_eq_of_mem_set hz with hz | rfl
        · exact lvo z hz
        · exact Or.inr so1, gr, mn⟩
    cases w with
    | inl y =>
      cases y <;> first | (cases hi; done) | skip
      
      subst h1; exact lv_istore hx hb hdg lo.has h2 rfl fin
    | inr q =>
      
      cases hi
  · cases h
set_option maxHeartbeats 4000000 in
theorem st_astore_n {n : Fin 4} : StepOK p l e R s mi args below meth c Q D D7 B0 E S0 α0 m (.astore_n n, v, l9) := by
  intro pc α S lv st H locs ls lv2 st2 S2 C I hc hd h hR1 hR2 hF hLo k
  obtain ⟨hx, hb, hml, hown, hts, hK, hret, hlk, hB0, hnm, htr⟩ := C
  obtain ⟨wi, ro, eq, ext, hS, so, lo, lvo, gr, mn⟩ := I
  have hA : ∀ q : Nat, s.heap.size ≤ q → B0 ≤ q := fun q hq => Nat.le_trans hB0 hq
  have hdg : decode (mB m) pc = .ok (.astore_n n, 1) := of_decide_eq_true hd
  simp only [stp] at h
  replace h := pV_some h
  obtain ⟨w, st3, rfl, h⟩ := h
  split at h
  · rename_i hi
    cases h
    simp only [chkI, Bool.and_eq_true, decide_eq_true_eq] at hc
    obtain ⟨⟨h1, h2⟩, h3⟩ := hc
    obtain ⟨so1, so3⟩ := List.forall_mem_cons.mp so
    have hcat : cat w = 1 := by
      cases w with
      | inr q => rfl
      | inl y => cases y <;> first | rfl | cases hi
    have fin : ∀ ls2 : Array Slot, lv_has ls2 (ML m) ((g0 l9 0, conc α w) :: (knL α lv).filter (fun q => !(q.1 == g0 l9 0) && !(q.1 + 1 == g0 l9 0 && q.2.category == 2))) → W p l e R s mi args below meth c H locs (sN S - sN S0) (sM S - sM S0) Q (F0 mi (pc + 1) ls2 (st2.map (conc α))) := fun ls2 hl2 => k α H locs ls2 ⟨wi, ro, eq, ext, hS, so3, lo.set1 h2 h3 hcat hl2, fun z hz => by
        rcases List.mem_or_eq_of_mem_set hz with hz | rfl
        · exact lvo z hz
        · exact Or.inr so1, gr, mn⟩
    cases w with
    | inl y =>
      cases hi
      
      
    | inr q =>
      exact lv_astore_n hx hb hdg h1 lo.has h2 rfl fin
      
  · cases h
set_option maxHeartbeats 4000000 in
theorem st_astore {n : Nat} : StepOK p l e R s mi args below meth c Q D D7 B0 E S0 α0 m (.astore n, v, l9) := by
  intro pc α S lv st H locs ls lv2 st2 S2 C I hc hd h hR1 hR2 hF hLo k
  obtain ⟨hx, hb, hml, hown, hts, hK, hret, hlk, hB0, hnm, htr⟩ := C
  obtain ⟨wi, ro, eq, ext, hS, so, lo, lvo, gr, mn⟩ := I
  have hA : ∀ q : Nat, s.heap.size ≤ q → B0 ≤ q := fun q hq => Nat.le_trans hB0 hq
  have hdg : decode (mB m) pc = .ok (.astore n, 2) := of_decide_eq_true hd
  simp only [stp] at h
  replace h := pV_some h
  obtain ⟨w, st3, rfl, h⟩ := h
  split at h
  · rename_i hi
    cases h
    simp only [chkI, Bool.and_eq_true, decide_eq_true_eq] at hc
    obtain ⟨⟨h1, h2⟩, h3⟩ := hc
    obtain ⟨so1, so3⟩ := List.forall_mem_cons.mp so
    have hcat : cat w = 1 := by
      cases w with
      | inr q => rfl
      | inl y => cases y <;> first | rfl | cases hi
    have fin : ∀ ls2 : Array Slot, lv_has ls2 (ML m) ((g0 l9 0, conc α w) :: (knL α lv).filter (fun q => !(q.1 == g0 l9 0) && !(q.1 + 1 == g0 l9 0 && q.2.category == 2))) → W p l e R s mi args below meth c H locs (sN S - sN S0) (sM S - sM S0) Q (F0 mi (pc + 2) ls2 (st2.map (conc α))) := fun ls2 hl2 => k α H locs ls2 ⟨wi, ro, eq, ext, hS, so3, lo.set1 h2 h3 hcat hl2, fun z hz => by
        rcases List.mem_or_eq_of_mem_set hz with hz | rfl
        · exact lvo z hz
        · exact Or.inr so1, gr, mn⟩
    cases w with
    | inl y =>
      cases hi
      
      
    | inr q =>
      subst h1; exact lv_astore hx hb hdg lo.has h2 rfl fin
      
  · cases h
set_option maxHeartbeats 4000000 in
theorem st_dstore {n : Nat} : StepOK p l e R s mi args below meth c Q D D7 B0 E S0 α0 m (.dstore n, v, l9) := by
  intro pc α S lv st H locs ls lv2 st2 S2 C I hc hd h hR1 hR2 hF hLo k
  obtain ⟨hx, hb, hml, hown, hts, hK, hret, hlk, hB0, hnm, htr⟩ := C
  obtain ⟨wi, ro, eq, ext, hS, so, lo, lvo, gr, mn⟩ := I
  have hA : ∀ q : Nat, s.heap.size ≤ q → B0 ≤ q := fun q hq => Nat.le_trans hB0 hq
  have hdg : decode (mB m) pc = .ok (.dstore n, 2) := of_decide_eq_true hd
  simp only [stp] at h
  replace h := pV_some h
  obtain ⟨w, st3, rfl, h⟩ := h
  split at h
  · rename_i hi
    cases h
    simp only [chkI, Bool.and_eq_true, decide_eq_true_eq] at hc
    obtain ⟨⟨⟨h1, h2⟩, h3⟩, h4⟩ := hc
    obtain ⟨so1, so3⟩ := List.forall_mem_cons.mp so
    have fin : ∀ ls2 : Array Slot, lv_has ls2 (ML m) ((g0 l9 0, conc α w) :: (knL α lv).filter (fun q => !(q.1 == g0 l9 0) && (!(q.1 == g0 l9 0 + 1) && !(q.1 + 1 == g0 l9 0 && q.2.category == 2)))) → W p l e R s mi args below meth c H locs (sN S - sN S0) (sM S - sM S0) Q (F0 mi (pc + 2) ls2 (st2.map (conc α))) := fun ls2 hl2 => k α H locs ls2 ⟨wi, ro, eq, ext, hS, so3, lo.set2 h2 h3 h4 hl2, fun z hz => by
        rcases List.mem_or_eq_of_mem_set hz with hz | rfl
        · rcases List.mem_or_eq_of_mem_set hz with hz | rfl
          · exact lvo z hz
          · exact Or.inr so1
        · exact Or.inl rfl, gr, mn⟩
    cases w with
    | inl y =>
      cases y <;> first | (cases hi; done) | skip
      subst h1; exact lv_dstore hx hb hdg lo.has h2 rfl fin
    | inr q => cases hi
  · cases h
set_option maxHeartbeats 4000000 in
theorem st_iinc {n : Nat} {z : Int} : StepOK p l e R s mi args below meth c Q D D7 B0 E S0 α0 m (.iinc n z, v, l9) := by
  intro pc α S lv st H locs ls lv2 st2 S2 C I hc hd h hR1 hR2 hF hLo k
  obtain ⟨hx, hb, hml, hown, hts, hK, hret, hlk, hB0, hnm, htr⟩ := C
  obtain ⟨wi, ro, eq, ext, hS, so, lo, lvo, gr, mn⟩ := I
  have hA : ∀ q : Nat, s.heap.size ≤ q → B0 ≤ q := fun q hq => Nat.le_trans hB0 hq
  have hdg : decode (mB m) pc = .ok (.iinc n z, 3) := of_decide_eq_true hd
  simp only [stp] at h
  split at h
  · rename_i x hw
    cases h
    simp only [chkI, Bool.and_eq_true, decide_eq_true_eq] at hc
    obtain ⟨⟨⟨h1, h2⟩, h3⟩, h4⟩ := hc
    have hl := getD_some hw (fun z => by cases z)
    obtain ⟨kk, hkk⟩ := List.getElem?_of_mem (knL_mem (α := α).mpr ⟨vi x, hl, fun z => (by cases z), rfl⟩ : ((g0 l9 0, Value.int x) : Nat × Value) ∈ knL α lv)
    subst h1
    refine lv_iinc (v := x + v) hx hb hdg lo.has hkk (by rw [h2]) h3 rfl (fun ls2 hl2 => ?_)
    exact k α H locs ls2 ⟨wi, ro, eq, ext, hS, so, lo.set1 (v := vi (x + v)) h3 h4 rfl hl2, fun z hz => by
        rcases List.mem_or_eq_of_mem_set hz with hz | rfl
        · exact lvo z hz
        · exact Or.inr trivial, gr, mn⟩
  · cases h
set_option maxHeartbeats 4000000 in
theorem st_pop : StepOK p l e R s mi args below meth c Q D D7 B0 E S0 α0 m (.pop, v, l9) := by
  intro pc α S lv st H locs ls lv2 st2 S2 C I hc hd h hR1 hR2 hF hLo k
  obtain ⟨hx, hb, hml, hown, hts, hK, hret, hlk, hB0, hnm, htr⟩ := C
  obtain ⟨wi, ro, eq, ext, hS, so, lo, lvo, gr, mn⟩ := I
  have hA : ∀ q : Nat, s.heap.size ≤ q → B0 ≤ q := fun q hq => Nat.le_trans hB0 hq
  have hdg : decode (mB m) pc = .ok (.pop, 1) := of_decide_eq_true hd
  simp only [stp] at h
  replace h := pV_some h
  obtain ⟨w, st3, rfl, h⟩ := h
  split at h
  · rename_i hi
    cases h
    refine lv_pop hx hb hdg (by rw [conc_cat]; exact hi) ?_
    exact k α H locs ls ⟨wi, ro, eq, ext, hS, (List.forall_mem_cons.mp so).2, lo, lvo, gr, mn⟩
  · cases h
set_option maxHeartbeats 4000000 in
theorem st_dup : StepOK p l e R s mi args below meth c Q D D7 B0 E S0 α0 m (.dup, v, l9) := by
  intro pc α S lv st H locs ls lv2 st2 S2 C I hc hd h hR1 hR2 hF hLo k
  obtain ⟨hx, hb, hml, hown, hts, hK, hret, hlk, hB0, hnm, htr⟩ := C
  obtain ⟨wi, ro, eq, ext, hS, so, lo, lvo, gr, mn⟩ := I
  have hA : ∀ q : Nat, s.heap.size ≤ q → B0 ≤ q := fun q hq => Nat.le_trans hB0 hq
  have hdg : decode (mB m) pc = .ok (.dup, 1) := of_decide_eq_true hd
  simp only [stp] at h
  replace h := pV_some h
  obtain ⟨w, st3, rfl, h⟩ := h
  split at h
  · rename_i hi
    cases h
    refine lv_dup hx hb hdg (by rw [conc_cat]; exact hi) ?_
    exact k α H locs ls ⟨wi, ro, eq, ext, hS, List.forall_mem_cons.mpr ⟨(List.forall_mem_cons.mp so).1, so⟩, lo, lvo, gr, mn⟩
  · cases h
set_option maxHeartbeats 4000000 in
theorem st_dup_x1 : StepOK p l e R s mi args below meth c Q D D7 B0 E S0 α0 m (.dup_x1, v, l9) := by
  intro pc α S lv st H locs ls lv2 st2 S2 C I hc hd h hR1 hR2 hF hLo k
  obtain ⟨hx, hb, hml, hown, hts, hK, hret, hlk, hB0, hnm, htr⟩ := C
  obtain ⟨wi, ro, eq, ext, hS, so, lo, lvo, gr, mn⟩ := I
  have hA : ∀ q : Nat, s.heap.size ≤ q → B0 ≤ q := fun q hq => Nat.le_trans hB0 hq
  have hdg : decode (mB m) pc = .ok (.dup_x1, 1) := of_decide_eq_true hd
  simp only [stp] at h
  replace h := pVV_some h
  obtain ⟨w, w2, st3, rfl, h⟩ := h
  split at h
  · rename_i hi
    cases h
    obtain ⟨a1, a9⟩ := List.forall_mem_cons.mp so
    obtain ⟨a2, a3⟩ := List.forall_mem_cons.mp a9
    refine lv_dup_x1 hx hb hdg (by rw [conc_cat]; exact hi.1) (by rw [conc_cat]; exact hi.2) ?_
    exact k α H locs ls ⟨wi, ro, eq, ext, hS, List.forall_mem_cons.mpr ⟨a1, List.forall_mem_cons.mpr ⟨a2, List.forall_mem_cons.mpr ⟨a1, a3⟩⟩⟩, lo, lvo, gr, mn⟩
  · cases h
set_option maxHeartbeats 4000000 in
theorem st_dup2 : StepOK p l e R s mi args below meth c Q D D7 B0 E S0 α0 m (.dup2, v, l9) := by
  intro pc α S lv st H locs ls lv2 st2 S2 C I hc hd h hR1 hR2 hF hLo k
  obtain ⟨hx, hb, hml, hown, hts, hK, hret, hlk, hB0, hnm, htr⟩ := C
  obtain ⟨wi, ro, eq, ext, hS, so, lo, lvo, gr, mn⟩ := I
  have hA : ∀ q : Nat, s.heap.size ≤ q → B0 ≤ q := fun q hq => Nat.le_trans hB0 hq
  have hdg : decode (mB m) pc = .ok (.dup2, 1) := of_decide_eq_true hd
  simp only [stp] at h
  replace h := pVV_some h
  obtain ⟨w, w2, st3, rfl, h⟩ := h
  split at h
  · rename_i hi
    cases h
    obtain ⟨a1, a9⟩ := List.forall_mem_cons.mp so
    obtain ⟨a2, a3⟩ := List.forall_mem_cons.mp a9
    refine lv_dup2_11 hx hb hdg (by rw [conc_cat]; exact hi.1) (by rw [conc_cat]; exact hi.2) ?_
    exact k α H locs ls ⟨wi, ro, eq, ext, hS, List.forall_mem_cons.mpr ⟨a1, List.forall_mem_cons.mpr ⟨a2, so⟩⟩, lo, lvo, gr, mn⟩
  · cases h
set_option maxHeartbeats 4000000 in
theorem st_iadd : StepOK p l e R s mi args below meth c Q D D7 B0 E S0 α0 m (.iadd, v, l9) := by
  intro pc α S lv st H locs ls lv2 st2 S2 C I hc hd h hR1 hR2 hF hLo k
  obtain ⟨hx, hb, hml, hown, hts, hK, hret, hlk, hB0, hnm, htr⟩ := C
  obtain ⟨wi, ro, eq, ext, hS, so, lo, lvo, gr, mn⟩ := I
  have hA : ∀ q : Nat, s.heap.size ≤ q → B0 ≤ q := fun q hq => Nat.le_trans hB0 hq
  have hdg : decode (mB m) pc = .ok (.iadd, 1) := of_decide_eq_true hd
  simp only [stp] at h
  replace h := pII_some h
  obtain ⟨x, y, st3, rfl, h⟩ := h
  cases h
  refine lv_iadd hx hb hdg ?_
  exact k α H locs ls ⟨wi, ro, eq, ext, hS, List.forall_mem_cons.mpr ⟨trivial, (List.forall_mem_cons.mp (List.forall_mem_cons.mp so).2).2⟩, lo, lvo, gr, mn⟩
set_option maxHeartbeats 4000000 in
theorem st_isub : StepOK p l e R s mi args below meth c Q D D7 B0 E S0 α0 m (.isub, v, l9) := by
  intro pc α S lv st H locs ls lv2 st2 S2 C I hc hd h hR1 hR2 hF hLo k
  obtain ⟨hx, hb, hml, hown, hts, hK, hret, hlk, hB0, hnm, htr⟩ := C
  obtain ⟨wi, ro, eq, ext, hS, so, lo, lvo, gr, mn⟩ := I
  have hA : ∀ q : Nat, s.heap.size ≤ q → B0 ≤ q := fun q hq => Nat.le_trans hB0 hq
  have hdg : decode (mB m) pc = .ok (.isub, 1) := of_decide_eq_true hd
  simp only [stp] at h
  replace h := pII_some h
  obtain ⟨x, y, st3, rfl, h⟩ := h
  cases h
  refine lv_isub hx hb hdg ?_
  exact k α H locs ls ⟨wi, ro, eq, ext, hS, List.forall_mem_cons.mpr ⟨trivial, (List.forall_mem_cons.mp (List.forall_mem_cons.mp so).2).2⟩, lo, lvo, gr, mn⟩
set_option maxHeartbeats 4000000 in
theorem st_imul : StepOK p l e R s mi args below meth c Q D D7 B0 E S0 α0 m (.imul, v, l9) := by
  intro pc α S lv st H locs ls lv2 st2 S2 C I hc hd h hR1 hR2 hF hLo k
  obtain ⟨hx, hb, hml, hown, hts, hK, hret, hlk, hB0, hnm, htr⟩ := C
  obtain ⟨wi, ro, eq, ext, hS, so, lo, lvo, gr, mn⟩ := I
  have hA : ∀ q : Nat, s.heap.size ≤ q → B0 ≤ q := fun q hq => Nat.le_trans hB0 hq
  have hdg : decode (mB m) pc = .ok (.imul, 1) := of_decide_eq_true hd
  simp only [stp] at h
  replace h := pII_some h
  obtain ⟨x, y, st3, rfl, h⟩ := h
  cases h
  refine lv_imul hx hb hdg ?_
  exact k α H locs ls ⟨wi, ro, eq, ext, hS, List.forall_mem_cons.mpr ⟨trivial, (List.forall_mem_cons.mp (List.forall_mem_cons.mp so).2).2⟩, lo, lvo, gr, mn⟩
set_option maxHeartbeats 4000000 in
theorem st_iand : StepOK p l e R s mi args below meth c Q D D7 B0 E S0 α0 m (.iand, v, l9) := by
  intro pc α S lv st H locs ls lv2 st2 S2 C I hc hd h hR1 hR2 hF hLo k
  obtain ⟨hx, hb, hml, hown, hts, hK, hret, hlk, hB0, hnm, htr⟩ := C
  obtain ⟨wi, ro, eq, ext, hS, so, lo, lvo, gr, mn⟩ := I
  have hA : ∀ q : Nat, s.heap.size ≤ q → B0 ≤ q := fun q hq => Nat.le_trans hB0 hq
  have hdg : decode (mB m) pc = .ok (.iand, 1) := of_decide_eq_true hd
  simp only [stp] at h
  replace h := pII_some h
  obtain ⟨x, y, st3, rfl, h⟩ := h
  cases h
  refine lv_iand hx hb hdg ?_
  exact k α H locs ls ⟨wi, ro, eq, ext, hS, List.forall_mem_cons.mpr ⟨trivial, (List.forall_mem_cons.mp (List.forall_mem_cons.mp so).2).2⟩, lo, lvo, gr, mn⟩
set_option maxHeartbeats 4000000 in
theorem st_ior : StepOK p l e R s mi args below meth c Q D D7 B0 E S0 α0 m (.ior, v, l9) := by
  intro pc α S lv st H locs ls lv2 st2 S2 C I hc hd h hR1 hR2 hF hLo k
  obtain ⟨hx, hb, hml, hown, hts, hK, hret, hlk, hB0, hnm, htr⟩ := C
  obtain ⟨wi, ro, eq, ext, hS, so, lo, lvo, gr, mn⟩ := I
  have hA : ∀ q : Nat, s.heap.size ≤ q → B0 ≤ q := fun q hq => Nat.le_trans hB0 hq
  have hdg : decode (mB m) pc = .ok (.ior, 1) := of_decide_eq_true hd
  simp only [stp] at h
  replace h := pII_some h
  obtain ⟨x, y, st3, rfl, h⟩ := h
  cases h
  refine lv_ior hx hb hdg ?_
  exact k α H locs ls ⟨wi, ro, eq, ext, hS, List.forall_mem_cons.mpr ⟨trivial, (List.forall_mem_cons.mp (List.forall_mem_cons.mp so).2).2⟩, lo, lvo, gr, mn⟩
set_option maxHeartbeats 4000000 in
theorem st_ixor : StepOK p l e R s mi args below meth c Q D D7 B0 E S0 α0 m (.ixor, v, l9) := by
  intro pc α S lv st H locs ls lv2 st2 S2 C I hc hd h hR1 hR2 hF hLo k
  obtain ⟨hx, hb, hml, hown, hts, hK, hret, hlk, hB0, hnm, htr⟩ := C
  obtain ⟨wi, ro, eq, ext, hS, so, lo, lvo, gr, mn⟩ := I
  have hA : ∀ q : Nat, s.heap.size ≤ q → B0 ≤ q := fun q hq => Nat.le_trans hB0 hq
  have hdg : decode (mB m) pc = .ok (.ixor, 1) := of_decide_eq_true hd
  simp only [stp] at h
  replace h := pII_some h
  obtain ⟨x, y, st3, rfl, h⟩ := h
  cases h
  refine lv_ixor hx hb hdg ?_
  exact k α H locs ls ⟨wi, ro, eq, ext, hS, List.forall_mem_cons.mpr ⟨trivial, (List.forall_mem_cons.mp (List.forall_mem_cons.mp so).2).2⟩, lo, lvo, gr, mn⟩
set_option maxHeartbeats 4000000 in
theorem st_ishl : StepOK p l e R s mi args below meth c Q D D7 B0 E S0 α0 m (.ishl, v, l9) := by
  intro pc α S lv st H locs ls lv2 st2 S2 C I hc hd h hR1 hR2 hF hLo k
  obtain ⟨hx, hb, hml, hown, hts, hK, hret, hlk, hB0, hnm, htr⟩ := C
  obtain ⟨wi, ro, eq, ext, hS, so, lo, lvo, gr, mn⟩ := I
  have hA : ∀ q : Nat, s.heap.size ≤ q → B0 ≤ q := fun q hq => Nat.le_trans hB0 hq
  have hdg : decode (mB m) pc = .ok (.ishl, 1) := of_decide_eq_true hd
  simp only [stp] at h
  replace h := pII_some h
  obtain ⟨x, y, st3, rfl, h⟩ := h
  cases h
  refine lv_ishl hx hb hdg ?_
  exact k α H locs ls ⟨wi, ro, eq, ext, hS, List.forall_mem_cons.mpr ⟨trivial, (List.forall_mem_cons.mp (List.forall_mem_cons.mp so).2).2⟩, lo, lvo, gr, mn⟩
set_option maxHeartbeats 4000000 in
theorem st_ishr : StepOK p l e R s mi args below meth c Q D D7 B0 E S0 α0 m (.ishr, v, l9) := by
  intro pc α S lv st H locs ls lv2 st2 S2 C I hc hd h hR1 hR2 hF hLo k
  obtain ⟨hx, hb, hml, hown, hts, hK, hret, hlk, hB0, hnm, htr⟩ := C
  obtain ⟨wi, ro, eq, ext, hS, so, lo, lvo, gr, mn⟩ := I
  have hA : ∀ q : Nat, s.heap.size ≤ q → B0 ≤ q := fun q hq => Nat.le_trans hB0 hq
  have hdg : decode (mB m) pc = .ok (.ishr, 1) := of_decide_eq_true hd
  simp only [stp] at h
  replace h := pII_some h
  obtain ⟨x, y, st3, rfl, h⟩ := h
  cases h
  refine lv_ishr hx hb hdg ?_
  exact k α H locs ls ⟨wi, ro, eq, ext, hS, List.forall_mem_cons.mpr ⟨trivial, (List.forall_mem_cons.mp (List.forall_mem_cons.mp so).2).2⟩, lo, lvo, gr, mn⟩
set_option maxHeartbeats 4000000 in
theorem st_idiv : StepOK p l e R s mi args below meth c Q D D7 B0 E S0 α0 m (.idiv, v, l9) := by
  intro pc α S lv st H locs ls lv2 st2 S2 C I hc hd h hR1 hR2 hF hLo k
  obtain ⟨hx, hb, hml, hown, hts, hK, hret, hlk, hB0, hnm, htr⟩ := C
  obtain ⟨wi, ro, eq, ext, hS, so, lo, lvo, gr, mn⟩ := I
  have hA : ∀ q : Nat, s.heap.size ≤ q → B0 ≤ q := fun q hq => Nat.le_trans hB0 hq
  have hdg : decode (mB m) pc = .ok (.idiv, 1) := of_decide_eq_true hd
  simp only [stp] at h
  replace h := pII_some h
  obtain ⟨x, y, st3, rfl, h⟩ := h
  split at h
  · cases h
  · rename_i hy
    cases h
    refine lv_idiv hx hb hdg hy ?_
    exact k α H locs ls ⟨wi, ro, eq, ext, hS, List.forall_mem_cons.mpr ⟨trivial, (List.forall_mem_cons.mp (List.forall_mem_cons.mp so).2).2⟩, lo, lvo, gr, mn⟩
set_option maxHeartbeats 4000000 in
theorem st_irem : StepOK p l e R s mi args below meth c Q D D7 B0 E S0 α0 m (.irem, v, l9) := by
  intro pc α S lv st H locs ls lv2 st2 S2 C I hc hd h hR1 hR2 hF hLo k
  obtain ⟨hx, hb, hml, hown, hts, hK, hret, hlk, hB0, hnm, htr⟩ := C
  obtain ⟨wi, ro, eq, ext, hS, so, lo, lvo, gr, mn⟩ := I
  have hA : ∀ q : Nat, s.heap.size ≤ q → B0 ≤ q := fun q hq => Nat.le_trans hB0 hq
  have hdg : decode (mB m) pc = .ok (.irem, 1) := of_decide_eq_true hd
  simp only [stp] at h
  replace h := pII_some h
  obtain ⟨x, y, st3, rfl, h⟩ := h
  split at h
  · cases h
  · rename_i hy
    cases h
    refine lv_irem hx hb hdg hy ?_
    exact k α H locs ls ⟨wi, ro, eq, ext, hS, List.forall_mem_cons.mpr ⟨trivial, (List.forall_mem_cons.mp (List.forall_mem_cons.mp so).2).2⟩, lo, lvo, gr, mn⟩
set_option maxHeartbeats 4000000 in
theorem st_ineg : StepOK p l e R s mi args below meth c Q D D7 B0 E S0 α0 m (.ineg, v, l9) := by
  intro pc α S lv st H locs ls lv2 st2 S2 C I hc hd h hR1 hR2 hF hLo k
  obtain ⟨hx, hb, hml, hown, hts, hK, hret, hlk, hB0, hnm, htr⟩ := C
  obtain ⟨wi, ro, eq, ext, hS, so, lo, lvo, gr, mn⟩ := I
  have hA : ∀ q : Nat, s.heap.size ≤ q → B0 ≤ q := fun q hq => Nat.le_trans hB0 hq
  have hdg : decode (mB m) pc = .ok (.ineg, 1) := of_decide_eq_true hd
  simp only [stp] at h
  replace h := pI_some h
  obtain ⟨x, st3, rfl, h⟩ := h
  cases h
  refine lv_ineg hx hb hdg ?_
  exact k α H locs ls ⟨wi, ro, eq, ext, hS, List.forall_mem_cons.mpr ⟨trivial, (List.forall_mem_cons.mp so).2⟩, lo, lvo, gr, mn⟩
set_option maxHeartbeats 4000000 in
theorem st_i2l : StepOK p l e R s mi args below meth c Q D D7 B0 E S0 α0 m (.i2l, v, l9) := by
  intro pc α S lv st H locs ls lv2 st2 S2 C I hc hd h hR1 hR2 hF hLo k
  obtain ⟨hx, hb, hml, hown, hts, hK, hret, hlk, hB0, hnm, htr⟩ := C
  obtain ⟨wi, ro, eq, ext, hS, so, lo, lvo, gr, mn⟩ := I
  have hA : ∀ q : Nat, s.heap.size ≤ q → B0 ≤ q := fun q hq => Nat.le_trans hB0 hq
  have hdg : decode (mB m) pc = .ok (.i2l, 1) := of_decide_eq_true hd
  simp only [stp] at h
  replace h := pI_some h
  obtain ⟨x, st3, rfl, h⟩ := h
  cases h
  refine lv_i2l hx hb hdg rfl ?_
  exact k α H locs ls ⟨wi, ro, eq, ext, hS, List.forall_mem_cons.mpr ⟨trivial, (List.forall_mem_cons.mp so).2⟩, lo, lvo, gr, mn⟩
set_option maxHeartbeats 4000000 in
theorem st_i2c : StepOK p l e R s mi args below meth c Q D D7 B0 E S0 α0 m (.i2c, v, l9) := by
  intro pc α S lv st H locs ls lv2 st2 S2 C I hc hd h hR1 hR2 hF hLo k
  obtain ⟨hx, hb, hml, hown, hts, hK, hret, hlk, hB0, hnm, htr⟩ := C
  obtain ⟨wi, ro, eq, ext, hS, so, lo, lvo, gr, mn⟩ := I
  have hA : ∀ q : Nat, s.heap.size ≤ q → B0 ≤ q := fun q hq => Nat.le_trans hB0 hq
  have hdg : decode (mB m) pc = .ok (.i2c, 1) := of_decide_eq_true hd
  simp only [stp] at h
  replace h := pI_some h
  obtain ⟨x, st3, rfl, h⟩ := h
  cases h
  refine lv_i2c hx hb hdg rfl ?_
  exact k α H locs ls ⟨wi, ro, eq, ext, hS, List.forall_mem_cons.mpr ⟨trivial, (List.forall_mem_cons.mp so).2⟩, lo, lvo, gr, mn⟩
set_option maxHeartbeats 4000000 in
theorem st_i2b : StepOK p l e R s mi args below meth c Q D D7 B0 E S0 α0 m (.i2b, v, l9) := by
  intro pc α S lv st H locs ls lv2 st2 S2 C I hc hd h hR1 hR2 hF hLo k
  obtain ⟨hx, hb, hml, hown, hts, hK, hret, hlk, hB0, hnm, htr⟩ := C
  obtain ⟨wi, ro, eq, ext, hS, so, lo, lvo, gr, mn⟩ := I
  have hA : ∀ q : Nat, s.heap.size ≤ q → B0 ≤ q := fun q hq => Nat.le_trans hB0 hq
  have hdg : decode (mB m) pc = .ok (.i2b, 1) := of_decide_eq_true hd
  simp only [stp] at h
  replace h := pI_some h
  obtain ⟨x, st3, rfl, h⟩ := h
  cases h
  refine lv_i2b hx hb hdg rfl ?_
  exact k α H locs ls ⟨wi, ro, eq, ext, hS, List.forall_mem_cons.mpr ⟨trivial, (List.forall_mem_cons.mp so).2⟩, lo, lvo, gr, mn⟩
set_option maxHeartbeats 4000000 in
theorem st_i2f : StepOK p l e R s mi args below meth c Q D D7 B0 E S0 α0 m (.i2f, v, l9) := by
  intro pc α S lv st H locs ls lv2 st2 S2 C I hc hd h hR1 hR2 hF hLo k
  obtain ⟨hx, hb, hml, hown, hts, hK, hret, hlk, hB0, hnm, htr⟩ := C
  obtain ⟨wi, ro, eq, ext, hS, so, lo, lvo, gr, mn⟩ := I
  have hA : ∀ q : Nat, s.heap.size ≤ q → B0 ≤ q := fun q hq => Nat.le_trans hB0 hq
  have hdg : decode (mB m) pc = .ok (.i2f, 1) := of_decide_eq_true hd
  simp only [stp] at h
  replace h := pI_some h
  obtain ⟨x, st3, rfl, h⟩ := h
  cases h
  refine lv_i2f hx hb hdg ?_
  exact k α H locs ls ⟨wi, ro, eq, ext, hS, List.forall_mem_cons.mpr ⟨trivial, (List.forall_mem_cons.mp so).2⟩, lo, lvo, gr, mn⟩
set_option maxHeartbeats 4000000 in
theorem st_i2d : StepOK p l e R s mi args below meth c Q D D7 B0 E S0 α0 m (.i2d, v, l9) := by
  intro pc α S lv st H locs ls lv2 st2 S2 C I hc hd h hR1 hR2 hF hLo k
  obtain ⟨hx, hb, hml, hown, hts, hK, hret, hlk, hB0, hnm, htr⟩ := C
  obtain ⟨wi, ro, eq, ext, hS, so, lo, lvo, gr, mn⟩ := I
  have hA : ∀ q : Nat, s.heap.size ≤ q → B0 ≤ q := fun q hq => Nat.le_trans hB0 hq
  have hdg : decode (mB m) pc = .ok (.i2d, 1) := of_decide_eq_true hd
  simp only [stp] at h
  replace h := pI_some h
  obtain ⟨x, st3, rfl, h⟩ := h
  cases h
  refine lv_i2d hx hb hdg ?_
  exact k α H locs ls ⟨wi, ro, eq, ext, hS, List.forall_mem_cons.mpr ⟨trivial, (List.forall_mem_cons.mp so).2⟩, lo, lvo, gr, mn⟩
set_option maxHeartbeats 4000000 in
theorem st_f2d : StepOK p l e R s mi args below meth c Q D D7 B0 E S0 α0 m (.f2d, v, l9) := by
  intro pc α S lv st H locs ls lv2 st2 S2 C I hc hd h hR1 hR2 hF hLo k
  obtain ⟨hx, hb, hml, hown, hts, hK, hret, hlk, hB0, hnm, htr⟩ := C
  obtain ⟨wi, ro, eq, ext, hS, so, lo, lvo, gr, mn⟩ := I
  have hA : ∀ q : Nat, s.heap.size ≤ q → B0 ≤ q := fun q hq => Nat.le_trans hB0 hq
  have hdg : decode (mB m) pc = .ok (.f2d, 1) := of_decide_eq_true hd
  simp only [stp] at h
  split at h
  · split at h
    · rename_i hn
      cases h
      refine lv_f2d hx hb hdg (n64_vf hn) ?_
      exact k α H locs ls ⟨wi, ro, eq, ext, hS, List.forall_mem_cons.mpr ⟨trivial, (List.forall_mem_cons.mp so).2⟩, lo, lvo, gr, mn⟩
    · cases h
  · cases h
set_option maxHeartbeats 4000000 in
theorem st_fdiv : StepOK p l e R s mi args below meth c Q D D7 B0 E S0 α0 m (.fdiv, v, l9) := by
  intro pc α S lv st H locs ls lv2 st2 S2 C I hc hd h hR1 hR2 hF hLo k
  obtain ⟨hx, hb, hml, hown, hts, hK, hret, hlk, hB0, hnm, htr⟩ := C
  obtain ⟨wi, ro, eq, ext, hS, so, lo, lvo, gr, mn⟩ := I
  have hA : ∀ q : Nat, s.heap.size ≤ q → B0 ≤ q := fun q hq => Nat.le_trans hB0 hq
  have hdg : decode (mB m) pc = .ok (.fdiv, 1) := of_decide_eq_true hd
  simp only [stp] at h
  split at h
  · split at h
    · rename_i hn
      cases h
      refine lv_fdiv hx hb hdg (n32_vf hn) ?_
      exact k α H locs ls ⟨wi, ro, eq, ext, hS, List.forall_mem_cons.mpr ⟨trivial, (List.forall_mem_cons.mp (List.forall_mem_cons.mp so).2).2⟩, lo, lvo, gr, mn⟩
    · cases h
  · cases h
set_option maxHeartbeats 4000000 in
theorem st_ddiv : StepOK p l e R s mi args below meth c Q D D7 B0 E S0 α0 m (.ddiv, v, l9) := by
  intro pc α S lv st H locs ls lv2 st2 S2 C I hc hd h hR1 hR2 hF hLo k
  obtain ⟨hx, hb, hml, hown, hts, hK, hret, hlk, hB0, hnm, htr⟩ := C
  obtain ⟨wi, ro, eq, ext, hS, so, lo, lvo, gr, mn⟩ := I
  have hA : ∀ q : Nat, s.heap.size ≤ q → B0 ≤ q := fun q hq => Nat.le_trans hB0 hq
  have hdg : decode (mB m) pc = .ok (.ddiv, 1) := of_decide_eq_true hd
  simp only [stp] at h
  split at h
  · split at h
    · rename_i hn
      cases h
      refine lv_ddiv hx hb hdg (n64_vf hn) ?_
      exact k α H locs ls ⟨wi, ro, eq, ext, hS, List.forall_mem_cons.mpr ⟨trivial, (List.forall_mem_cons.mp (List.forall_mem_cons.mp so).2).2⟩, lo, lvo, gr, mn⟩
    · cases h
  · cases h
set_option maxHeartbeats 4000000 in
theorem st_lcmp : StepOK p l e R s mi args below meth c Q D D7 B0 E S0 α0 m (.lcmp, v, l9) := by
  intro pc α S lv st H locs ls lv2 st2 S2 C I hc hd h hR1 hR2 hF hLo k
  obtain ⟨hx, hb, hml, hown, hts, hK, hret, hlk, hB0, hnm, htr⟩ := C
  obtain ⟨wi, ro, eq, ext, hS, so, lo, lvo, gr, mn⟩ := I
  have hA : ∀ q : Nat, s.heap.size ≤ q → B0 ≤ q := fun q hq => Nat.le_trans hB0 hq
  have hdg : decode (mB m) pc = .ok (.lcmp, 1) := of_decide_eq_true hd
  simp only [stp] at h
  split at h
  · cases h
    refine W.lcmp hx hb hdg ?_
    exact k α H locs ls ⟨wi, ro, eq, ext, hS, List.forall_mem_cons.mpr ⟨trivial, (List.forall_mem_cons.mp (List.forall_mem_cons.mp so).2).2⟩, lo, lvo, gr, mn⟩
  · cases h
set_option maxHeartbeats 4000000 in
theorem st_dcmp {op : CmpOp} : StepOK p l e R s mi args below meth c Q D D7 B0 E S0 α0 m (.dcmp op, v, l9) := by
  intro pc α S lv st H locs ls lv2 st2 S2 C I hc hd h hR1 hR2 hF hLo k
  obtain ⟨hx, hb, hml, hown, hts, hK, hret, hlk, hB0, hnm, htr⟩ := C
  obtain ⟨wi, ro, eq, ext, hS, so, lo, lvo, gr, mn⟩ := I
  have hA : ∀ q : Nat, s.heap.size ≤ q → B0 ≤ q := fun q hq => Nat.le_trans hB0 hq
  have hdg : decode (mB m) pc = .ok (.dcmp op, 1) := of_decide_eq_true hd
  simp only [stp] at h
  split at h
  · cases h
    refine lv_dcmp hx hb hdg ?_
    exact k α H locs ls ⟨wi, ro, eq, ext, hS, List.forall_mem_cons.mpr ⟨trivial, (List.forall_mem_cons.mp (List.forall_mem_cons.mp so).2).2⟩, lo, lvo, gr, mn⟩
  · cases h
end Step
