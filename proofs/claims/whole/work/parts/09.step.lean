section Step
variable {p : Program} {l : Launch} {e : Env} {R : Room} {s : State} {mi : MethodId} {args : Array Value} {below : List Frame} {meth : Method} {c : Code} {Q : State → Prop}
variable {D : va_G} {D7 : Nat → ClassId} {B0 : Nat} {E S0 : St} {α0 : Nat → Nat → Nat} {m : Nat}
set_option maxHeartbeats 8000000 in
set_option maxRecDepth 100000 in
theorem stp_ok {a : AI} {pc : Nat} {α : Nat → Nat → Nat} {S : St} {lv st : List AV} {H : Heap} {locs : List Loc} {ls : Array Slot} {lv2 st2 : List AV} {S2 : St} (C : Cx p l s mi args meth c D D7 B0 E S0 m) (I : Iv s D D7 B0 E S0 α0 m α S lv st H locs ls) (hc : chkI m pc a = true) (hd : dcd m pc a.1 = true)
    (h : stp a lv st S = some (lv2, st2, S2)) (hv0 : ∀ k, a.1 = .new k → a.2.1 = 0) (hv1 : ∀ k, a.1 = .invokestatic k → a.2.1 = 1) (hv2 : ∀ k, a.1 = .invokespecial k → a.2.1 = 2) (hR1 : sN S2 - sN S0 ≤ R.cells) (hR2 : sM S2 - sM S0 ≤ R.slots) (hF : 2 ≤ R.frames) (hLo : 150 ≤ R.locals)
    (k : ∀ (α2 : Nat → Nat → Nat) (H2 : Heap) (locs2 : List Loc) (ls2 : Array Slot), Iv s D D7 B0 E S0 α0 m α2 S2 lv2 st2 H2 locs2 ls2 → W p l e R s mi args below meth c H2 locs2 (sN S2 - sN S0) (sM S2 - sM S0) Q (F0 mi (pc + ilen a.1) ls2 (st2.map (conc α2)))) :
    W p l e R s mi args below meth c H locs (sN S - sN S0) (sM S - sM S0) Q (F0 mi pc ls (st.map (conc α))) := by
  obtain ⟨hx, hb, hml, hown, hts, hK, hret, hlk, hB0, hnm, htr⟩ := C
  obtain ⟨wi, ro, eq, ext, hS, so, lo, lvo, gr, mn⟩ := I
  have hA : ∀ q : Nat, s.heap.size ≤ q → B0 ≤ q := fun q hq => Nat.le_trans hB0 hq
  obtain ⟨i, v, l9⟩ := a
  cases i with
  | iconst n =>
    have hdg : decode (mB m) pc = .ok (.iconst n, 1) := of_decide_eq_true hd
    simp only [stp] at h
    cases h
    have hv : Int32.ofInt n = v := of_decide_eq_true hc
    refine lv_iconst hx hb hdg hv ?_
    exact k α H locs ls ⟨wi, ro, eq, ext, hS, List.forall_mem_cons.mpr ⟨trivial, so⟩, lo, lvo, gr, mn⟩
  | bipush n =>
    have hdg : decode (mB m) pc = .ok (.bipush n, 2) := of_decide_eq_true hd
    simp only [stp] at h
    cases h
    have hv : (Int8.ofInt n).toInt32 = v := of_decide_eq_true hc
    refine lv_bipush hx hb hdg hv ?_
    exact k α H locs ls ⟨wi, ro, eq, ext, hS, List.forall_mem_cons.mpr ⟨trivial, so⟩, lo, lvo, gr, mn⟩
  | sipush n =>
    have hdg : decode (mB m) pc = .ok (.sipush n, 3) := of_decide_eq_true hd
    simp only [stp] at h
    cases h
    have hv : (Int16.ofInt n).toInt32 = v := of_decide_eq_true hc
    refine lv_sipush hx hb hdg hv ?_
    exact k α H locs ls ⟨wi, ro, eq, ext, hS, List.forall_mem_cons.mpr ⟨trivial, so⟩, lo, lvo, gr, mn⟩
  | fconst f =>
    have hdg : decode (mB m) pc = .ok (.fconst f, 1) := of_decide_eq_true hd
    simp only [stp] at h
    cases h
    have hf : f = 0 := of_decide_eq_true hc
    subst hf
    refine lv_fconst0 hx hb hdg ?_
    exact k α H locs ls ⟨wi, ro, eq, ext, hS, List.forall_mem_cons.mpr ⟨trivial, so⟩, lo, lvo, gr, mn⟩
  | dconst f =>
    have hdg : decode (mB m) pc = .ok (.dconst f, 1) := of_decide_eq_true hd
    simp only [stp] at h
    cases h
    have hf : f = 0 := of_decide_eq_true hc
    subst hf
    refine lv_dconst0 hx hb hdg ?_
    exact k α H locs ls ⟨wi, ro, eq, ext, hS, List.forall_mem_cons.mpr ⟨trivial, so⟩, lo, lvo, gr, mn⟩
  | ldc n =>
    have hdg : decode (mB m) pc = .ok (.ldc n, 2) := of_decide_eq_true hd
    simp only [stp] at h
    by_cases g : g0 l9 0 = 0
    · rw [if_pos g] at h
      cases h
      have hc : inW m (.constant (mY m).cls n v) = true := by
        simp only [chkI] at hc
        rw [if_pos g] at hc
        exact hc
      refine lv_ldc hx hb hown (hts _ (inW_mem hc)) hdg ?_
      exact k α H locs ls ⟨wi, ro, eq, ext, hS, List.forall_mem_cons.mpr ⟨trivial, so⟩, lo, lvo, gr, mn⟩
    · rw [if_neg g] at h
      cases h
      simp only [chkI] at hc
      rw [if_neg g] at hc
      simp only [Bool.and_eq_true, decide_eq_true_eq] at hc
      obtain ⟨⟨h1, h2⟩, h3⟩ := hc
      have hz := (ext.2.1 (g0 l9 1) h2).2.2.2.2
      rw [h3] at hz
      refine va_ldcS (own := "SighGranary$Script") hx hb (by rw [← h1]; exact hown) hz hdg ?_
      exact k α H locs ls ⟨wi, ro, eq, ext, hS, List.forall_mem_cons.mpr ⟨Or.inr (Or.inl ⟨rfl, h2⟩), so⟩, lo, lvo, gr, mn⟩
  | iload_n n =>
    have hdg : decode (mB m) pc = .ok (.iload_n n, 1) := of_decide_eq_true hd
    simp only [stp] at h
    split at h
    · rename_i hi
      cases h
      generalize hw : lv.getD (g0 l9 0) unk = w at hi k
      have hu : w ≠ unk := by
        rintro rfl
        revert hi
        decide
      have hl := getD_some hw hu
      have hok : okv S w := (lvo _ (List.mem_of_getElem? hl)).resolve_left hu
      have fin := k α H locs ls ⟨wi, ro, eq, ext, hS, List.forall_mem_cons.mpr ⟨hok, so⟩, lo, lvo, gr, mn⟩
      cases w with
      | inl y =>
        cases y <;> first | (cases hi; done) | skip
        refine lv_iload_n hx hb hdg (of_decide_eq_true hc) (lo.2.2.1 _ _ hl hu) fin
      | inr q =>
        cases hi
    · cases h
  | iload n =>
    have hdg : decode (mB m) pc = .ok (.iload n, 2) := of_decide_eq_true hd
    simp only [stp] at h
    split at h
    · rename_i hi
      cases h
      generalize hw : lv.getD (g0 l9 0) unk = w at hi k
      have hu : w ≠ unk := by
        rintro rfl
        revert hi
        decide
      have hl := getD_some hw hu
      have hok : okv S w := (lvo _ (List.mem_of_getElem? hl)).resolve_left hu
      have fin := k α H locs ls ⟨wi, ro, eq, ext, hS, List.forall_mem_cons.mpr ⟨hok, so⟩, lo, lvo, gr, mn⟩
      cases w with
      | inl y =>
        cases y <;> first | (cases hi; done) | skip
        refine lv_iload hx hb hdg (by rw [show n = g0 l9 0 from of_decide_eq_true hc]; exact lo.2.2.1 _ _ hl hu) fin
      | inr q =>
        cases hi
    · cases h
  | aload_n n =>
    have hdg : decode (mB m) pc = .ok (.aload_n n, 1) := of_decide_eq_true hd
    simp only [stp] at h
    split at h
    · rename_i hi
      cases h
      generalize hw : lv.getD (g0 l9 0) unk = w at hi k
      have hu : w ≠ unk := by
        rintro rfl
        revert hi
        decide
      have hl := getD_some hw hu
      have hok : okv S w := (lvo _ (List.mem_of_getElem? hl)).resolve_left hu
      have fin := k α H locs ls ⟨wi, ro, eq, ext, hS, List.forall_mem_cons.mpr ⟨hok, so⟩, lo, lvo, gr, mn⟩
      cases w with
      | inl y =>
        cases hi
        
      | inr q =>
        refine lv_aload_n hx hb hdg (of_decide_eq_true hc) (lo.2.2.1 _ _ hl hu) fin
    · cases h
  | aload n =>
    have hdg : decode (mB m) pc = .ok (.aload n, 2) := of_decide_eq_true hd
    simp only [stp] at h
    split at h
    · rename_i hi
      cases h
      generalize hw : lv.getD (g0 l9 0) unk = w at hi k
      have hu : w ≠ unk := by
        rintro rfl
        revert hi
        decide
      have hl := getD_some hw hu
      have hok : okv S w := (lvo _ (List.mem_of_getElem? hl)).resolve_left hu
      have fin := k α H locs ls ⟨wi, ro, eq, ext, hS, List.forall_mem_cons.mpr ⟨hok, so⟩, lo, lvo, gr, mn⟩
      cases w with
      | inl y =>
        cases hi
        
      | inr q =>
        refine lv_aload hx hb hdg (by rw [show n = g0 l9 0 from of_decide_eq_true hc]; exact lo.2.2.1 _ _ hl hu) fin
    · cases h
  | dload_n n =>
    have hdg : decode (mB m) pc = .ok (.dload_n n, 1) := of_decide_eq_true hd
    simp only [stp] at h
    split at h
    · rename_i hi
      cases h
      generalize hw : lv.getD (g0 l9 0) unk = w at hi k
      have hu : w ≠ unk := by
        rintro rfl
        revert hi
        decide
      have hl := getD_some hw hu
      have hok : okv S w := (lvo _ (List.mem_of_getElem? hl)).resolve_left hu
      have fin := k α H locs ls ⟨wi, ro, eq, ext, hS, List.forall_mem_cons.mpr ⟨hok, so⟩, lo, lvo, gr, mn⟩
      cases w with
      | inl y =>
        cases y <;> first | (cases hi; done) | skip
        refine lv_dload_n hx hb hdg (of_decide_eq_true hc) (lo.2.2.1 _ _ hl hu) fin
      | inr q =>
        cases hi
    · cases h
  | dload n =>
    have hdg : decode (mB m) pc = .ok (.dload n, 2) := of_decide_eq_true hd
    simp only [stp] at h
    split at h
    · rename_i hi
      cases h
      generalize hw : lv.getD (g0 l9 0) unk = w at hi k
      have hu : w ≠ unk := by
        rintro rfl
        revert hi
        decide
      have hl := getD_some hw hu
      have hok : okv S w := (lvo _ (List.mem_of_getElem? hl)).resolve_left hu
      have fin := k α H locs ls ⟨wi, ro, eq, ext, hS, List.forall_mem_cons.mpr ⟨hok, so⟩, lo, lvo, gr, mn⟩
      cases w with
      | inl y =>
        cases y <;> first | (cases hi; done) | skip
        refine lv_dload hx hb hdg (by rw [show n = g0 l9 0 from of_decide_eq_true hc]; exact lo.2.2.1 _ _ hl hu) fin
      | inr q =>
        cases hi
    · cases h
  | istore_n n =>
    have hdg : decode (mB m) pc = .ok (.istore_n n, 1) := of_decide_eq_true hd
    simp only [stp] at h
    obtain ⟨w, st3, rfl, h⟩ := pV_some h
    split at h
    · rename_i hi
      cases h
      simp only [chkI, Bool.and_eq_true, decide_eq_true_eq] at hc
      obtain ⟨⟨h1, h2⟩, h3⟩ := hc
      obtain ⟨so1, so3⟩ := List.forall_mem_cons.mp so
      have hcat : cat w = 1 := by
        cases w with
        | inr q => rfl
        | inl y => cases y <;> first | rfl | (revert hi; decide)
      have fin : ∀ ls2 : Array Slot, lv_has ls2 (ML m) ((g0 l9 0, conc α w) :: (knL α lv).filter (fun q => !(q.1 == g0 l9 0) && !(q.1 + 1 == g0 l9 0 && q.2.category == 2))) → W p l e R s mi args below meth c H locs (sN S - sN S0) (sM S - sM S0) Q (F0 mi (pc + 1) ls2 (st3.map (conc α))) := fun ls2 hl2 => k α H locs ls2 ⟨wi, ro, eq, ext, hS, so3, lo.set1 h2 h3 hcat hl2, fun z hz => by
          rcases List.mem_or_eq_of_mem_set hz with hz | rfl
          · exact lvo z hz
          · exact Or.inr so1, gr, mn⟩
      cases w with
      | inl y =>
        cases y <;> first | (cases hi; done) | skip
        
        exact lv_istore_n hx hb hdg h1 lo.has h2 rfl fin
      | inr q =>
        
        cases hi
    · cases h
  | istore n =>
    have hdg : decode (mB m) pc = .ok (.istore n, 2) := of_decide_eq_true hd
    simp only [stp] at h
    obtain ⟨w, st3, rfl, h⟩ := pV_some h
    split at h
    · rename_i hi
      cases h
      simp only [chkI, Bool.and_eq_true, decide_eq_true_eq] at hc
      obtain ⟨⟨h1, h2⟩, h3⟩ := hc
      obtain ⟨so1, so3⟩ := List.forall_mem_cons.mp so
      have hcat : cat w = 1 := by
        cases w with
        | inr q => rfl
        | inl y => cases y <;> first | rfl | (revert hi; decide)
      have fin : ∀ ls2 : Array Slot, lv_has ls2 (ML m) ((g0 l9 0, conc α w) :: (knL α lv).filter (fun q => !(q.1 == g0 l9 0) && !(q.1 + 1 == g0 l9 0 && q.2.category == 2))) → W p l e R s mi args below meth c H locs (sN S - sN S0) (sM S - sM S0) Q (F0 mi (pc + 2) ls2 (st3.map (conc α))) := fun ls2 hl2 => k α H locs ls2 ⟨wi, ro, eq, ext, hS, so3, lo.set1 h2 h3 hcat hl2, fun z hz => by
          rcases List.mem_or_eq_of_mem_set hz with hz | rfl
          · exact lvo z hz
          · exact Or.inr so1, gr, mn⟩
      cases w with
      | inl y =>
        cases y <;> first | (cases hi; done) | skip
        
        subst h1; exact lv_istore hx hb hdg lo.has h2 rfl fin
      | inr q =>
        
        cases hi
    · cases h
  | astore_n n =>
    have hdg : decode (mB m) pc = .ok (.astore_n n, 1) := of_decide_eq_true hd
    simp only [stp] at h
    obtain ⟨w, st3, rfl, h⟩ := pV_some h
    split at h
    · rename_i hi
      cases h
      simp only [chkI, Bool.and_eq_true, decide_eq_true_eq] at hc
      obtain ⟨⟨h1, h2⟩, h3⟩ := hc
      obtain ⟨so1, so3⟩ := List.forall_mem_cons.mp so
      have hcat : cat w = 1 := by
        cases w with
        | inr q => rfl
        | inl y => cases y <;> first | rfl | (revert hi; decide)
      have fin : ∀ ls2 : Array Slot, lv_has ls2 (ML m) ((g0 l9 0, conc α w) :: (knL α lv).filter (fun q => !(q.1 == g0 l9 0) && !(q.1 + 1 == g0 l9 0 && q.2.category == 2))) → W p l e R s mi args below meth c H locs (sN S - sN S0) (sM S - sM S0) Q (F0 mi (pc + 1) ls2 (st3.map (conc α))) := fun ls2 hl2 => k α H locs ls2 ⟨wi, ro, eq, ext, hS, so3, lo.set1 h2 h3 hcat hl2, fun z hz => by
          rcases List.mem_or_eq_of_mem_set hz with hz | rfl
          · exact lvo z hz
          · exact Or.inr so1, gr, mn⟩
      cases w with
      | inl y =>
        cases hi
        
        
      | inr q =>
        exact lv_astore_n hx hb hdg h1 lo.has h2 rfl fin
        
    · cases h
  | astore n =>
    have hdg : decode (mB m) pc = .ok (.astore n, 2) := of_decide_eq_true hd
    simp only [stp] at h
    obtain ⟨w, st3, rfl, h⟩ := pV_some h
    split at h
    · rename_i hi
      cases h
      simp only [chkI, Bool.and_eq_true, decide_eq_true_eq] at hc
      obtain ⟨⟨h1, h2⟩, h3⟩ := hc
      obtain ⟨so1, so3⟩ := List.forall_mem_cons.mp so
      have hcat : cat w = 1 := by
        cases w with
        | inr q => rfl
        | inl y => cases y <;> first | rfl | (revert hi; decide)
      have fin : ∀ ls2 : Array Slot, lv_has ls2 (ML m) ((g0 l9 0, conc α w) :: (knL α lv).filter (fun q => !(q.1 == g0 l9 0) && !(q.1 + 1 == g0 l9 0 && q.2.category == 2))) → W p l e R s mi args below meth c H locs (sN S - sN S0) (sM S - sM S0) Q (F0 mi (pc + 2) ls2 (st3.map (conc α))) := fun ls2 hl2 => k α H locs ls2 ⟨wi, ro, eq, ext, hS, so3, lo.set1 h2 h3 hcat hl2, fun z hz => by
          rcases List.mem_or_eq_of_mem_set hz with hz | rfl
          · exact lvo z hz
          · exact Or.inr so1, gr, mn⟩
      cases w with
      | inl y =>
        cases hi
        
        
      | inr q =>
        subst h1; exact lv_astore hx hb hdg lo.has h2 rfl fin
        
    · cases h
  | dstore n =>
    have hdg : decode (mB m) pc = .ok (.dstore n, 2) := of_decide_eq_true hd
    simp only [stp] at h
    obtain ⟨w, st3, rfl, h⟩ := pV_some h
    split at h
    · rename_i hi
      cases h
      simp only [chkI, Bool.and_eq_true, decide_eq_true_eq] at hc
      obtain ⟨⟨⟨h1, h2⟩, h3⟩, h4⟩ := hc
      obtain ⟨so1, so3⟩ := List.forall_mem_cons.mp so
      have fin : ∀ ls2 : Array Slot, lv_has ls2 (ML m) ((g0 l9 0, conc α w) :: (knL α lv).filter (fun q => !(q.1 == g0 l9 0) && (!(q.1 == g0 l9 0 + 1) && !(q.1 + 1 == g0 l9 0 && q.2.category == 2)))) → W p l e R s mi args below meth c H locs (sN S - sN S0) (sM S - sM S0) Q (F0 mi (pc + 2) ls2 (st3.map (conc α))) := fun ls2 hl2 => k α H locs ls2 ⟨wi, ro, eq, ext, hS, so3, lo.set2 h2 h3 h4 hl2, fun z hz => by
          rcases List.mem_or_eq_of_mem_set hz with hz | rfl
          · rcases List.mem_or_eq_of_mem_set hz with hz | rfl
            · exact lvo z hz
            · exact Or.inr so1
          · exact Or.inl rfl, gr, mn⟩
      cases w with
      | inl y =>
        cases y <;> first | (cases hi; done) | skip
        subst h1; exact lv_dstore hx hb hdg lo.has h2 rfl fin
      | inr q => cases hi
    · cases h
  | iinc n z =>
    have hdg : decode (mB m) pc = .ok (.iinc n z, 3) := of_decide_eq_true hd
    simp only [stp] at h
    split at h
    · rename_i x hw
      cases h
      simp only [chkI, Bool.and_eq_true, decide_eq_true_eq] at hc
      obtain ⟨⟨⟨h1, h2⟩, h3⟩, h4⟩ := hc
      have hl := getD_some hw (fun z => by cases z)
      obtain ⟨kk, hkk⟩ := List.getElem?_of_mem (knL_mem (α := α).mpr ⟨vi x, hl, fun z => (by cases z), rfl⟩ : ((g0 l9 0, Value.int x) : Nat × Value) ∈ knL α lv)
      subst h1
      refine lv_iinc (v := x + v) hx hb hdg lo.has hkk (by rw [h2]) h3 rfl (fun ls2 hl2 => ?_)
      exact k α H locs ls2 ⟨wi, ro, eq, ext, hS, so, lo.set1 (v := vi (x + v)) h3 h4 rfl hl2, fun z hz => by
          rcases List.mem_or_eq_of_mem_set hz with hz | rfl
          · exact lvo z hz
          · exact Or.inr trivial, gr, mn⟩
    · cases h
  | pop =>
    have hdg : decode (mB m) pc = .ok (.pop, 1) := of_decide_eq_true hd
    simp only [stp] at h
    obtain ⟨w, st3, rfl, h⟩ := pV_some h
    split at h
    · rename_i hi
      cases h
      refine lv_pop hx hb hdg (by rw [conc_cat]; exact hi) ?_
      exact k α H locs ls ⟨wi, ro, eq, ext, hS, (List.forall_mem_cons.mp so).2, lo, lvo, gr, mn⟩
    · cases h
  | dup =>
    have hdg : decode (mB m) pc = .ok (.dup, 1) := of_decide_eq_true hd
    simp only [stp] at h
    obtain ⟨w, st3, rfl, h⟩ := pV_some h
    split at h
    · rename_i hi
      cases h
      refine lv_dup hx hb hdg (by rw [conc_cat]; exact hi) ?_
      exact k α H locs ls ⟨wi, ro, eq, ext, hS, List.forall_mem_cons.mpr ⟨(List.forall_mem_cons.mp so).1, so⟩, lo, lvo, gr, mn⟩
    · cases h
  | dup_x1 =>
    have hdg : decode (mB m) pc = .ok (.dup_x1, 1) := of_decide_eq_true hd
    simp only [stp] at h
    obtain ⟨w, w2, st3, rfl, h⟩ := pVV_some h
    split at h
    · rename_i hi
      cases h
      obtain ⟨a1, a9⟩ := List.forall_mem_cons.mp so
      obtain ⟨a2, a3⟩ := List.forall_mem_cons.mp a9
      refine lv_dup_x1 hx hb hdg (by rw [conc_cat]; exact hi.1) (by rw [conc_cat]; exact hi.2) ?_
      exact k α H locs ls ⟨wi, ro, eq, ext, hS, List.forall_mem_cons.mpr ⟨a1, List.forall_mem_cons.mpr ⟨a2, List.forall_mem_cons.mpr ⟨a1, a3⟩⟩⟩, lo, lvo, gr, mn⟩
    · cases h
  | dup2 =>
    have hdg : decode (mB m) pc = .ok (.dup2, 1) := of_decide_eq_true hd
    simp only [stp] at h
    obtain ⟨w, w2, st3, rfl, h⟩ := pVV_some h
    split at h
    · rename_i hi
      cases h
      obtain ⟨a1, a9⟩ := List.forall_mem_cons.mp so
      obtain ⟨a2, a3⟩ := List.forall_mem_cons.mp a9
      refine lv_dup2_11 hx hb hdg (by rw [conc_cat]; exact hi.1) (by rw [conc_cat]; exact hi.2) ?_
      exact k α H locs ls ⟨wi, ro, eq, ext, hS, List.forall_mem_cons.mpr ⟨a1, List.forall_mem_cons.mpr ⟨a2, so⟩⟩, lo, lvo, gr, mn⟩
    · cases h
  | iadd =>
    have hdg : decode (mB m) pc = .ok (.iadd, 1) := of_decide_eq_true hd
    simp only [stp] at h
    obtain ⟨x, y, st3, rfl, h⟩ := pII_some h
    cases h
    refine lv_iadd hx hb hdg ?_
    exact k α H locs ls ⟨wi, ro, eq, ext, hS, List.forall_mem_cons.mpr ⟨trivial, (List.forall_mem_cons.mp (List.forall_mem_cons.mp so).2).2⟩, lo, lvo, gr, mn⟩
  | isub =>
    have hdg : decode (mB m) pc = .ok (.isub, 1) := of_decide_eq_true hd
    simp only [stp] at h
    obtain ⟨x, y, st3, rfl, h⟩ := pII_some h
    cases h
    refine lv_isub hx hb hdg ?_
    exact k α H locs ls ⟨wi, ro, eq, ext, hS, List.forall_mem_cons.mpr ⟨trivial, (List.forall_mem_cons.mp (List.forall_mem_cons.mp so).2).2⟩, lo, lvo, gr, mn⟩
  | imul =>
    have hdg : decode (mB m) pc = .ok (.imul, 1) := of_decide_eq_true hd
    simp only [stp] at h
    obtain ⟨x, y, st3, rfl, h⟩ := pII_some h
    cases h
    refine lv_imul hx hb hdg ?_
    exact k α H locs ls ⟨wi, ro, eq, ext, hS, List.forall_mem_cons.mpr ⟨trivial, (List.forall_mem_cons.mp (List.forall_mem_cons.mp so).2).2⟩, lo, lvo, gr, mn⟩
  | iand =>
    have hdg : decode (mB m) pc = .ok (.iand, 1) := of_decide_eq_true hd
    simp only [stp] at h
    obtain ⟨x, y, st3, rfl, h⟩ := pII_some h
    cases h
    refine lv_iand hx hb hdg ?_
    exact k α H locs ls ⟨wi, ro, eq, ext, hS, List.forall_mem_cons.mpr ⟨trivial, (List.forall_mem_cons.mp (List.forall_mem_cons.mp so).2).2⟩, lo, lvo, gr, mn⟩
  | ior =>
    have hdg : decode (mB m) pc = .ok (.ior, 1) := of_decide_eq_true hd
    simp only [stp] at h
    obtain ⟨x, y, st3, rfl, h⟩ := pII_some h
    cases h
    refine lv_ior hx hb hdg ?_
    exact k α H locs ls ⟨wi, ro, eq, ext, hS, List.forall_mem_cons.mpr ⟨trivial, (List.forall_mem_cons.mp (List.forall_mem_cons.mp so).2).2⟩, lo, lvo, gr, mn⟩
  | ixor =>
    have hdg : decode (mB m) pc = .ok (.ixor, 1) := of_decide_eq_true hd
    simp only [stp] at h
    obtain ⟨x, y, st3, rfl, h⟩ := pII_some h
    cases h
    refine lv_ixor hx hb hdg ?_
    exact k α H locs ls ⟨wi, ro, eq, ext, hS, List.forall_mem_cons.mpr ⟨trivial, (List.forall_mem_cons.mp (List.forall_mem_cons.mp so).2).2⟩, lo, lvo, gr, mn⟩
  | ishl =>
    have hdg : decode (mB m) pc = .ok (.ishl, 1) := of_decide_eq_true hd
    simp only [stp] at h
    obtain ⟨x, y, st3, rfl, h⟩ := pII_some h
    cases h
    refine lv_ishl hx hb hdg ?_
    exact k α H locs ls ⟨wi, ro, eq, ext, hS, List.forall_mem_cons.mpr ⟨trivial, (List.forall_mem_cons.mp (List.forall_mem_cons.mp so).2).2⟩, lo, lvo, gr, mn⟩
  | ishr =>
    have hdg : decode (mB m) pc = .ok (.ishr, 1) := of_decide_eq_true hd
    simp only [stp] at h
    obtain ⟨x, y, st3, rfl, h⟩ := pII_some h
    cases h
    refine lv_ishr hx hb hdg ?_
    exact k α H locs ls ⟨wi, ro, eq, ext, hS, List.forall_mem_cons.mpr ⟨trivial, (List.forall_mem_cons.mp (List.forall_mem_cons.mp so).2).2⟩, lo, lvo, gr, mn⟩
  | idiv =>
    have hdg : decode (mB m) pc = .ok (.idiv, 1) := of_decide_eq_true hd
    simp only [stp] at h
    obtain ⟨x, y, st3, rfl, h⟩ := pII_some h
    split at h
    · cases h
    · rename_i hy
      cases h
      refine lv_idiv hx hb hdg hy ?_
      exact k α H locs ls ⟨wi, ro, eq, ext, hS, List.forall_mem_cons.mpr ⟨trivial, (List.forall_mem_cons.mp (List.forall_mem_cons.mp so).2).2⟩, lo, lvo, gr, mn⟩
  | irem =>
    have hdg : decode (mB m) pc = .ok (.irem, 1) := of_decide_eq_true hd
    simp only [stp] at h
    obtain ⟨x, y, st3, rfl, h⟩ := pII_some h
    split at h
    · cases h
    · rename_i hy
      cases h
      refine lv_irem hx hb hdg hy ?_
      exact k α H locs ls ⟨wi, ro, eq, ext, hS, List.forall_mem_cons.mpr ⟨trivial, (List.forall_mem_cons.mp (List.forall_mem_cons.mp so).2).2⟩, lo, lvo, gr, mn⟩
  | ineg =>
    have hdg : decode (mB m) pc = .ok (.ineg, 1) := of_decide_eq_true hd
    simp only [stp] at h
    obtain ⟨x, st3, rfl, h⟩ := pI_some h
    cases h
    refine lv_ineg hx hb hdg ?_
    exact k α H locs ls ⟨wi, ro, eq, ext, hS, List.forall_mem_cons.mpr ⟨trivial, (List.forall_mem_cons.mp so).2⟩, lo, lvo, gr, mn⟩
  | i2l =>
    have hdg : decode (mB m) pc = .ok (.i2l, 1) := of_decide_eq_true hd
    simp only [stp] at h
    obtain ⟨x, st3, rfl, h⟩ := pI_some h
    cases h
    refine lv_i2l hx hb hdg rfl ?_
    exact k α H locs ls ⟨wi, ro, eq, ext, hS, List.forall_mem_cons.mpr ⟨trivial, (List.forall_mem_cons.mp so).2⟩, lo, lvo, gr, mn⟩
  | i2c =>
    have hdg : decode (mB m) pc = .ok (.i2c, 1) := of_decide_eq_true hd
    simp only [stp] at h
    obtain ⟨x, st3, rfl, h⟩ := pI_some h
    cases h
    refine lv_i2c hx hb hdg rfl ?_
    exact k α H locs ls ⟨wi, ro, eq, ext, hS, List.forall_mem_cons.mpr ⟨trivial, (List.forall_mem_cons.mp so).2⟩, lo, lvo, gr, mn⟩
  | i2b =>
    have hdg : decode (mB m) pc = .ok (.i2b, 1) := of_decide_eq_true hd
    simp only [stp] at h
    obtain ⟨x, st3, rfl, h⟩ := pI_some h
    cases h
    refine lv_i2b hx hb hdg rfl ?_
    exact k α H locs ls ⟨wi, ro, eq, ext, hS, List.forall_mem_cons.mpr ⟨trivial, (List.forall_mem_cons.mp so).2⟩, lo, lvo, gr, mn⟩
  | i2f =>
    have hdg : decode (mB m) pc = .ok (.i2f, 1) := of_decide_eq_true hd
    simp only [stp] at h
    obtain ⟨x, st3, rfl, h⟩ := pI_some h
    cases h
    refine lv_i2f hx hb hdg ?_
    exact k α H locs ls ⟨wi, ro, eq, ext, hS, List.forall_mem_cons.mpr ⟨trivial, (List.forall_mem_cons.mp so).2⟩, lo, lvo, gr, mn⟩
  | i2d =>
    have hdg : decode (mB m) pc = .ok (.i2d, 1) := of_decide_eq_true hd
    simp only [stp] at h
    obtain ⟨x, st3, rfl, h⟩ := pI_some h
    cases h
    refine lv_i2d hx hb hdg ?_
    exact k α H locs ls ⟨wi, ro, eq, ext, hS, List.forall_mem_cons.mpr ⟨trivial, (List.forall_mem_cons.mp so).2⟩, lo, lvo, gr, mn⟩
  | f2d =>
    have hdg : decode (mB m) pc = .ok (.f2d, 1) := of_decide_eq_true hd
    simp only [stp] at h
    split at h
    · split at h
      · rename_i hn
        cases h
        refine lv_f2d hx hb hdg (of_decide_eq_true hn) ?_
        exact k α H locs ls ⟨wi, ro, eq, ext, hS, List.forall_mem_cons.mpr ⟨trivial, (List.forall_mem_cons.mp so).2⟩, lo, lvo, gr, mn⟩
      · cases h
    · cases h
  | fdiv =>
    have hdg : decode (mB m) pc = .ok (.fdiv, 1) := of_decide_eq_true hd
    simp only [stp] at h
    split at h
    · split at h
      · rename_i hn
        cases h
        refine lv_fdiv hx hb hdg (of_decide_eq_true hn) ?_
        exact k α H locs ls ⟨wi, ro, eq, ext, hS, List.forall_mem_cons.mpr ⟨trivial, (List.forall_mem_cons.mp (List.forall_mem_cons.mp so).2).2⟩, lo, lvo, gr, mn⟩
      · cases h
    · cases h
  | ddiv =>
    have hdg : decode (mB m) pc = .ok (.ddiv, 1) := of_decide_eq_true hd
    simp only [stp] at h
    split at h
    · split at h
      · rename_i hn
        cases h
        refine lv_ddiv hx hb hdg (of_decide_eq_true hn) ?_
        exact k α H locs ls ⟨wi, ro, eq, ext, hS, List.forall_mem_cons.mpr ⟨trivial, (List.forall_mem_cons.mp (List.forall_mem_cons.mp so).2).2⟩, lo, lvo, gr, mn⟩
      · cases h
    · cases h
  | lcmp =>
    have hdg : decode (mB m) pc = .ok (.lcmp, 1) := of_decide_eq_true hd
    simp only [stp] at h
    split at h
    · cases h
      refine W.lcmp hx hb hdg ?_
      exact k α H locs ls ⟨wi, ro, eq, ext, hS, List.forall_mem_cons.mpr ⟨trivial, (List.forall_mem_cons.mp (List.forall_mem_cons.mp so).2).2⟩, lo, lvo, gr, mn⟩
    · cases h
  | dcmp op =>
    have hdg : decode (mB m) pc = .ok (.dcmp op, 1) := of_decide_eq_true hd
    simp only [stp] at h
    split at h
    · cases h
      refine lv_dcmp hx hb hdg ?_
      exact k α H locs ls ⟨wi, ro, eq, ext, hS, List.forall_mem_cons.mpr ⟨trivial, (List.forall_mem_cons.mp (List.forall_mem_cons.mp so).2).2⟩, lo, lvo, gr, mn⟩
    · cases h
  | getfield n =>
    have hdg : decode (mB m) pc = .ok (.getfield n, 3) := of_decide_eq_true hd
    simp only [stp] at h
    obtain ⟨t, i, st3, rfl, h⟩ := pR_some h
    split at h
    · rename_i htt
      obtain ⟨so1, so3⟩ := List.forall_mem_cons.mp so
      simp only [chkI, chkF, ← htt] at hc
      split at hc
      · rename_i q hq
        simp only [Bool.and_eq_true, decide_eq_true_eq] at hc
        obtain ⟨⟨h1, h2⟩, h3⟩ := hc
        have ht := cl_lt hq
        have hi := okr_w (cl_isW ht) so1
        obtain ⟨L, hn, hL, hP, hD⟩ := wi
        obtain ⟨kk, hk, hws⟩ := wOf_at (D7 := D7) (α := α) (S := S) ((hL t i).mpr ⟨cl_isW ht, hi⟩)
        have hws2 : (wOf D7 α S L)[kk]? = some (α t i, .inr (t, (List.range q.2.2).map (fldV α S t i))) := by
          rw [hws]
          simp only [entE, if_pos ht, nF_eq hq]
        have hfs : ((List.range q.2.2).map (fldV α S t i))[g0 l9 1]? = some (fldV α S t i (g0 l9 1)) := by simp [h1]
        have fin : ∀ w, okv S w → conc α w = fldV α S t i (g0 l9 1) → (lv2 = lv ∧ st2 = w :: st3 ∧ S2 = S) → W p l e R s mi args below meth c H locs (sN S - sN S0) (sM S - sM S0) Q (F0 mi pc ls ((vr t i :: st3).map (conc α))) := by
          rintro w hw he ⟨rfl, rfl, rfl⟩
          refine va_get (D := D) (cl := clL) (ci := t) (C := q.1) (T := q.2.1) (N := q.2.2) (ref := (q.2.1 (g0 l9 1)).1) hx hb hts (cls_fact hq).1 hown hK hP kk hws2 hq (g0 l9 1) h1 (hts _ (inW_mem h2)) (fun _ h9 => h9) hfs hdg ?_
          rw [← he]
          exact k α H locs ls ⟨⟨L, hn, hL, hP, hD⟩, ro, eq, ext, hS, List.forall_mem_cons.mpr ⟨hw, so3⟩, lo, lvo, gr, mn⟩
        by_cases hv : v = 0
        · rw [if_pos hv] at h h3
          cases h
          simp only [Bool.not_eq_true'] at h3
          exact fin (vi (sI S t i (g0 l9 1))) trivial (by simp [fldV, h3, conc]) ⟨rfl, rfl, rfl⟩
        · rw [if_neg hv] at h h3
          cases h
          simp only [Bool.and_eq_true, decide_eq_true_eq] at h3
          refine fin (sR S t i (g0 l9 1)) ?_ (by simp [fldV, h3.2]) ⟨rfl, rfl, rfl⟩
          cases hr : sR S t i (g0 l9 1) with
          | inl y => trivial
          | inr q9 => exact ro t i _ q9 (Or.inl ⟨cl_isW ht, hi⟩) hr
      · simp only [Bool.and_eq_true, Bool.or_eq_true, decide_eq_true_eq] at hc
        obtain ⟨h12, hc⟩ := hc
        subst h12
        have hi : i < 10 := by
          rcases so1 with ⟨z, -⟩ | ⟨-, z⟩ | ⟨z, -⟩ | z | z | z
          · exact absurd z (by decide)
          · exact z
          all_goals first | (cases z; done) | (exact absurd z (by decide))
        obtain ⟨e1, e2, e3, -, -⟩ := ext.2.1 i hi
        rcases hc with ⟨⟨hj, hv⟩, hw⟩ | ⟨⟨hj, hv⟩, hw⟩
        · subst hv
          rw [if_neg (by decide), hj] at h
          cases h
          refine vk_getf hx hb e3 hS hown (hts _ (inW_mem hw)) (fun _ h9 => h9) hdg ?_
          rw [← (eq.ext (t := 12) rfl).2.1]
          refine k α H locs ls ⟨wi, ro, eq, ext, hS, List.forall_mem_cons.mpr ⟨?_, so3⟩, lo, lvo, gr, mn⟩
          cases hr : sR S 12 i 0 with
          | inl y => trivial
          | inr q9 => exact ro 12 i _ q9 (Or.inr (Or.inl rfl)) hr
        · subst hv
          rw [if_pos rfl, hj] at h
          cases h
          refine vk_getf hx hb e2 hS hown (hts _ (inW_mem hw)) (fun _ h9 => h9) hdg ?_
          rw [← (eq.ext (t := 12) rfl).1]
          exact k α H locs ls ⟨wi, ro, eq, ext, hS, List.forall_mem_cons.mpr ⟨trivial, so3⟩, lo, lvo, gr, mn⟩
    · cases h
  | putfield n =>
    have hdg : decode (mB m) pc = .ok (.putfield n, 3) := of_decide_eq_true hd
    simp only [stp] at h
    obtain ⟨w, r, st3, rfl, h⟩ := pVV_some h
    split at h
    · rename_i t i
      split at h
      · rename_i htt
        obtain ⟨so1, so2⟩ := List.forall_mem_cons.mp so
        obtain ⟨so2, so3⟩ := List.forall_mem_cons.mp so2
        simp only [chkI, chkP, ← htt] at hc
        split at hc
        · rename_i q hq
          simp only [Bool.and_eq_true, decide_eq_true_eq] at hc
          obtain ⟨⟨⟨h1, h2⟩, h3⟩, h4⟩ := hc
          have ht := cl_lt hq
          have hW := cl_isW ht
          have hi := okr_w hW so2
          obtain ⟨L, hn, hL, hP, hD⟩ := wi
          obtain ⟨kk, hk, hws⟩ := wOf_at (D7 := D7) (α := α) (S := S) ((hL t i).mpr ⟨hW, hi⟩)
          have hws2 : (wOf D7 α S L)[kk]? = some (α t i, .inr (t, (List.range q.2.2).map (fldV α S t i))) := by
            rw [hws]
            simp only [entE, if_pos ht, nF_eq hq]
          have hfin : (q.2.1 (g0 l9 1)).2.2.2 = false ∨ ((mY m).name = "<init>" ∧ (q.2.1 (g0 l9 1)).1 = (mY m).cls) := by
            simpa using h3
          obtain ⟨f1, f2, f3, -⟩ := cls_fact hq
          -- the row, for either kind of value
          have fin : ∀ (ty : FieldType) (z : Value), parseFieldDescriptor (q.2.1 (g0 l9 1)).2.2.1 = some ty → narrow ty z = z → fits ty z = true → conc α w = z →
              (∀ (H1 : Heap) (locs1 : List Loc), va_P D clL ((wOf D7 α S L).set kk (α t i, .inr (t, ((List.range q.2.2).map (fldV α S t i)).set (g0 l9 1) z))) H1 → va_D (fun q => B0 ≤ q) ((wOf D7 α S L).set kk (α t i, .inr (t, ((List.range q.2.2).map (fldV α S t i)).set (g0 l9 1) z))) → va_S (fun q => B0 ≤ q) s.heap H1 locs1 → W p l e R s mi args below meth c H1 locs1 (sN S - sN S0) (sM S - sM S0) Q (F0 mi (pc + 3) ls (st3.map (conc α)))) →
              W p l e R s mi args below meth c H locs (sN S - sN S0) (sM S - sM S0) Q (F0 mi pc ls ((w :: vr t i :: st3).map (conc α))) := by
            intro ty z hty hnar hfit hcz kkk
            subst hcz
            rcases hfin with hf0 | ⟨hf1, hf2⟩
            · exact va_put (D := D) (cl := clL) (ci := t) (C := q.1) (T := q.2.1) (N := q.2.2) (ref := (q.2.1 (g0 l9 1)).1) hx hb hts f1 _ f2 f3 hown hK hP hD hS kk hws2 hq (g0 l9 1) h1 (hts _ (inW_mem h2)) (fun _ h9 => h9) hf0 hty hnar hfit (by simpa using h1) hdg kkk
            · cases hf0 : (q.2.1 (g0 l9 1)).2.2.2 with
              | false => exact va_put (D := D) (cl := clL) (ci := t) (C := q.1) (T := q.2.1) (N := q.2.2) (ref := (q.2.1 (g0 l9 1)).1) hx hb hts f1 _ f2 f3 hown hK hP hD hS kk hws2 hq (g0 l9 1) h1 (hts _ (inW_mem h2)) (fun _ h9 => h9) hf0 hty hnar hfit (by simpa using h1) hdg kkk
              | true => exact va_putF (D := D) (cl := clL) (ci := t) (C := q.1) (T := q.2.1) (N := q.2.2) (ref := (q.2.1 (g0 l9 1)).1) hx hb hts f1 _ f2 f3 hown hK hP hD hS kk hws2 hq (g0 l9 1) h1 (hts _ (inW_mem h2)) (fun _ h9 => h9) hf0 (hnm.trans hf1) hf2 hty hnar hfit (by simpa using h1) hdg kkk
          by_cases hv : v = 0
          · rw [if_pos hv] at h h4
            simp only [Bool.and_eq_true, Bool.or_eq_true, Bool.not_eq_true', decide_eq_true_eq] at h4
            obtain ⟨hrf, hty⟩ := h4
            split at h
            · rename_i x
              split at h
              · rename_i hcond
                cases h
                have hset : ((List.range q.2.2).map (fldV α S t i)).set (g0 l9 1) (.int x) = (List.range q.2.2).map (fldV α (wI S t i (g0 l9 1) x) t i) := by
                  apply List.ext_getElem?
                  intro j
                  rw [List.getElem?_set]
                  by_cases hj : g0 l9 1 = j
                  · subst hj
                    rw [if_pos rfl, if_pos (by simpa using h1)]
                    simp [h1, fldV, hrf, sI, wI, up3]
                  · rw [if_neg hj]
                    simp only [List.getElem?_map]
                    cases hjr : (List.range q.2.2)[j]? with
                    | none => rfl
                    | some j2 =>
                      have : j2 = j := by
                        obtain ⟨hlt, e9⟩ := List.getElem?_eq_some_iff.mp hjr
                        rw [List.getElem_range] at e9
                        exact e9.symm
                      subst this
                      simp only [Option.map_some]
                      congr 1
                      unfold fldV
                      rw [show sI (wI S t i (g0 l9 1) x) t i j2 = sI S t i j2 from if_neg (fun z => hj z.2.2.symm)]
                      rfl
                have key : ∀ ty : FieldType, parseFieldDescriptor (q.2.1 (g0 l9 1)).2.2.1 = some ty → narrow ty (.int x) = .int x → fits ty (.int x) = true → W p l e R s mi args below meth c H locs (sN S - sN S0) (sM S - sM S0) Q (F0 mi pc ls ((vi x :: vr t i :: st3).map (conc α))) := by
                  intro ty a1 a2 a3
                  refine fin ty (.int x) a1 a2 a3 rfl (fun H1 locs1 hP1 hD1 hS1 => ?_)
                  refine k α H1 locs1 ls ⟨WI.putI hn hL hk ?_ hP1 hD1, ro, eq.wI hW, ext, hS1, so3, lo, lvo, gr, mn⟩
                  rw [hset]
                  simp only [entE, if_pos ht, nF_eq hq]
                rcases hty with (⟨hc0, hd0⟩ | ⟨hc0, hd0⟩) | ⟨hc0, hd0⟩
                · exact key .int (by rw [hd0]; decide +kernel) (vp_nar_int x) rfl
                · rw [hc0] at hcond
                  have hb8 : x = x.toInt8.toInt32 := by
                    rcases hcond with z | z | z
                    · exact absurd z (by decide)
                    · exact z.2
                    · exact absurd z.1 (by decide)
                  exact key .byte (by rw [hd0]; decide +kernel) (by rw [hb8]; exact pk_nb x) (by rw [hb8]; exact pk_fb x)
                · rw [hc0] at hcond
                  have hb8 : x = 0 ∨ x = 1 := by
                    rcases hcond with z | z | z
                    · exact absurd z (by decide)
                    · exact absurd z.1 (by decide)
                    · exact z.2
                  rcases hb8 with rfl | rfl
                  · exact key .boolean (by rw [hd0]; decide +kernel) (by decide +kernel) (by decide +kernel)
                  · exact key .boolean (by rw [hd0]; decide +kernel) (by decide +kernel) (by decide +kernel)
              · cases h
            · cases h
          · rw [if_neg hv] at h h4
            simp only [Bool.and_eq_true, decide_eq_true_eq] at h4
            obtain ⟨⟨-, hrf⟩, hty⟩ := h4
            split at h
            · rename_i t2 i2
              split at h
              · cases h
                split at hty
                · rename_i ty hpt
                  have e2 : ∀ q9 : Nat × Nat, q9 ≠ (t, i) → entE D7 α (wR S t i (g0 l9 1) (.inr (t2, i2))) q9 = entE D7 α S q9 := fun q9 hq9 => entE_wR_ne hq9
                  have hset : ((List.range q.2.2).map (fldV α S t i)).set (g0 l9 1) (.ref (α t2 i2)) = (List.range q.2.2).map (fldV α (wR S t i (g0 l9 1) (.inr (t2, i2))) t i) := by
                    apply List.ext_getElem?
                    intro j
                    rw [List.getElem?_set]
                    by_cases hj : g0 l9 1 = j
                    · subst hj
                      rw [if_pos rfl, if_pos (by simpa using h1)]
                      simp [h1, fldV, hrf, sR, wR, up3, conc]
                    · rw [if_neg hj]
                      simp only [List.getElem?_map]
                      cases hjr : (List.range q.2.2)[j]? with
                      | none => rfl
                      | some j2 =>
                        have : j2 = j := by
                          obtain ⟨hlt, e9⟩ := List.getElem?_eq_some_iff.mp hjr
                          rw [List.getElem_range] at e9
                          exact e9.symm
                        subst this
                        simp only [Option.map_some]
                        congr 1
                        unfold fldV
                        rw [show sR (wR S t i (g0 l9 1) (.inr (t2, i2))) t i j2 = sR S t i j2 from if_neg (fun z => hj z.2.2.symm)]
                        rfl
                  refine fin ty (.ref (α t2 i2)) hpt ?_ ?_ rfl (fun H1 locs1 hP1 hD1 hS1 => ?_)
                  · cases ty <;> first | rfl | cases hty
                  · cases ty <;> first | rfl | cases hty
                  · rw [hset] at hP1 hD1
                    rw [wOf_set hn hk (S2 := wR S t i (g0 l9 1) (.inr (t2, i2))) (by simp only [entE, if_pos ht, nF_eq hq]) (fun q9 _ hq9 => e2 q9 hq9)] at hP1 hD1
                    exact k α H1 locs1 ls ⟨⟨L, hn, hL, hP1, hD1⟩, ro.wR so1, eq.wR hW, ext, hS1, so3, lo, lvo, gr, mn⟩
                · cases hty
              · cases h
            · cases h
        · cases hc
      · cases h
    · cases h
  | getstatic n =>
    have hdg : decode (mB m) pc = .ok (.getstatic n, 3) := of_decide_eq_true hd
    simp only [stp] at h
    simp only [chkI] at hc
    split at hc
    · rename_i q hq
      simp only [Bool.and_eq_true] at hc
      obtain ⟨h1, h2⟩ := hc
      have hZ := ext.2.2.2.2.1 _ q hq
      by_cases hv : v = 0
      · rw [if_pos hv] at h h2
        cases h
        rw [if_pos (of_decide_eq_true h2)] at hZ
        refine va_gets hx hb hZ hS hown (hts _ (inW_mem h1)) (fun _ h9 => h9) hdg ?_
        rw [← (eq.ext (t := 60) rfl).1, ← of_decide_eq_true h2]
        exact k α H locs ls ⟨wi, ro, eq, ext, hS, List.forall_mem_cons.mpr ⟨trivial, so⟩, lo, lvo, gr, mn⟩
      · rw [if_neg hv] at h h2
        cases h
        simp only [Bool.and_eq_true, decide_eq_true_eq] at h2
        rw [if_neg h2.2] at hZ
        refine va_gets hx hb hZ hS hown (hts _ (inW_mem h1)) (fun _ h9 => h9) hdg ?_
        rw [← (eq.ext (t := 60) rfl).2.1]
        refine k α H locs ls ⟨wi, ro, eq, ext, hS, List.forall_mem_cons.mpr ⟨?_, so⟩, lo, lvo, gr, mn⟩
        cases hr : sR S 60 0 (g0 l9 0) with
        | inl y => trivial
        | inr q9 => exact ro 60 0 _ q9 (Or.inr (Or.inr rfl)) hr
    · cases hc
  | iaload =>
    have hdg : decode (mB m) pc = .ok (.iaload, 1) := of_decide_eq_true hd
    simp only [stp] at h
    obtain ⟨t, i, j, st3, rfl, h⟩ := pIR_some h
    split at h
    · rename_i hg
      cases h
      obtain ⟨hk, hin⟩ := hg
      obtain ⟨so2, so3⟩ := List.forall_mem_cons.mp (List.forall_mem_cons.mp so).2
      rcases hk with hk | hk
      · skip
        obtain ⟨hW, h20, h55⟩ := kd_isW t (by rw [hk]; decide) (by rw [hk]; decide)
        have hi := okr_w hW so2
        obtain ⟨L, hn, hL, hP, hD⟩ := wi
        obtain ⟨kk, hkk, hws⟩ := wOf_at (D7 := D7) (α := α) (S := S) ((hL t i).mpr ⟨hW, hi⟩)
        rw [entE_i (by omega) (by rw [hk]; decide) (by rw [hk]; decide) (by rw [hk]; decide), hk] at hws
        refine va_iald (D := D) (cl := clL) hx hb hK hP kk 0 hws rfl (vp_of hin) hdg ?_
        exact k α H locs ls ⟨⟨L, hn, hL, hP, hD⟩, ro, eq, ext, hS, List.forall_mem_cons.mpr ⟨trivial, so3⟩, lo, lvo, gr, mn⟩
      · have e55 : t = 55 := kd_8 t hk
        subst e55
        have hi : i = 0 := by
          rcases so2 with ⟨z, -⟩ | ⟨z, -⟩ | ⟨z, -⟩ | z | z | z
          · exact absurd z (by decide)
          · exact absurd z (by decide)
          · exact absurd z (by decide)
          · cases z; rfl
          all_goals cases z
        subst hi
        obtain ⟨x1, x2, x3⟩ := ext.1
        have hin2 := vp_of hin
        rw [(eq.ext (t := 55) rfl).2.2] at hin2
        refine va_sld hx hb x1 x2 x3 hS hin2 hdg ?_
        rw [← (eq.ext (t := 55) rfl).1]
        exact k α H locs ls ⟨wi, ro, eq, ext, hS, List.forall_mem_cons.mpr ⟨trivial, so3⟩, lo, lvo, gr, mn⟩
    · cases h
  | baload =>
    have hdg : decode (mB m) pc = .ok (.baload, 1) := of_decide_eq_true hd
    simp only [stp] at h
    obtain ⟨t, i, j, st3, rfl, h⟩ := pIR_some h
    split at h
    · rename_i hg
      cases h
      obtain ⟨hk, hin⟩ := hg
      obtain ⟨so2, so3⟩ := List.forall_mem_cons.mp (List.forall_mem_cons.mp so).2
      have tab : isW t = false → ∀ N f, N = sL S t i → va_T .byte (α t i) N f (fun q => B0 ≤ q) s s.heap → (∀ j, f j = .int (sI S t i j)) → W p l e R s mi args below meth c H locs (sN S - sN S0) (sM S - sM S0) Q (F0 mi pc ls ((vi j :: vr t i :: st3).map (conc α))) := by
        intro hw N f hN hT hf
        subst hN
        refine va_tb hx hb hT hS (vp_of hin) (hf _) hdg ?_
        exact k α H locs ls ⟨wi, ro, eq, ext, hS, List.forall_mem_cons.mpr ⟨trivial, so3⟩, lo, lvo, gr, mn⟩
      rcases hk with hk | hk | hk | hk
      · skip
        obtain ⟨hW, h20, h55⟩ := kd_isW t (by rw [hk]; decide) (by rw [hk]; decide)
        have hi := okr_w hW so2
        obtain ⟨L, hn, hL, hP, hD⟩ := wi
        obtain ⟨kk, hkk, hws⟩ := wOf_at (D7 := D7) (α := α) (S := S) ((hL t i).mpr ⟨hW, hi⟩)
        rw [entE_i (by omega) (by rw [hk]; decide) (by rw [hk]; decide) (by rw [hk]; decide), hk] at hws
        refine va_bald (D := D) (cl := clL) hx hb hK hP kk 1 hws rfl (vp_of hin) hdg ?_
        exact k α H locs ls ⟨⟨L, hn, hL, hP, hD⟩, ro, eq, ext, hS, List.forall_mem_cons.mpr ⟨trivial, so3⟩, lo, lvo, gr, mn⟩
      · skip
        obtain ⟨hW, h20, h55⟩ := kd_isW t (by rw [hk]; decide) (by rw [hk]; decide)
        have hi := okr_w hW so2
        obtain ⟨L, hn, hL, hP, hD⟩ := wi
        obtain ⟨kk, hkk, hws⟩ := wOf_at (D7 := D7) (α := α) (S := S) ((hL t i).mpr ⟨hW, hi⟩)
        rw [entE_i (by omega) (by rw [hk]; decide) (by rw [hk]; decide) (by rw [hk]; decide), hk] at hws
        refine va_zald (D := D) (cl := clL) hx hb hK hP kk 2 hws rfl (vp_of hin) hdg ?_
        exact k α H locs ls ⟨⟨L, hn, hL, hP, hD⟩, ro, eq, ext, hS, List.forall_mem_cons.mpr ⟨trivial, so3⟩, lo, lvo, gr, mn⟩
      · have e56 : t = 56 := kd_9 t hk
        subst e56
        have hi : i < 10 := by
          rcases so2 with ⟨z, -⟩ | ⟨z, -⟩ | ⟨-, z⟩ | z | z | z
          · exact absurd z (by decide)
          · exact absurd z (by decide)
          · exact z
          all_goals cases z
        exact tab rfl _ _ ((eq.ext (t := 56) rfl).2.2 i).symm (ext.2.1 i hi).2.2.2.1 (fun j => by rw [(eq.ext (t := 56) rfl).1])
      · rcases kd_10 t hk with rfl | rfl
        · have hi : i = 0 := by
            rcases so2 with ⟨z, -⟩ | ⟨z, -⟩ | ⟨z, -⟩ | z | z | z
            · exact absurd z (by decide)
            · exact absurd z (by decide)
            · exact absurd z (by decide)
            · cases z
            · cases z; rfl
            · cases z
          subst hi
          exact tab rfl _ _ ((eq.ext (t := 57) rfl).2.2 0).symm ext.2.2.1 (fun j => by rw [(eq.ext (t := 57) rfl).1])
        · have hi : i = 0 := by
            rcases so2 with ⟨z, -⟩ | ⟨z, -⟩ | ⟨z, -⟩ | z | z | z
            · exact absurd z (by decide)
            · exact absurd z (by decide)
            · exact absurd z (by decide)
            · cases z
            · cases z
            · cases z; rfl
          subst hi
          exact tab rfl _ _ ((eq.ext (t := 58) rfl).2.2 0).symm ext.2.2.2.1 (fun j => by rw [(eq.ext (t := 58) rfl).1])
    · cases h
  | caload =>
    have hdg : decode (mB m) pc = .ok (.caload, 1) := of_decide_eq_true hd
    simp only [stp] at h
    obtain ⟨t, i, j, st3, rfl, h⟩ := pIR_some h
    split at h
    · rename_i hg
      cases h
      obtain ⟨hk, hin⟩ := hg
      obtain ⟨so2, so3⟩ := List.forall_mem_cons.mp (List.forall_mem_cons.mp so).2
      · skip
        obtain ⟨hW, h20, h55⟩ := kd_isW t (by rw [hk]; decide) (by rw [hk]; decide)
        have hi := okr_w hW so2
        obtain ⟨L, hn, hL, hP, hD⟩ := wi
        obtain ⟨kk, hkk, hws⟩ := wOf_at (D7 := D7) (α := α) (S := S) ((hL t i).mpr ⟨hW, hi⟩)
        rw [entE_i (by omega) (by rw [hk]; decide) (by rw [hk]; decide) (by rw [hk]; decide), hk] at hws
        refine va_cald (D := D) (cl := clL) hx hb hK hP kk 3 hws rfl (vp_of hin) hdg ?_
        exact k α H locs ls ⟨⟨L, hn, hL, hP, hD⟩, ro, eq, ext, hS, List.forall_mem_cons.mpr ⟨trivial, so3⟩, lo, lvo, gr, mn⟩
    · cases h
  | laload =>
    have hdg : decode (mB m) pc = .ok (.laload, 1) := of_decide_eq_true hd
    simp only [stp] at h
    obtain ⟨t, i, j, st3, rfl, h⟩ := pIR_some h
    split at h
    · rename_i hg
      cases h
      obtain ⟨hk, hin⟩ := hg
      obtain ⟨so2, so3⟩ := List.forall_mem_cons.mp (List.forall_mem_cons.mp so).2
      obtain ⟨hW, h20, h55⟩ := kd_isW t (by rw [hk]; decide) (by rw [hk]; decide)
      have hi := okr_w hW so2
      obtain ⟨L, hn, hL, hP, hD⟩ := wi
      obtain ⟨kk, hkk, hws⟩ := wOf_at (D7 := D7) (α := α) (S := S) ((hL t i).mpr ⟨hW, hi⟩)
      rw [entE_l (by omega) hk] at hws
      refine va_lald (D := D) (cl := clL) hx hb hK hP kk 4 hws rfl (vp_of hin) hdg ?_
      exact k α H locs ls ⟨⟨L, hn, hL, hP, hD⟩, ro, eq, ext, hS, List.forall_mem_cons.mpr ⟨trivial, so3⟩, lo, lvo, gr, mn⟩
    · cases h
  | daload =>
    have hdg : decode (mB m) pc = .ok (.daload, 1) := of_decide_eq_true hd
    simp only [stp] at h
    obtain ⟨t, i, j, st3, rfl, h⟩ := pIR_some h
    split at h
    · rename_i hg
      cases h
      obtain ⟨hk, hin⟩ := hg
      obtain ⟨so2, so3⟩ := List.forall_mem_cons.mp (List.forall_mem_cons.mp so).2
      obtain ⟨hW, h20, h55⟩ := kd_isW t (by rw [hk]; decide) (by rw [hk]; decide)
      have hi := okr_w hW so2
      obtain ⟨L, hn, hL, hP, hD⟩ := wi
      obtain ⟨kk, hkk, hws⟩ := wOf_at (D7 := D7) (α := α) (S := S) ((hL t i).mpr ⟨hW, hi⟩)
      rw [entE_d (by omega) hk] at hws
      refine va_dald (D := D) (cl := clL) hx hb hK hP kk 5 hws rfl (vp_of hin) hdg ?_
      exact k α H locs ls ⟨⟨L, hn, hL, hP, hD⟩, ro, eq, ext, hS, List.forall_mem_cons.mpr ⟨trivial, so3⟩, lo, lvo, gr, mn⟩
    · cases h
  | aaload =>
    have hdg : decode (mB m) pc = .ok (.aaload, 1) := of_decide_eq_true hd
    simp only [stp] at h
    obtain ⟨t, i, j, st3, rfl, h⟩ := pIR_some h
    split at h
    · rename_i hg
      split at h
      · rename_i q9 hq9
        cases h
        obtain ⟨hk, hin⟩ := hg
        obtain ⟨so2, so3⟩ := List.forall_mem_cons.mp (List.forall_mem_cons.mp so).2
        obtain ⟨hW, h20, h55⟩ := kd_isW t (by rw [hk]; decide) (by rw [hk]; decide)
        have hi := okr_w hW so2
        obtain ⟨L, hn, hL, hP, hD⟩ := wi
        obtain ⟨kk, hkk, hws⟩ := wOf_at (D7 := D7) (α := α) (S := S) ((hL t i).mpr ⟨hW, hi⟩)
        rw [entE_q (by omega) hk] at hws
        refine va_aldq (D := D) (cl := clL) (C := "SighGranary$Data") hx hb hK hP kk 6 hws rfl (vp_of hin) hdg ?_
        rw [show j.toNatClampNeg = ix j from rfl, hq9]
        exact k α H locs ls ⟨⟨L, hn, hL, hP, hD⟩, ro, eq, ext, hS, List.forall_mem_cons.mpr ⟨ro t i _ q9 (Or.inl ⟨hW, hi⟩) hq9, so3⟩, lo, lvo, gr, mn⟩
      · cases h
    · cases h
  | iastore =>
    have hdg : decode (mB m) pc = .ok (.iastore, 1) := of_decide_eq_true hd
    simp only [stp] at h
    obtain ⟨t, i, j, x, st3, rfl, h⟩ := pIIR_some h
    split at h
    · rename_i hg
      cases h
      obtain ⟨hk, hin⟩ := hg
      obtain ⟨so2, so3⟩ := List.forall_mem_cons.mp (List.forall_mem_cons.mp (List.forall_mem_cons.mp so).2).2
      · skip
        obtain ⟨hW, h20, h55⟩ := kd_isW t (by rw [hk]; decide) (by rw [hk]; decide)
        have hi := okr_w hW so2
        obtain ⟨L, hn, hL, hP, hD⟩ := wi
        obtain ⟨kk, hkk, hws⟩ := wOf_at (D7 := D7) (α := α) (S := S) ((hL t i).mpr ⟨hW, hi⟩)
        rw [entE_i (by omega) (by rw [hk]; decide) (by rw [hk]; decide) (by rw [hk]; decide), hk] at hws
        refine va_iast (D := D) (cl := clL) hx hb hK hP hD hS kk 0 hws rfl (vp_of hin) hdg (fun H1 locs1 hP1 hD1 hS1 => ?_)
        refine k α H1 locs1 ls ⟨WI.putI hn hL hkk ?_ hP1 hD1, ro, eq.wI hW, ext, hS1, so3, lo, lvo, gr, mn⟩
        rw [entE_wI (by omega) (by rw [hk]; decide) (by rw [hk]; decide) (by rw [hk]; decide), hk]
    · cases h
  | castore =>
    have hdg : decode (mB m) pc = .ok (.castore, 1) := of_decide_eq_true hd
    simp only [stp] at h
    obtain ⟨t, i, j, x, st3, rfl, h⟩ := pIIR_some h
    split at h
    · rename_i hg
      cases h
      obtain ⟨hk, hin⟩ := hg
      obtain ⟨so2, so3⟩ := List.forall_mem_cons.mp (List.forall_mem_cons.mp (List.forall_mem_cons.mp so).2).2
      · skip
        obtain ⟨hW, h20, h55⟩ := kd_isW t (by rw [hk]; decide) (by rw [hk]; decide)
        have hi := okr_w hW so2
        obtain ⟨L, hn, hL, hP, hD⟩ := wi
        obtain ⟨kk, hkk, hws⟩ := wOf_at (D7 := D7) (α := α) (S := S) ((hL t i).mpr ⟨hW, hi⟩)
        rw [entE_i (by omega) (by rw [hk]; decide) (by rw [hk]; decide) (by rw [hk]; decide), hk] at hws
        refine va_cast (D := D) (cl := clL) hx hb hK hP hD hS kk 3 hws rfl (vp_of hin) hdg (fun H1 locs1 hP1 hD1 hS1 => ?_)
        refine k α H1 locs1 ls ⟨WI.putI hn hL hkk ?_ hP1 hD1, ro, eq.wI hW, ext, hS1, so3, lo, lvo, gr, mn⟩
        rw [entE_wI (by omega) (by rw [hk]; decide) (by rw [hk]; decide) (by rw [hk]; decide), hk, toCh_nar]
    · cases h
  | bastore =>
    have hdg : decode (mB m) pc = .ok (.bastore, 1) := of_decide_eq_true hd
    simp only [stp] at h
    obtain ⟨t, i, j, x, st3, rfl, h⟩ := pIIR_some h
    split at h
    · rename_i hg
      cases h
      obtain ⟨hin, hk⟩ := hg
      obtain ⟨so2, so3⟩ := List.forall_mem_cons.mp (List.forall_mem_cons.mp (List.forall_mem_cons.mp so).2).2
      rcases hk with hk | ⟨hk, hx01⟩
      · rw [if_pos hk] at k
        obtain ⟨hW, h20, h55⟩ := kd_isW t (by rw [hk]; decide) (by rw [hk]; decide)
        have hi := okr_w hW so2
        obtain ⟨L, hn, hL, hP, hD⟩ := wi
        obtain ⟨kk, hkk, hws⟩ := wOf_at (D7 := D7) (α := α) (S := S) ((hL t i).mpr ⟨hW, hi⟩)
        rw [entE_i (by omega) (by rw [hk]; decide) (by rw [hk]; decide) (by rw [hk]; decide), hk] at hws
        refine va_bast (D := D) (cl := clL) hx hb hK hP hD hS kk 1 hws rfl (vp_of hin) hdg (fun H1 locs1 hP1 hD1 hS1 => ?_)
        refine k α H1 locs1 ls ⟨WI.putI hn hL hkk ?_ hP1 hD1, ro, eq.wI hW, ext, hS1, so3, lo, lvo, gr, mn⟩
        rw [entE_wI (by omega) (by rw [hk]; decide) (by rw [hk]; decide) (by rw [hk]; decide), hk, vp_nar_byte]
      · rw [if_neg (by rw [hk]; decide)] at k
        obtain ⟨hW, h20, h55⟩ := kd_isW t (by rw [hk]; decide) (by rw [hk]; decide)
        have hi := okr_w hW so2
        obtain ⟨L, hn, hL, hP, hD⟩ := wi
        obtain ⟨kk, hkk, hws⟩ := wOf_at (D7 := D7) (α := α) (S := S) ((hL t i).mpr ⟨hW, hi⟩)
        rw [entE_i (by omega) (by rw [hk]; decide) (by rw [hk]; decide) (by rw [hk]; decide), hk] at hws
        refine va_zast (D := D) (cl := clL) hx hb hK hP hD hS kk 2 hws rfl (vp_of hin) hdg (fun H1 locs1 hP1 hD1 hS1 => ?_)
        refine k α H1 locs1 ls ⟨WI.putI hn hL hkk ?_ hP1 hD1, ro, eq.wI hW, ext, hS1, so3, lo, lvo, gr, mn⟩
        rw [entE_wI (by omega) (by rw [hk]; decide) (by rw [hk]; decide) (by rw [hk]; decide), hk, nar_bool hx01]
    · cases h
  | lastore =>
    have hdg : decode (mB m) pc = .ok (.lastore, 1) := of_decide_eq_true hd
    simp only [stp] at h
    split at h
    · rename_i x j t i st3
      split at h
      · rename_i hg
        cases h
        obtain ⟨hk, hin⟩ := hg
        obtain ⟨so2, so3⟩ := List.forall_mem_cons.mp (List.forall_mem_cons.mp (List.forall_mem_cons.mp so).2).2
        obtain ⟨hW, h20, h55⟩ := kd_isW t (by rw [hk]; decide) (by rw [hk]; decide)
        have hi := okr_w hW so2
        obtain ⟨L, hn, hL, hP, hD⟩ := wi
        obtain ⟨kk, hkk, hws⟩ := wOf_at (D7 := D7) (α := α) (S := S) ((hL t i).mpr ⟨hW, hi⟩)
        rw [entE_l (by omega) hk] at hws
        refine va_last (D := D) (cl := clL) hx hb hK hP hD hS kk 4 hws rfl (vp_of hin) hdg (fun H1 locs1 hP1 hD1 hS1 => ?_)
        rw [wOf_set hn hkk (S2 := wJ S t i (ix j) x) (entE_wJ (by omega) hk).symm (fun q _ hq => entE_wJ_ne hq)] at hP1 hD1
        exact k α H1 locs1 ls ⟨⟨L, hn, hL, hP1, hD1⟩, ro, eq, ext, hS1, so3, lo, lvo, gr, mn⟩
      · cases h
    · cases h
  | dastore =>
    have hdg : decode (mB m) pc = .ok (.dastore, 1) := of_decide_eq_true hd
    simp only [stp] at h
    split at h
    · rename_i x j t i st3
      split at h
      · rename_i hg
        cases h
        obtain ⟨hk, hin⟩ := hg
        obtain ⟨so2, so3⟩ := List.forall_mem_cons.mp (List.forall_mem_cons.mp (List.forall_mem_cons.mp so).2).2
        obtain ⟨hW, h20, h55⟩ := kd_isW t (by rw [hk]; decide) (by rw [hk]; decide)
        have hi := okr_w hW so2
        obtain ⟨L, hn, hL, hP, hD⟩ := wi
        obtain ⟨kk, hkk, hws⟩ := wOf_at (D7 := D7) (α := α) (S := S) ((hL t i).mpr ⟨hW, hi⟩)
        rw [entE_d (by omega) hk] at hws
        refine va_dast (D := D) (cl := clL) hx hb hK hP hD hS kk 5 hws rfl (vp_of hin) hdg (fun H1 locs1 hP1 hD1 hS1 => ?_)
        rw [wOf_set hn hkk (S2 := wD S t i (ix j) x) (entE_wD (by omega) hk).symm (fun q _ hq => entE_wD_ne hq)] at hP1 hD1
        exact k α H1 locs1 ls ⟨⟨L, hn, hL, hP1, hD1⟩, ro, eq, ext, hS1, so3, lo, lvo, gr, mn⟩
      · cases h
    · cases h
  | aastore =>
    have hdg : decode (mB m) pc = .ok (.aastore, 1) := of_decide_eq_true hd
    simp only [stp] at h
    split at h
    · rename_i i2 j t i st3
      split at h
      · rename_i hg
        cases h
        obtain ⟨hk, hin⟩ := hg
        obtain ⟨so1, so9⟩ := List.forall_mem_cons.mp so
        obtain ⟨so2, so3⟩ := List.forall_mem_cons.mp (List.forall_mem_cons.mp so9).2
        obtain ⟨hW, h20, h55⟩ := kd_isW t (by rw [hk]; decide) (by rw [hk]; decide)
        have hi := okr_w hW so2
        have hi2 := okr_w (t := 1) rfl so1
        obtain ⟨L, hn, hL, hP, hD⟩ := wi
        obtain ⟨kk, hkk, hws⟩ := wOf_at (D7 := D7) (α := α) (S := S) ((hL t i).mpr ⟨hW, hi⟩)
        obtain ⟨k2, hkk2, hws2⟩ := wOf_at (D7 := D7) (α := α) (S := S) ((hL 1 i2).mpr ⟨rfl, hi2⟩)
        rw [entE_q (by omega) hk] at hws
        rw [entE_o (by decide)] at hws2
        refine va_astq (D := D) (cl := clL) (r := ("SighGranary$Data", FT1, 6)) (ci := 1) hx hb hK hP hD hS kk 6 k2 1 hws rfl hws2 rfl (vp_of hin) hdg (fun H1 locs1 hP1 hD1 hS1 => ?_)
        rw [wOf_set hn hkk (S2 := wR S t i (ix j) (vr 1 i2)) (entE_wRq (by omega) hk).symm (fun q _ hq => entE_wR_ne hq)] at hP1 hD1
        exact k α H1 locs1 ls ⟨⟨L, hn, hL, hP1, hD1⟩, ro.wR so1, eq.wR hW, ext, hS1, so3, lo, lvo, gr, mn⟩
      · cases h
    · cases h
  | arraylength =>
    have hdg : decode (mB m) pc = .ok (.arraylength, 1) := of_decide_eq_true hd
    simp only [stp] at h
    obtain ⟨t, i, st3, rfl, h⟩ := pR_some h
    split at h
    · rename_i hg
      cases h
      obtain ⟨so2, so3⟩ := List.forall_mem_cons.mp so
      by_cases h8 : kd t < 8
      · obtain ⟨hW, h20, h55⟩ := kd_isW t hg.1 h8
        have hi := okr_w hW so2
        obtain ⟨L, hn, hL, hP, hD⟩ := wi
        obtain ⟨kk, hkk, hws⟩ := wOf_at (D7 := D7) (α := α) (S := S) ((hL t i).mpr ⟨hW, hi⟩)
        obtain ⟨cA, x, ty, t0, e1, e2, e3⟩ := entE_len (D7 := D7) (α := α) (S := S) (t := t) (i := i) (by omega) hg.1 h8
        rw [e1] at hws
        refine va_alen (D := D) (cl := clL) hx hb hK hP kk t0 hws e2 (by rw [e3]) hdg ?_
        exact k α H locs ls ⟨⟨L, hn, hL, hP, hD⟩, ro, eq, ext, hS, List.forall_mem_cons.mpr ⟨trivial, so3⟩, lo, lvo, gr, mn⟩
      · have hz : t = 55 ∨ t = 56 := kd_89 t h8 hg.2
        rcases hz with rfl | rfl
        · have hi : i = 0 := by
            rcases so2 with ⟨z, -⟩ | ⟨z, -⟩ | ⟨z, -⟩ | z | z | z
            · exact absurd z (by decide)
            · exact absurd z (by decide)
            · exact absurd z (by decide)
            · cases z; rfl
            all_goals cases z
          subst hi
          obtain ⟨x1, x2, x3⟩ := ext.1
          refine va_slen hx hb x1 x2 x3 hS hdg ?_
          rw [← (eq.ext (t := 55) rfl).2.2]
          exact k α H locs ls ⟨wi, ro, eq, ext, hS, List.forall_mem_cons.mpr ⟨trivial, so3⟩, lo, lvo, gr, mn⟩
        · have hi : i < 10 := by
            rcases so2 with ⟨z, -⟩ | ⟨z, -⟩ | ⟨-, z⟩ | z | z | z
            · exact absurd z (by decide)
            · exact absurd z (by decide)
            · exact z
            all_goals cases z
          refine va_tlen hx hb (ext.2.1 i hi).2.2.2.1 hS hdg ?_
          rw [← (eq.ext (t := 56) rfl).2.2]
          exact k α H locs ls ⟨wi, ro, eq, ext, hS, List.forall_mem_cons.mpr ⟨trivial, so3⟩, lo, lvo, gr, mn⟩
    · cases h
  | invokespecial n =>
    have hdg : decode (mB m) pc = .ok (.invokespecial n, 3) := of_decide_eq_true hd
    simp only [stp] at h
    have hv : v = 2 := hv2 n rfl
    split at h
    · rename_i hcs
      obtain ⟨t, i, st3, rfl, h⟩ := pR_some h
      cases h
      simp only [chkI, hv] at hc
      rw [if_pos rfl] at hc
      simp only [Bool.and_eq_true] at hc
      obtain ⟨⟨h1, h2⟩, h3⟩ := hc
      have e9 := catS_map (α := α) st3
      refine W.objInit (a := α t i) (rest := st3.map (conc α)) hx hb hown (hts _ (inW_mem h1)) (hts _ (inW_mem h2)) (hts _ (inW_mem h3)) rfl (lo.2.1.1.trans hml.symm) rfl hdg (by omega) ?_ ?_
      · have : catS (vr t i :: st3) = 1 + catS st3 := rfl
        show 2 * 0 + _ + 12 ≤ _
        omega
      · exact k α H locs ls ⟨wi, ro, eq, ext, hS, (List.forall_mem_cons.mp so).2, lo, lvo, gr, mn⟩
    · cases h
  | newarray ty =>
    have hdg : decode (mB m) pc = .ok (.newarray ty, 2) := of_decide_eq_true hd
    simp only [stp] at h
    obtain ⟨x, st3, rfl, h⟩ := pI_some h
    split at h
    · rename_i hg
      cases h
      obtain ⟨hx0, hx1⟩ := hg
      have hxl : ix x < 65536 := ix_lt hx0 hx1
      have so3 := (List.forall_mem_cons.mp so).2
      simp only [chkI, Bool.and_eq_true, decide_eq_true_eq] at hc
      obtain ⟨⟨h1, h2⟩, h3⟩ := hc
      cases ty with
      | int =>
        have hkd : kd (g0 l9 0) = 1 := h2.trans rfl
        obtain ⟨hW, h20, h55⟩ := kd_isW (g0 l9 0) (by rw [hkd]; decide) (by rw [hkd]; decide)
        obtain ⟨L, hn, hL, hP, hD⟩ := wi
        refine va_newa (D := D) (cl := clL) (atype := .int) hx hb (hts _ (inW_mem h1)) rfl hK hP hD hS hA (N' := ix x) (a0 := (ix x, .inl (fun _ => 0))) (fun cA => rfl) (i32_nat hx0) rfl (Nat.le_trans (Nat.mul_le_mul_right _ (Nat.le_of_lt hxl)) (by decide)) (by have := hR1; have := mn.2.1; show _ + 1 ≤ _; omega) (by have := hR2; have := mn.2.2; omega) hdg (fun q cA H1 hK1 hP1 hD1 hS1 => ?_)
        have hcA : cA = D7 1 := by
          have z1 := (hK1.2 7 (cA, .int) rfl).2
          have z2 := (hK.2 0 (D7 1, .int) rfl).2
          exact Option.some.inj (Eq.trans (Eq.symm z1) z2)
        subst hcA
        have he : (.inl (D7 1, ix x, .inl (fun _ => 0)) : va_E) = entE D7 (alp α (g0 l9 0) (sC S (g0 l9 0)) q) (nw S (g0 l9 0) (ix x) (ix x)) (g0 l9 0, sC S (g0 l9 0)) := by
          rw [entE_i (by omega) (by rw [hkd]; decide) (by rw [hkd]; decide) (by rw [hkd]; decide), hkd]
          congr 3
          · show _ = if g0 l9 0 = g0 l9 0 ∧ sC S (g0 l9 0) = sC S (g0 l9 0) then ix x else _
            simp
          · show _ = Sum.inl (clr S.1 (g0 l9 0) (sC S (g0 l9 0)) 0 (g0 l9 0) (sC S (g0 l9 0)))
            rw [nw_at]
        have gr2 : Grow α (alp α (g0 l9 0) (sC S (g0 l9 0)) q) S := grow_nw hW
        have fin := k (alp α (g0 l9 0) (sC S (g0 l9 0)) q) H1 locs ls ⟨WI.alloc hn hL ro hW he hP1 hD1, ro_nw ro hW, eqX_nw eq hW, ext.grow gr2 ro eq, hS1, List.forall_mem_cons.mpr ⟨Or.inl ⟨hW, by rw [sC_nw, if_pos rfl]; exact Nat.lt_succ_self _⟩, fun z hz => okv.mn Mn_nw (so3 z hz)⟩, lo.grow gr2 lvo, fun z hz => (lvo z hz).imp id (okv.mn Mn_nw), gr.tr mn gr2, mn.tr Mn_nw⟩
        simp only [List.map_cons] at fin
        rw [gr2.mp so3, show conc (alp α (g0 l9 0) (sC S (g0 l9 0)) q) (vr (g0 l9 0) (sC S (g0 l9 0))) = .ref q by simp [conc, alp]] at fin
        rw [show sN S - sN S0 + 1 = sN (nw S (g0 l9 0) (ix x) (ix x)) - sN S0 by have := mn.2.1; show _ = sN S + 1 - sN S0; omega, show sM S - sM S0 + ix x = sM (nw S (g0 l9 0) (ix x) (ix x)) - sM S0 by have := mn.2.2; show _ = sM S + ix x - sM S0; omega]
        exact fin
      | byte =>
        have hkd : kd (g0 l9 0) = 2 := h2.trans rfl
        obtain ⟨hW, h20, h55⟩ := kd_isW (g0 l9 0) (by rw [hkd]; decide) (by rw [hkd]; decide)
        obtain ⟨L, hn, hL, hP, hD⟩ := wi
        refine va_newa (D := D) (cl := clL) (atype := .byte) hx hb (hts _ (inW_mem h1)) rfl hK hP hD hS hA (N' := ix x) (a0 := (ix x, .inl (fun _ => 0))) (fun cA => rfl) (i32_nat hx0) rfl (Nat.le_trans (Nat.mul_le_mul_right _ (Nat.le_of_lt hxl)) (by decide)) (by have := hR1; have := mn.2.1; show _ + 1 ≤ _; omega) (by have := hR2; have := mn.2.2; omega) hdg (fun q cA H1 hK1 hP1 hD1 hS1 => ?_)
        have hcA : cA = D7 2 := by
          have z1 := (hK1.2 7 (cA, .byte) rfl).2
          have z2 := (hK.2 1 (D7 2, .byte) rfl).2
          exact Option.some.inj (Eq.trans (Eq.symm z1) z2)
        subst hcA
        have he : (.inl (D7 2, ix x, .inl (fun _ => 0)) : va_E) = entE D7 (alp α (g0 l9 0) (sC S (g0 l9 0)) q) (nw S (g0 l9 0) (ix x) (ix x)) (g0 l9 0, sC S (g0 l9 0)) := by
          rw [entE_i (by omega) (by rw [hkd]; decide) (by rw [hkd]; decide) (by rw [hkd]; decide), hkd]
          congr 3
          · show _ = if g0 l9 0 = g0 l9 0 ∧ sC S (g0 l9 0) = sC S (g0 l9 0) then ix x else _
            simp
          · show _ = Sum.inl (clr S.1 (g0 l9 0) (sC S (g0 l9 0)) 0 (g0 l9 0) (sC S (g0 l9 0)))
            rw [nw_at]
        have gr2 : Grow α (alp α (g0 l9 0) (sC S (g0 l9 0)) q) S := grow_nw hW
        have fin := k (alp α (g0 l9 0) (sC S (g0 l9 0)) q) H1 locs ls ⟨WI.alloc hn hL ro hW he hP1 hD1, ro_nw ro hW, eqX_nw eq hW, ext.grow gr2 ro eq, hS1, List.forall_mem_cons.mpr ⟨Or.inl ⟨hW, by rw [sC_nw, if_pos rfl]; exact Nat.lt_succ_self _⟩, fun z hz => okv.mn Mn_nw (so3 z hz)⟩, lo.grow gr2 lvo, fun z hz => (lvo z hz).imp id (okv.mn Mn_nw), gr.tr mn gr2, mn.tr Mn_nw⟩
        simp only [List.map_cons] at fin
        rw [gr2.mp so3, show conc (alp α (g0 l9 0) (sC S (g0 l9 0)) q) (vr (g0 l9 0) (sC S (g0 l9 0))) = .ref q by simp [conc, alp]] at fin
        rw [show sN S - sN S0 + 1 = sN (nw S (g0 l9 0) (ix x) (ix x)) - sN S0 by have := mn.2.1; show _ = sN S + 1 - sN S0; omega, show sM S - sM S0 + ix x = sM (nw S (g0 l9 0) (ix x) (ix x)) - sM S0 by have := mn.2.2; show _ = sM S + ix x - sM S0; omega]
        exact fin
      | boolean =>
        have hkd : kd (g0 l9 0) = 3 := h2.trans rfl
        obtain ⟨hW, h20, h55⟩ := kd_isW (g0 l9 0) (by rw [hkd]; decide) (by rw [hkd]; decide)
        obtain ⟨L, hn, hL, hP, hD⟩ := wi
        refine va_newa (D := D) (cl := clL) (atype := .boolean) hx hb (hts _ (inW_mem h1)) rfl hK hP hD hS hA (N' := ix x) (a0 := (ix x, .inl (fun _ => 0))) (fun cA => rfl) (i32_nat hx0) rfl (Nat.le_trans (Nat.mul_le_mul_right _ (Nat.le_of_lt hxl)) (by decide)) (by have := hR1; have := mn.2.1; show _ + 1 ≤ _; omega) (by have := hR2; have := mn.2.2; omega) hdg (fun q cA H1 hK1 hP1 hD1 hS1 => ?_)
        have hcA : cA = D7 3 := by
          have z1 := (hK1.2 7 (cA, .boolean) rfl).2
          have z2 := (hK.2 2 (D7 3, .boolean) rfl).2
          exact Option.some.inj (Eq.trans (Eq.symm z1) z2)
        subst hcA
        have he : (.inl (D7 3, ix x, .inl (fun _ => 0)) : va_E) = entE D7 (alp α (g0 l9 0) (sC S (g0 l9 0)) q) (nw S (g0 l9 0) (ix x) (ix x)) (g0 l9 0, sC S (g0 l9 0)) := by
          rw [entE_i (by omega) (by rw [hkd]; decide) (by rw [hkd]; decide) (by rw [hkd]; decide), hkd]
          congr 3
          · show _ = if g0 l9 0 = g0 l9 0 ∧ sC S (g0 l9 0) = sC S (g0 l9 0) then ix x else _
            simp
          · show _ = Sum.inl (clr S.1 (g0 l9 0) (sC S (g0 l9 0)) 0 (g0 l9 0) (sC S (g0 l9 0)))
            rw [nw_at]
        have gr2 : Grow α (alp α (g0 l9 0) (sC S (g0 l9 0)) q) S := grow_nw hW
        have fin := k (alp α (g0 l9 0) (sC S (g0 l9 0)) q) H1 locs ls ⟨WI.alloc hn hL ro hW he hP1 hD1, ro_nw ro hW, eqX_nw eq hW, ext.grow gr2 ro eq, hS1, List.forall_mem_cons.mpr ⟨Or.inl ⟨hW, by rw [sC_nw, if_pos rfl]; exact Nat.lt_succ_self _⟩, fun z hz => okv.mn Mn_nw (so3 z hz)⟩, lo.grow gr2 lvo, fun z hz => (lvo z hz).imp id (okv.mn Mn_nw), gr.tr mn gr2, mn.tr Mn_nw⟩
        simp only [List.map_cons] at fin
        rw [gr2.mp so3, show conc (alp α (g0 l9 0) (sC S (g0 l9 0)) q) (vr (g0 l9 0) (sC S (g0 l9 0))) = .ref q by simp [conc, alp]] at fin
        rw [show sN S - sN S0 + 1 = sN (nw S (g0 l9 0) (ix x) (ix x)) - sN S0 by have := mn.2.1; show _ = sN S + 1 - sN S0; omega, show sM S - sM S0 + ix x = sM (nw S (g0 l9 0) (ix x) (ix x)) - sM S0 by have := mn.2.2; show _ = sM S + ix x - sM S0; omega]
        exact fin
      | char =>
        have hkd : kd (g0 l9 0) = 4 := h2.trans rfl
        obtain ⟨hW, h20, h55⟩ := kd_isW (g0 l9 0) (by rw [hkd]; decide) (by rw [hkd]; decide)
        obtain ⟨L, hn, hL, hP, hD⟩ := wi
        refine va_newa (D := D) (cl := clL) (atype := .char) hx hb (hts _ (inW_mem h1)) rfl hK hP hD hS hA (N' := ix x) (a0 := (ix x, .inl (fun _ => 0))) (fun cA => rfl) (i32_nat hx0) rfl (Nat.le_trans (Nat.mul_le_mul_right _ (Nat.le_of_lt hxl)) (by decide)) (by have := hR1; have := mn.2.1; show _ + 1 ≤ _; omega) (by have := hR2; have := mn.2.2; omega) hdg (fun q cA H1 hK1 hP1 hD1 hS1 => ?_)
        have hcA : cA = D7 4 := by
          have z1 := (hK1.2 7 (cA, .char) rfl).2
          have z2 := (hK.2 3 (D7 4, .char) rfl).2
          exact Option.some.inj (Eq.trans (Eq.symm z1) z2)
        subst hcA
        have he : (.inl (D7 4, ix x, .inl (fun _ => 0)) : va_E) = entE D7 (alp α (g0 l9 0) (sC S (g0 l9 0)) q) (nw S (g0 l9 0) (ix x) (ix x)) (g0 l9 0, sC S (g0 l9 0)) := by
          rw [entE_i (by omega) (by rw [hkd]; decide) (by rw [hkd]; decide) (by rw [hkd]; decide), hkd]
          congr 3
          · show _ = if g0 l9 0 = g0 l9 0 ∧ sC S (g0 l9 0) = sC S (g0 l9 0) then ix x else _
            simp
          · show _ = Sum.inl (clr S.1 (g0 l9 0) (sC S (g0 l9 0)) 0 (g0 l9 0) (sC S (g0 l9 0)))
            rw [nw_at]
        have gr2 : Grow α (alp α (g0 l9 0) (sC S (g0 l9 0)) q) S := grow_nw hW
        have fin := k (alp α (g0 l9 0) (sC S (g0 l9 0)) q) H1 locs ls ⟨WI.alloc hn hL ro hW he hP1 hD1, ro_nw ro hW, eqX_nw eq hW, ext.grow gr2 ro eq, hS1, List.forall_mem_cons.mpr ⟨Or.inl ⟨hW, by rw [sC_nw, if_pos rfl]; exact Nat.lt_succ_self _⟩, fun z hz => okv.mn Mn_nw (so3 z hz)⟩, lo.grow gr2 lvo, fun z hz => (lvo z hz).imp id (okv.mn Mn_nw), gr.tr mn gr2, mn.tr Mn_nw⟩
        simp only [List.map_cons] at fin
        rw [gr2.mp so3, show conc (alp α (g0 l9 0) (sC S (g0 l9 0)) q) (vr (g0 l9 0) (sC S (g0 l9 0))) = .ref q by simp [conc, alp]] at fin
        rw [show sN S - sN S0 + 1 = sN (nw S (g0 l9 0) (ix x) (ix x)) - sN S0 by have := mn.2.1; show _ = sN S + 1 - sN S0; omega, show sM S - sM S0 + ix x = sM (nw S (g0 l9 0) (ix x) (ix x)) - sM S0 by have := mn.2.2; show _ = sM S + ix x - sM S0; omega]
        exact fin
      | long =>
        have hkd : kd (g0 l9 0) = 5 := h2.trans rfl
        obtain ⟨hW, h20, h55⟩ := kd_isW (g0 l9 0) (by rw [hkd]; decide) (by rw [hkd]; decide)
        obtain ⟨L, hn, hL, hP, hD⟩ := wi
        refine va_newa (D := D) (cl := clL) (atype := .long) hx hb (hts _ (inW_mem h1)) rfl hK hP hD hS hA (N' := ix x) (a0 := (ix x, .inr (.inl (fun _ => 0)))) (fun cA => rfl) (i32_nat hx0) rfl (Nat.le_trans (Nat.mul_le_mul_right _ (Nat.le_of_lt hxl)) (by decide)) (by have := hR1; have := mn.2.1; show _ + 1 ≤ _; omega) (by have := hR2; have := mn.2.2; omega) hdg (fun q cA H1 hK1 hP1 hD1 hS1 => ?_)
        have hcA : cA = D7 5 := by
          have z1 := (hK1.2 7 (cA, .long) rfl).2
          have z2 := (hK.2 4 (D7 5, .long) rfl).2
          exact Option.some.inj (Eq.trans (Eq.symm z1) z2)
        subst hcA
        have he : (.inl (D7 5, ix x, .inr (.inl (fun _ => 0))) : va_E) = entE D7 (alp α (g0 l9 0) (sC S (g0 l9 0)) q) (nw S (g0 l9 0) (ix x) (ix x)) (g0 l9 0, sC S (g0 l9 0)) := by
          rw [entE_l (by omega) hkd]
          congr 3
          · show _ = if g0 l9 0 = g0 l9 0 ∧ sC S (g0 l9 0) = sC S (g0 l9 0) then ix x else _
            simp
          · show _ = Sum.inr (Sum.inl (clr S.2.2.1 (g0 l9 0) (sC S (g0 l9 0)) 0 (g0 l9 0) (sC S (g0 l9 0))))
            rw [nw_at]
        have gr2 : Grow α (alp α (g0 l9 0) (sC S (g0 l9 0)) q) S := grow_nw hW
        have fin := k (alp α (g0 l9 0) (sC S (g0 l9 0)) q) H1 locs ls ⟨WI.alloc hn hL ro hW he hP1 hD1, ro_nw ro hW, eqX_nw eq hW, ext.grow gr2 ro eq, hS1, List.forall_mem_cons.mpr ⟨Or.inl ⟨hW, by rw [sC_nw, if_pos rfl]; exact Nat.lt_succ_self _⟩, fun z hz => okv.mn Mn_nw (so3 z hz)⟩, lo.grow gr2 lvo, fun z hz => (lvo z hz).imp id (okv.mn Mn_nw), gr.tr mn gr2, mn.tr Mn_nw⟩
        simp only [List.map_cons] at fin
        rw [gr2.mp so3, show conc (alp α (g0 l9 0) (sC S (g0 l9 0)) q) (vr (g0 l9 0) (sC S (g0 l9 0))) = .ref q by simp [conc, alp]] at fin
        rw [show sN S - sN S0 + 1 = sN (nw S (g0 l9 0) (ix x) (ix x)) - sN S0 by have := mn.2.1; show _ = sN S + 1 - sN S0; omega, show sM S - sM S0 + ix x = sM (nw S (g0 l9 0) (ix x) (ix x)) - sM S0 by have := mn.2.2; show _ = sM S + ix x - sM S0; omega]
        exact fin
      | double =>
        have hkd : kd (g0 l9 0) = 6 := h2.trans rfl
        obtain ⟨hW, h20, h55⟩ := kd_isW (g0 l9 0) (by rw [hkd]; decide) (by rw [hkd]; decide)
        obtain ⟨L, hn, hL, hP, hD⟩ := wi
        refine va_newa (D := D) (cl := clL) (atype := .double) hx hb (hts _ (inW_mem h1)) rfl hK hP hD hS hA (N' := ix x) (a0 := (ix x, .inr (.inr (.inr (.inl (fun _ => 0)))))) (fun cA => rfl) (i32_nat hx0) rfl (Nat.le_trans (Nat.mul_le_mul_right _ (Nat.le_of_lt hxl)) (by decide)) (by have := hR1; have := mn.2.1; show _ + 1 ≤ _; omega) (by have := hR2; have := mn.2.2; omega) hdg (fun q cA H1 hK1 hP1 hD1 hS1 => ?_)
        have hcA : cA = D7 6 := by
          have z1 := (hK1.2 7 (cA, .double) rfl).2
          have z2 := (hK.2 5 (D7 6, .double) rfl).2
          exact Option.some.inj (Eq.trans (Eq.symm z1) z2)
        subst hcA
        have he : (.inl (D7 6, ix x, .inr (.inr (.inr (.inl (fun _ => 0))))) : va_E) = entE D7 (alp α (g0 l9 0) (sC S (g0 l9 0)) q) (nw S (g0 l9 0) (ix x) (ix x)) (g0 l9 0, sC S (g0 l9 0)) := by
          rw [entE_d (by omega) hkd]
          congr 3
          · show _ = if g0 l9 0 = g0 l9 0 ∧ sC S (g0 l9 0) = sC S (g0 l9 0) then ix x else _
            simp
          · show _ = Sum.inr (Sum.inr (Sum.inr (Sum.inl (clr S.2.2.2.1 (g0 l9 0) (sC S (g0 l9 0)) 0 (g0 l9 0) (sC S (g0 l9 0))))))
            rw [nw_at]
        have gr2 : Grow α (alp α (g0 l9 0) (sC S (g0 l9 0)) q) S := grow_nw hW
        have fin := k (alp α (g0 l9 0) (sC S (g0 l9 0)) q) H1 locs ls ⟨WI.alloc hn hL ro hW he hP1 hD1, ro_nw ro hW, eqX_nw eq hW, ext.grow gr2 ro eq, hS1, List.forall_mem_cons.mpr ⟨Or.inl ⟨hW, by rw [sC_nw, if_pos rfl]; exact Nat.lt_succ_self _⟩, fun z hz => okv.mn Mn_nw (so3 z hz)⟩, lo.grow gr2 lvo, fun z hz => (lvo z hz).imp id (okv.mn Mn_nw), gr.tr mn gr2, mn.tr Mn_nw⟩
        simp only [List.map_cons] at fin
        rw [gr2.mp so3, show conc (alp α (g0 l9 0) (sC S (g0 l9 0)) q) (vr (g0 l9 0) (sC S (g0 l9 0))) = .ref q by simp [conc, alp]] at fin
        rw [show sN S - sN S0 + 1 = sN (nw S (g0 l9 0) (ix x) (ix x)) - sN S0 by have := mn.2.1; show _ = sN S + 1 - sN S0; omega, show sM S - sM S0 + ix x = sM (nw S (g0 l9 0) (ix x) (ix x)) - sM S0 by have := mn.2.2; show _ = sM S + ix x - sM S0; omega]
        exact fin
      | _ => exact absurd rfl h3
    · cases h
  | anewarray n =>
    have hdg : decode (mB m) pc = .ok (.anewarray n, 3) := of_decide_eq_true hd
    simp only [stp] at h
    obtain ⟨x, st3, rfl, h⟩ := pI_some h
    split at h
    · rename_i hg
      cases h
      obtain ⟨hx0, hx1⟩ := hg
      have hxl : ix x < 65536 := ix_lt hx0 hx1
      have so3 := (List.forall_mem_cons.mp so).2
      simp only [chkI, Bool.and_eq_true, decide_eq_true_eq] at hc
      obtain ⟨⟨h1, h2⟩, h3⟩ := hc
      rw [h3] at k ⊢
      obtain ⟨L, hn, hL, hP, hD⟩ := wi
      refine va_newq (D := D) (cl := clL) (C := "SighGranary$Data") hx hb hown (hts _ (inW_mem h1)) ext.2.2.2.2.2.2.2.2 hK hP hD hS hA (N' := ix x) (i32_nat hx0) rfl (by omega) (by have := hR1; rw [h3] at this; have := mn.2.1; have : sN (nw S 32 (ix x) (ix x)) = sN S + 1 := rfl; omega) (by have := hR2; rw [h3] at this; have := mn.2.2; have : sM (nw S 32 (ix x) (ix x)) = sM S + ix x := rfl; omega) hdg (fun q cA H1 hK1 hP1 hD1 hS1 => ?_)
      have hcA : cA = D7 7 := by
        obtain ⟨_, _, -, -, -, z1⟩ := (hK1.2 7 (cA, .object "SighGranary$Data") rfl).2
        obtain ⟨_, _, -, -, -, z2⟩ := (hK.2 6 (D7 7, .object "SighGranary$Data") rfl).2
        exact Option.some.inj (z1.symm.trans z2)
      subst hcA
      have hW : isW 32 = true := rfl
      have he : (.inl (D7 7, ix x, .inr (.inr (.inr (.inr (fun _ => none))))) : va_E) = entE D7 (alp α 32 (sC S 32) q) (nw S 32 (ix x) (ix x)) (32, sC S 32) := by
        rw [entE_q (by decide) rfl]
        congr 3
        · show _ = if (32 : Nat) = 32 ∧ sC S 32 = sC S 32 then ix x else _
          simp
        · congr 4
          funext j
          show _ = rfo _ (clr S.2.1 32 (sC S 32) (.inl .null) 32 (sC S 32) j)
          rw [nw_at]
          rfl
      have gr2 : Grow α (alp α 32 (sC S 32) q) S := grow_nw hW
      have fin := k (alp α 32 (sC S 32) q) H1 locs ls ⟨WI.alloc hn hL ro hW he hP1 hD1, ro_nw ro hW, eqX_nw eq hW, ext.grow gr2 ro eq, hS1, List.forall_mem_cons.mpr ⟨Or.inl ⟨hW, by rw [sC_nw, if_pos rfl]; exact Nat.lt_succ_self _⟩, fun z hz => okv.mn Mn_nw (so3 z hz)⟩, lo.grow gr2 lvo, fun z hz => (lvo z hz).imp id (okv.mn Mn_nw), gr.tr mn gr2, mn.tr Mn_nw⟩
      simp only [List.map_cons] at fin
      rw [gr2.mp so3, show conc (alp α 32 (sC S 32) q) (vr 32 (sC S 32)) = .ref q by simp [conc, alp]] at fin
      rw [show sN S - sN S0 + 1 = sN (nw S 32 (ix x) (ix x)) - sN S0 by have := mn.2.1; show _ = sN S + 1 - sN S0; omega, show sM S - sM S0 + ix x = sM (nw S 32 (ix x) (ix x)) - sM S0 by have := mn.2.2; show _ = sM S + ix x - sM S0; omega]
      exact fin
    · cases h
  | new n =>
    have hdg : decode (mB m) pc = .ok (.new n, 3) := of_decide_eq_true hd
    simp only [stp] at h
    cases h
    have hv := hv0 n rfl
    simp only [chkI] at hc
    rw [if_pos hv] at hc
    split at hc
    · rename_i cq hq
      simp only [Bool.and_eq_true, decide_eq_true_eq] at hc
      obtain ⟨⟨⟨h1, h2⟩, h3⟩, h4⟩ := hc
      have ht := cl_lt hq
      have hW := cl_isW ht
      obtain ⟨f1, f2, f3, f4⟩ := cls_fact hq
      obtain ⟨L, hn, hL, hP, hD⟩ := wi
      rw [h4] at k hR1 hR2
      refine va_new (D := D) (cl := clL) (ci := g0 l9 0) (C := cq.1) (T := cq.2.1) (N := cq.2.2) (fs := (List.range cq.2.2).map (fun j => if refF (g0 l9 0) j = true then .null else .int 0)) hx hb hts f1 _ f2 hown (hts _ (inW_mem h1)) (hts _ (inW_mem h2)) (hts _ (inW_mem h3)) hK hP hD hS hA hq (fun j hj => by rw [f4 j hj]; simp [vp_V, hj]) (by have := mn.2.1; have : sN (nw S (g0 l9 0) 0 cq.2.2) = sN S + 1 := rfl; omega) (by have := mn.2.2; have : sM (nw S (g0 l9 0) 0 cq.2.2) = sM S + cq.2.2 := rfl; omega) hdg (fun q H1 hP1 hD1 hS1 => ?_)
      have he : (.inr (g0 l9 0, (List.range cq.2.2).map (fun j => if refF (g0 l9 0) j = true then .null else .int 0)) : va_E) = entE D7 (alp α (g0 l9 0) (sC S (g0 l9 0)) q) (nw S (g0 l9 0) 0 cq.2.2) (g0 l9 0, sC S (g0 l9 0)) := by
        rw [entE_o ht, nF_eq hq]
        congr 2
        apply List.map_congr_left
        intro j _
        unfold fldV
        rw [show sR (nw S (g0 l9 0) 0 cq.2.2) (g0 l9 0) (sC S (g0 l9 0)) j = .inl .null from congrFun (nw_at S.2.1 (sC S (g0 l9 0)) _) j, show sI (nw S (g0 l9 0) 0 cq.2.2) (g0 l9 0) (sC S (g0 l9 0)) j = 0 from congrFun (nw_at S.1 (sC S (g0 l9 0)) _) j]
        rfl
      have gr2 : Grow α (alp α (g0 l9 0) (sC S (g0 l9 0)) q) S := grow_nw hW
      have fin := k (alp α (g0 l9 0) (sC S (g0 l9 0)) q) H1 locs ls ⟨WI.alloc hn hL ro hW he hP1 hD1, ro_nw ro hW, eqX_nw eq hW, ext.grow gr2 ro eq, hS1, List.forall_mem_cons.mpr ⟨Or.inl ⟨hW, by rw [sC_nw, if_pos rfl]; exact Nat.lt_succ_self _⟩, fun z hz => okv.mn Mn_nw (so z hz)⟩, lo.grow gr2 lvo, fun z hz => (lvo z hz).imp id (okv.mn Mn_nw), gr.tr mn gr2, mn.tr Mn_nw⟩
      simp only [List.map_cons] at fin
      rw [gr2.mp so, show conc (alp α (g0 l9 0) (sC S (g0 l9 0)) q) (vr (g0 l9 0) (sC S (g0 l9 0))) = .ref q by simp [conc, alp]] at fin
      rw [show sN S - sN S0 + 1 = sN (nw S (g0 l9 0) 0 cq.2.2) - sN S0 by have := mn.2.1; show _ = sN S + 1 - sN S0; omega, show sM S - sM S0 + cq.2.2 = sM (nw S (g0 l9 0) 0 cq.2.2) - sM S0 by have := mn.2.2; show _ = sM S + cq.2.2 - sM S0; omega]
      exact fin
    · cases hc
  | invokestatic n =>
    have hdg : decode (mB m) pc = .ok (.invokestatic n, 3) := of_decide_eq_true hd
    simp only [stp] at h
    have hv := hv1 n rfl
    split at h
    · rename_i n9 dp t2 i2 sp t i st3
      split at h
      · rename_i hg
        cases h
        obtain ⟨g1, g2, g3, g4, g5, g6, g7⟩ := hg
        simp only [chkI] at hc
        rw [if_pos hv] at hc
        simp only [Bool.and_eq_true] at hc
        obtain ⟨⟨⟨h1, h2⟩, h3⟩, h4⟩ := hc
        obtain ⟨-, so⟩ := List.forall_mem_cons.mp so
        obtain ⟨-, so⟩ := List.forall_mem_cons.mp so
        obtain ⟨so2, so⟩ := List.forall_mem_cons.mp so
        obtain ⟨-, so⟩ := List.forall_mem_cons.mp so
        obtain ⟨so1, so⟩ := List.forall_mem_cons.mp so
        have hlo : ((st3.map (conc α)).map fun v => v.category).sum + (nativeFrameWords "java/lang/System" "arraycopy" 5 + 11) ≤ R.locals := by
          rw [catS_map]
          have : nativeFrameWords "java/lang/System" "arraycopy" 5 ≤ 100 := by decide +kernel
          omega
        have fin : ∀ (kv : Nat) (ty : FieldType) (t0 : Nat), kd t = kv → kd t2 = kv → kv ≠ 0 → kv < 5 → (tys D7)[t0]? = some (D7 kv, ty) → refKind ty = false → (∀ j, j < ix n9 → fits ty (.int (sI S t i (ix sp + j))) = true) → W p l e R s mi args below meth c H locs (sN S - sN S0) (sM S - sM S0) Q (F0 mi pc ls ((vi n9 :: vi dp :: vr t2 i2 :: vi sp :: vr t i :: st3).map (conc α))) := by
          intro kv ty t0 k1 k2 k3 k4 hty hrk hfit
          obtain ⟨hW, h20, h55⟩ := kd_isW t (by omega) (by omega)
          obtain ⟨hW2, h202, h552⟩ := kd_isW t2 (by omega) (by omega)
          have hi := okr_w hW so1
          have hi2 := okr_w hW2 so2
          obtain ⟨L, hn, hL, hP, hD⟩ := wi
          obtain ⟨kk, hkk, hws⟩ := wOf_at (D7 := D7) (α := α) (S := S) ((hL t i).mpr ⟨hW, hi⟩)
          obtain ⟨kk2, hkk2, hws2⟩ := wOf_at (D7 := D7) (α := α) (S := S) ((hL t2 i2).mpr ⟨hW2, hi2⟩)
          rw [entE_i (by omega) (by omega) (by omega) (by omega), k1] at hws
          rw [entE_i (by omega) (by omega) (by omega) (by omega), k2] at hws2
          refine va_copyi (D := D) (cl := clL) hx hb (hml.trans lo.2.1.1.symm) hown (hts _ (inW_mem h1)) (hts _ (inW_mem h2)) (hts _ (inW_mem h3)) (hts _ (inW_mem h4)) hK hP hD hS kk kk2 t0 t0 hws hws2 hty hty hrk (i32_nat g1) (i32_nat g2) (i32_nat g3) g4 g5 hfit (by omega) hlo hdg (fun H1 locs1 hP1 hD1 hS1 => ?_)
          rw [wOf_set hn hkk2 (S2 := wCp S t i (ix sp) t2 i2 (ix dp) (ix n9)) (by rw [entE_wCp (by omega) (by omega) (by omega) (by omega), k2]) (fun q _ hq => entE_wCp_ne hq)] at hP1 hD1
          exact k α H1 locs1 ls ⟨⟨L, hn, hL, hP1, hD1⟩, ro, eq.wCp hW2, ext, hS1, so, lo, lvo, gr, mn⟩
        rcases g6 with ⟨k1, k2⟩ | ⟨k1, k2, k3⟩
        · exact fin 1 .int 0 k1 k2 (by decide) (by decide) rfl rfl (fun j _ => rfl)
        · refine fin 2 .byte 1 k1 k2 (by decide) (by decide) rfl rfl (fun j hj => ?_)
          have := of_decide_eq_true (List.all_eq_true.mp k3 j (List.mem_range.mpr hj))
          rw [this]
          exact pk_fb _
      · cases h
    · cases h
  | _ => simp only [stp] at h; cases h
end Step
