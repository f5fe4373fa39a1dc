section Step
variable {p : Program} {l : Launch} {e : Env} {R : Room} {s : State} {mi : MethodId} {args : Array Value} {below : List Frame} {meth : Method} {c : Code} {Q : State → Prop}
variable {D : va_G} {D7 : Nat → ClassId} {B0 : Nat} {E S0 : St} {α0 : Nat → Nat → Nat} {m : Nat} {v : Int32} {l9 : List Nat}
set_option maxHeartbeats 4000000 in
theorem st_getfield {n : Nat} : StepOK p l e R s mi args below meth c Q D D7 B0 E S0 α0 m (.getfield n, v, l9) := by
  intro pc α S lv st H locs ls lv2 st2 S2 C I hc hd h hR1 hR2 hF hLo k
  obtain ⟨hx, hb, hml, hown, hts, hK, hret, hlk, hB0, hnm, htr⟩ := C
  obtain ⟨wi, ro, eq, ext, hS, so, lo, lvo, gr, mn⟩ := I
  have hA : ∀ q : Nat, s.heap.size ≤ q → B0 ≤ q := fun q hq => Nat.le_trans hB0 hq
  have hdg : decode (mB m) pc = .ok (.getfield n, 3) := of_decide_eq_true hd
  simp only [stp] at h
  replace h := pR_some h
  obtain ⟨t, i, st3, rfl, h⟩ := h
  split at h
  · rename_i htt
    obtain ⟨so1, so3⟩ := List.forall_mem_cons.mp so
    simp only [chkI, chkF, ← htt] at hc
    split at hc
    · rename_i q hq
      simp only [Bool.and_eq_true, decide_eq_true_eq] at hc
      obtain ⟨⟨h1, h2⟩, h3⟩ := hc
      have ht := cl_lt hq
      have hi := okr_w (cl_isW ht) so1
      obtain ⟨L, hn, hL, hP, hD⟩ := wi
      obtain ⟨kk, hk, hws⟩ := wOf_at (D7 := D7) (α := α) (S := S) ((hL t i).mpr ⟨cl_isW ht, hi⟩)
      have hws2 : (wOf D7 α S L)[kk]? = some (α t i, .inr (t, (List.range q.2.2).map (fldV α S t i))) := by
        rw [hws]
        simp only [entE, if_pos ht, nF_eq hq]
      have hfs : ((List.range q.2.2).map (fldV α S t i))[g0 l9 1]? = some (fldV α S t i (g0 l9 1)) := by simp [h1]
      have fin : ∀ w, okv S w → conc α w = fldV α S t i (g0 l9 1) → (lv2 = lv ∧ st2 = w :: st3 ∧ S2 = S) → W p l e R s mi args below meth c H locs (sN S - sN S0) (sM S - sM S0) Q (F0 mi pc ls ((vr t i :: st3).map (conc α))) := by
        rintro w hw he ⟨rfl, rfl, rfl⟩
        refine va_get (D := D) (cl := clL) (ci := t) (C := q.1) (T := q.2.1) (N := q.2.2) (ref := (q.2.1 (g0 l9 1)).1) hx hb hts (cls_fact hq).1 hown hK hP kk hws2 hq (g0 l9 1) h1 (hts _ (inW_mem h2)) (fun _ h9 => h9) hfs hdg ?_
        rw [← he]
        exact k α H locs ls ⟨⟨L, hn, hL, hP, hD⟩, ro, eq, ext, hS, List.forall_mem_cons.mpr ⟨hw, so3⟩, lo, lvo, gr, mn⟩
      by_cases hv : v = 0
      · rw [if_pos hv] at h h3
        cases h
        simp only [Bool.not_eq_true'] at h3
        exact fin (vi (sI S t i (g0 l9 1))) trivial (by simp [fldV, h3, conc]) ⟨rfl, rfl, rfl⟩
      · rw [if_neg hv] at h h3
        cases h
        simp only [Bool.and_eq_true, decide_eq_true_eq] at h3
        refine fin (sR S t i (g0 l9 1)) ?_ (by simp [fldV, h3.2]) ⟨rfl, rfl, rfl⟩
        cases hr : sR S t i (g0 l9 1) with
        | inl y => trivial
        | inr q9 => exact ro t i _ q9 (Or.inl ⟨cl_isW ht, hi⟩) hr
    · simp only [Bool.and_eq_true, Bool.or_eq_true, decide_eq_true_eq] at hc
      obtain ⟨h12, hc⟩ := hc
      subst h12
      have hi : i < 10 := okr12 so1
      obtain ⟨e1, e2, e3, -, -⟩ := ext.2.1 i hi
      rcases hc with ⟨⟨hj, hv⟩, hw⟩ | ⟨⟨hj, hv⟩, hw⟩
      · subst hv
        rw [if_neg (by decide), hj] at h
        cases h
        refine vk_getf hx hb e3 hS hown (hts _ (inW_mem hw)) (fun _ h9 => h9) hdg ?_
        rw [← (eq.ext (t := 12) rfl).2.1]
        refine k α H locs ls ⟨wi, ro, eq, ext, hS, List.forall_mem_cons.mpr ⟨?_, so3⟩, lo, lvo, gr, mn⟩
        cases hr : sR S 12 i 0 with
        | inl y => trivial
        | inr q9 => exact ro 12 i _ q9 (Or.inr (Or.inl rfl)) hr
      · subst hv
        rw [if_pos rfl, hj] at h
        cases h
        refine vk_getf hx hb e2 hS hown (hts _ (inW_mem hw)) (fun _ h9 => h9) hdg ?_
        rw [← (eq.ext (t := 12) rfl).1]
        exact k α H locs ls ⟨wi, ro, eq, ext, hS, List.forall_mem_cons.mpr ⟨trivial, so3⟩, lo, lvo, gr, mn⟩
  · cases h
end Step
