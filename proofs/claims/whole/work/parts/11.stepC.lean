section Step
variable {p : Program} {l : Launch} {e : Env} {R : Room} {s : State} {mi : MethodId} {args : Array Value} {below : List Frame} {meth : Method} {c : Code} {Q : State → Prop}
variable {D : va_G} {D7 : Nat → ClassId} {B0 : Nat} {E S0 : St} {α0 : Nat → Nat → Nat} {m : Nat} {v : Int32} {l9 : List Nat}
set_option maxHeartbeats 4000000 in
theorem st_putfield {n : Nat} : StepOK p l e R s mi args below meth c Q D D7 B0 E S0 α0 m (.putfield n, v, l9) := by
  intro pc α S lv st H locs ls lv2 st2 S2 C I hc hd h hR1 hR2 hF hLo k
  obtain ⟨hx, hb, hml, hown, hts, hK, hret, hlk, hB0, hnm, htr⟩ := C
  obtain ⟨wi, ro, eq, ext, hS, so, lo, lvo, gr, mn⟩ := I
  have hA : ∀ q : Nat, s.heap.size ≤ q → B0 ≤ q := fun q hq => Nat.le_trans hB0 hq
  have hdg : decode (mB m) pc = .ok (.putfield n, 3) := of_decide_eq_true hd
  simp only [stp] at h
  replace h := pVV_some h
  obtain ⟨w, r, st3, rfl, h⟩ := h
  split at h
  · rename_i t i
    split at h
    · rename_i htt
      obtain ⟨so1, so2⟩ := List.forall_mem_cons.mp so
      obtain ⟨so2, so3⟩ := List.forall_mem_cons.mp so2
      simp only [chkI, chkP, ← htt] at hc
      split at hc
      · rename_i q hq
        simp only [Bool.and_eq_true, decide_eq_true_eq] at hc
        obtain ⟨⟨⟨h1, h2⟩, h3⟩, h4⟩ := hc
        have ht := cl_lt hq
        have hW := cl_isW ht
        have hi := okr_w hW so2
        obtain ⟨L, hn, hL, hP, hD⟩ := wi
        obtain ⟨kk, hk, hws⟩ := wOf_at (D7 := D7) (α := α) (S := S) ((hL t i).mpr ⟨hW, hi⟩)
        have hws2 : (wOf D7 α S L)[kk]? = some (α t i, .inr (t, (List.range q.2.2).map (fldV α S t i))) := by
          rw [hws]
          simp only [entE, if_pos ht, nF_eq hq]
        have hfin : (q.2.1 (g0 l9 1)).2.2.2 = false ∨ ((mY m).name = "<init>" ∧ (q.2.1 (g0 l9 1)).1 = (mY m).cls) := by
          simpa using h3
        obtain ⟨f1, f2, f3, -⟩ := cls_fact hq
        -- the row, for either kind of value
        have fin : ∀ (ty : FieldType) (z : Value), parseFieldDescriptor (q.2.1 (g0 l9 1)).2.2.1 = some ty → narrow ty z = z → fits ty z = true → conc α w = z →
            (∀ (H1 : Heap) (locs1 : List Loc), va_P D clL ((wOf D7 α S L).set kk (α t i, .inr (t, ((List.range q.2.2).map (fldV α S t i)).set (g0 l9 1) z))) H1 → va_D (fun q => B0 ≤ q) ((wOf D7 α S L).set kk (α t i, .inr (t, ((List.range q.2.2).map (fldV α S t i)).set (g0 l9 1) z))) → va_S (fun q => B0 ≤ q) s.heap H1 locs1 → W p l e R s mi args below meth c H1 locs1 (sN S - sN S0) (sM S - sM S0) Q (F0 mi (pc + 3) ls (st3.map (conc α)))) →
            W p l e R s mi args below meth c H locs (sN S - sN S0) (sM S - sM S0) Q (F0 mi pc ls ((w :: vr t i :: st3).map (conc α))) := by
          intro ty z hty hnar hfit hcz kkk
          subst hcz
          rcases hfin with hf0 | ⟨hf1, hf2⟩
          · exact va_put (D := D) (cl := clL) (ci := t) (C := q.1) (T := q.2.1) (N := q.2.2) (ref := (q.2.1 (g0 l9 1)).1) hx hb hts f1 _ f2 f3 hown hK hP hD hS kk hws2 hq (g0 l9 1) h1 (hts _ (inW_mem h2)) (fun _ h9 => h9) hf0 hty hnar hfit (by simpa using h1) hdg kkk
          · cases hf0 : (q.2.1 (g0 l9 1)).2.2.2 with
            | false => exact va_put (D := D) (cl := clL) (ci := t) (C := q.1) (T := q.2.1) (N := q.2.2) (ref := (q.2.1 (g0 l9 1)).1) hx hb hts f1 _ f2 f3 hown hK hP hD hS kk hws2 hq (g0 l9 1) h1 (hts _ (inW_mem h2)) (fun _ h9 => h9) hf0 hty hnar hfit (by simpa using h1) hdg kkk
            | true => exact va_putF (D := D) (cl := clL) (ci := t) (C := q.1) (T := q.2.1) (N := q.2.2) (ref := (q.2.1 (g0 l9 1)).1) hx hb hts f1 _ f2 f3 hown hK hP hD hS kk hws2 hq (g0 l9 1) h1 (hts _ (inW_mem h2)) (fun _ h9 => h9) hf0 (hnm.trans hf1) hf2 hty hnar hfit (by simpa using h1) hdg kkk
        by_cases hv : v = 0
        · rw [if_pos hv] at h h4
          simp only [Bool.and_eq_true, Bool.or_eq_true, Bool.not_eq_true', decide_eq_true_eq] at h4
          obtain ⟨hrf, hty⟩ := h4
          split at h
          · rename_i x
            split at h
            · rename_i hcond
              cases h
              have hset : ((List.range q.2.2).map (fldV α S t i)).set (g0 l9 1) (.int x) = (List.range q.2.2).map (fldV α (wI S t i (g0 l9 1) x) t i) := by
                apply List.ext_getElem?
                intro j
                rw [List.getElem?_set]
                by_cases hj : g0 l9 1 = j
                · subst hj
                  rw [if_pos rfl, if_pos (by simpa using h1)]
                  simp [h1, fldV, hrf, sI, wI, up3]
                · rw [if_neg hj]
                  simp only [List.getElem?_map]
                  cases hjr : (List.range q.2.2)[j]? with
                  | none => rfl
                  | some j2 =>
                    have : j2 = j := by
                      obtain ⟨hlt, e9⟩ := List.getElem?_eq_some_iff.mp hjr
                      rw [List.getElem_range] at e9
                      exact e9.symm
                    subst this
                    simp only [Option.map_some]
                    congr 1
                    unfold fldV
                    rw [show sI (wI S t i (g0 l9 1) x) t i j2 = sI S t i j2 from if_neg (fun z => hj z.2.2.symm)]
                    rfl
              have key : ∀ ty : FieldType, parseFieldDescriptor (q.2.1 (g0 l9 1)).2.2.1 = some ty → narrow ty (.int x) = .int x → fits ty (.int x) = true → W p l e R s mi args below meth c H locs (sN S - sN S0) (sM S - sM S0) Q (F0 mi pc ls ((vi x :: vr t i :: st2).map (conc α))) := by
                intro ty a1 a2 a3
                refine fin ty (.int x) a1 a2 a3 rfl (fun H1 locs1 hP1 hD1 hS1 => ?_)
                refine k α H1 locs1 ls ⟨WI.putI hn hL hk ?_ hP1 hD1, ro, eq.wI hW, ext, hS1, so3, lo, lvo, gr, mn⟩
                rw [hset]
                simp only [entE, if_pos ht, nF_eq hq]
              rcases hty with (⟨hc0, hd0⟩ | ⟨hc0, hd0⟩) | ⟨hc0, hd0⟩
              · exact key .int (by rw [hd0]; decide +kernel) (vp_nar_int x) rfl
              · rw [hc0] at hcond
                have hb8 : x = x.toInt8.toInt32 := by
                  rcases hcond with z | z | z
                  · exact absurd z (by decide)
                  · exact z.2
                  · exact absurd z.1 (by decide)
                exact key .byte (by rw [hd0]; decide +kernel) (by rw [hb8]; exact pk_nb x) (by rw [hb8]; exact pk_fb x)
              · rw [hc0] at hcond
                have hb8 : x = 0 ∨ x = 1 := by
                  rcases hcond with z | z | z
                  · exact absurd z (by decide)
                  · exact absurd z.1 (by decide)
                  · exact z.2
                rcases hb8 with rfl | rfl
                · exact key .boolean (by rw [hd0]; decide +kernel) (by decide +kernel) (by decide +kernel)
                · exact key .boolean (by rw [hd0]; decide +kernel) (by decide +kernel) (by decide +kernel)
            · cases h
          · cases h
        · rw [if_neg hv] at h h4
          simp only [Bool.and_eq_true, decide_eq_true_eq] at h4
          obtain ⟨⟨-, hrf⟩, hty⟩ := h4
          split at h
          · rename_i t2 i2
            split at h
            · cases h
              split at hty
              · rename_i ty hpt
                have e2 : ∀ q9 : Nat × Nat, q9 ≠ (t, i) → entE D7 α (wR S t i (g0 l9 1) (.inr (t2, i2))) q9 = entE D7 α S q9 := fun q9 hq9 => entE_wR_ne hq9
                have hset : ((List.range q.2.2).map (fldV α S t i)).set (g0 l9 1) (.ref (α t2 i2)) = (List.range q.2.2).map (fldV α (wR S t i (g0 l9 1) (.inr (t2, i2))) t i) := by
                  apply List.ext_getElem?
                  intro j
                  rw [List.getElem?_set]
                  by_cases hj : g0 l9 1 = j
                  · subst hj
                    rw [if_pos rfl, if_pos (by simpa using h1)]
                    simp [h1, fldV, hrf, sR, wR, up3, conc]
                  · rw [if_neg hj]
                    simp only [List.getElem?_map]
                    cases hjr : (List.range q.2.2)[j]? with
                    | none => rfl
                    | some j2 =>
                      have : j2 = j := by
                        obtain ⟨hlt, e9⟩ := List.getElem?_eq_some_iff.mp hjr
                        rw [List.getElem_range] at e9
                        exact e9.symm
                      subst this
                      simp only [Option.map_some]
                      congr 1
                      unfold fldV
                      rw [show sR (wR S t i (g0 l9 1) (.inr (t2, i2))) t i j2 = sR S t i j2 from if_neg (fun z => hj z.2.2.symm)]
                      rfl
                refine fin ty (.ref (α t2 i2)) hpt ?_ ?_ rfl (fun H1 locs1 hP1 hD1 hS1 => ?_)
                · cases ty <;> first | rfl | cases hty
                · cases ty <;> first | rfl | cases hty
                · rw [hset] at hP1 hD1
                  rw [wOf_set hn hk (S2 := wR S t i (g0 l9 1) (.inr (t2, i2))) (by simp only [entE, if_pos ht, nF_eq hq]) (fun q9 _ hq9 => e2 q9 hq9)] at hP1 hD1
                  exact k α H1 locs1 ls ⟨⟨L, hn, hL, hP1, hD1⟩, ro.wR so1, eq.wR hW, ext, hS1, so3, lo, lvo, gr, mn⟩
              · cases hty
            · cases h
          · cases h
      · cases hc
    · cases h
  · cases h
set_option maxHeartbeats 4000000 in
theorem st_getstatic {n : Nat} : StepOK p l e R s mi args below meth c Q D D7 B0 E S0 α0 m (.getstatic n, v, l9) := by
  intro pc α S lv st H locs ls lv2 st2 S2 C I hc hd h hR1 hR2 hF hLo k
  obtain ⟨hx, hb, hml, hown, hts, hK, hret, hlk, hB0, hnm, htr⟩ := C
  obtain ⟨wi, ro, eq, ext, hS, so, lo, lvo, gr, mn⟩ := I
  have hA : ∀ q : Nat, s.heap.size ≤ q → B0 ≤ q := fun q hq => Nat.le_trans hB0 hq
  have hdg : decode (mB m) pc = .ok (.getstatic n, 3) := of_decide_eq_true hd
  simp only [stp] at h
  simp only [chkI] at hc
  split at hc
  · rename_i q hq
    simp only [Bool.and_eq_true] at hc
    obtain ⟨h1, h2⟩ := hc
    have hZ := ext.2.2.2.2.1 _ q hq
    by_cases hv : v = 0
    · rw [if_pos hv] at h h2
      cases h
      have hz := of_decide_eq_true h2
      rw [if_pos hz] at hZ
      rw [hz] at k
      refine va_gets hx hb hZ hS hown (hts _ (inW_mem h1)) (fun _ h9 => h9) hdg ?_
      rw [← (eq.ext (t := 60) rfl).1]
      exact k α H locs ls ⟨wi, ro, eq, ext, hS, List.forall_mem_cons.mpr ⟨trivial, so⟩, lo, lvo, gr, mn⟩
    · rw [if_neg hv] at h h2
      cases h
      simp only [Bool.and_eq_true, decide_eq_true_eq] at h2
      rw [if_neg h2.2] at hZ
      refine va_gets hx hb hZ hS hown (hts _ (inW_mem h1)) (fun _ h9 => h9) hdg ?_
      rw [← (eq.ext (t := 60) rfl).2.1]
      refine k α H locs ls ⟨wi, ro, eq, ext, hS, List.forall_mem_cons.mpr ⟨?_, so⟩, lo, lvo, gr, mn⟩
      cases hr : sR S 60 0 (g0 l9 0) with
      | inl y => trivial
      | inr q9 => exact ro 60 0 _ q9 (Or.inr (Or.inr rfl)) hr
  · cases hc
set_option maxHeartbeats 4000000 in
theorem st_iaload : StepOK p l e R s mi args below meth c Q D D7 B0 E S0 α0 m (.iaload, v, l9) := by
  intro pc α S lv st H locs ls lv2 st2 S2 C I hc hd h hR1 hR2 hF hLo k
  obtain ⟨hx, hb, hml, hown, hts, hK, hret, hlk, hB0, hnm, htr⟩ := C
  obtain ⟨wi, ro, eq, ext, hS, so, lo, lvo, gr, mn⟩ := I
  have hA : ∀ q : Nat, s.heap.size ≤ q → B0 ≤ q := fun q hq => Nat.le_trans hB0 hq
  have hdg : decode (mB m) pc = .ok (.iaload, 1) := of_decide_eq_true hd
  simp only [stp] at h
  replace h := pIR_some h
  obtain ⟨t, i, j, st3, rfl, h⟩ := h
  split at h
  · rename_i hg
    cases h
    obtain ⟨hk, hin⟩ := hg
    obtain ⟨so2, so3⟩ := List.forall_mem_cons.mp (List.forall_mem_cons.mp so).2
    rcases hk with hk | hk
    · skip
      obtain ⟨hW, h20, h55⟩ := kd_isW t (by rw [hk]; decide) (by rw [hk]; decide)
      have hi := okr_w hW so2
      obtain ⟨L, hn, hL, hP, hD⟩ := wi
      obtain ⟨kk, hkk, hws⟩ := wOf_at (D7 := D7) (α := α) (S := S) ((hL t i).mpr ⟨hW, hi⟩)
      rw [entE_i (by omega) (by rw [hk]; decide) (by rw [hk]; decide) (by rw [hk]; decide), hk] at hws
      refine va_iald (D := D) (cl := clL) hx hb hK hP kk 0 hws rfl (vp_of hin) hdg ?_
      exact k α H locs ls ⟨⟨L, hn, hL, hP, hD⟩, ro, eq, ext, hS, List.forall_mem_cons.mpr ⟨trivial, so3⟩, lo, lvo, gr, mn⟩
    · have e55 : t = 55 := kd_8 t hk
      subst e55
      have hi : i = 0 := okr55 so2
      subst hi
      obtain ⟨x1, x2, x3⟩ := ext.1
      have hin2 := vp_of hin
      rw [(eq.ext (t := 55) rfl).2.2] at hin2
      refine va_sld hx hb x1 x2 x3 hS hin2 hdg ?_
      rw [← (eq.ext (t := 55) rfl).1]
      exact k α H locs ls ⟨wi, ro, eq, ext, hS, List.forall_mem_cons.mpr ⟨trivial, so3⟩, lo, lvo, gr, mn⟩
  · cases h
set_option maxHeartbeats 4000000 in
theorem st_baload : StepOK p l e R s mi args below meth c Q D D7 B0 E S0 α0 m (.baload, v, l9) := by
  intro pc α S lv st H locs ls lv2 st2 S2 C I hc hd h hR1 hR2 hF hLo k
  obtain ⟨hx, hb, hml, hown, hts, hK, hret, hlk, hB0, hnm, htr⟩ := C
  obtain ⟨wi, ro, eq, ext, hS, so, lo, lvo, gr, mn⟩ := I
  have hA : ∀ q : Nat, s.heap.size ≤ q → B0 ≤ q := fun q hq => Nat.le_trans hB0 hq
  have hdg : decode (mB m) pc = .ok (.baload, 1) := of_decide_eq_true hd
  simp only [stp] at h
  replace h := pIR_some h
  obtain ⟨t, i, j, st3, rfl, h⟩ := h
  split at h
  · rename_i hg
    cases h
    obtain ⟨hk, hin⟩ := hg
    obtain ⟨so2, so3⟩ := List.forall_mem_cons.mp (List.forall_mem_cons.mp so).2
    have tab : isW t = false → ∀ N f, N = sL S t i → va_T .byte (α t i) N f (fun q => B0 ≤ q) s s.heap → (∀ j, f j = .int (sI S t i j)) → W p l e R s mi args below meth c H locs (sN S - sN S0) (sM S - sM S0) Q (F0 mi pc ls ((vi j :: vr t i :: st3).map (conc α))) := by
      intro hw N f hN hT hf
      subst hN
      refine va_tb hx hb hT hS (vp_of hin) (hf _) hdg ?_
      exact k α H locs ls ⟨wi, ro, eq, ext, hS, List.forall_mem_cons.mpr ⟨trivial, so3⟩, lo, lvo, gr, mn⟩
    rcases hk with hk | hk | hk | hk
    · skip
      obtain ⟨hW, h20, h55⟩ := kd_isW t (by rw [hk]; decide) (by rw [hk]; decide)
      have hi := okr_w hW so2
      obtain ⟨L, hn, hL, hP, hD⟩ := wi
      obtain ⟨kk, hkk, hws⟩ := wOf_at (D7 := D7) (α := α) (S := S) ((hL t i).mpr ⟨hW, hi⟩)
      rw [entE_i (by omega) (by rw [hk]; decide) (by rw [hk]; decide) (by rw [hk]; decide), hk] at hws
      refine va_bald (D := D) (cl := clL) hx hb hK hP kk 1 hws rfl (vp_of hin) hdg ?_
      exact k α H locs ls ⟨⟨L, hn, hL, hP, hD⟩, ro, eq, ext, hS, List.forall_mem_cons.mpr ⟨trivial, so3⟩, lo, lvo, gr, mn⟩
    · skip
      obtain ⟨hW, h20, h55⟩ := kd_isW t (by rw [hk]; decide) (by rw [hk]; decide)
      have hi := okr_w hW so2
      obtain ⟨L, hn, hL, hP, hD⟩ := wi
      obtain ⟨kk, hkk, hws⟩ := wOf_at (D7 := D7) (α := α) (S := S) ((hL t i).mpr ⟨hW, hi⟩)
      rw [entE_i (by omega) (by rw [hk]; decide) (by rw [hk]; decide) (by rw [hk]; decide), hk] at hws
      refine va_zald (D := D) (cl := clL) hx hb hK hP kk 2 hws rfl (vp_of hin) hdg ?_
      exact k α H locs ls ⟨⟨L, hn, hL, hP, hD⟩, ro, eq, ext, hS, List.forall_mem_cons.mpr ⟨trivial, so3⟩, lo, lvo, gr, mn⟩
    · have e56 : t = 56 := kd_9 t hk
      subst e56
      have hi : i < 10 := okr56 so2
      exact tab rfl _ _ ((eq.ext (t := 56) rfl).2.2 i).symm (ext.2.1 i hi).2.2.2.1 (fun j => by rw [(eq.ext (t := 56) rfl).1])
    · rcases kd_10 t hk with rfl | rfl
      · have hi : i = 0 := okr57 so2
        subst hi
        exact tab rfl _ _ ((eq.ext (t := 57) rfl).2.2 0).symm ext.2.2.1 (fun j => by rw [(eq.ext (t := 57) rfl).1])
      · have hi : i = 0 := okr58 so2
        subst hi
        exact tab rfl _ _ ((eq.ext (t := 58) rfl).2.2 0).symm ext.2.2.2.1 (fun j => by rw [(eq.ext (t := 58) rfl).1])
  · cases h
set_option maxHeartbeats 4000000 in
theorem st_caload : StepOK p l e R s mi args below meth c Q D D7 B0 E S0 α0 m (.caload, v, l9) := by
  intro pc α S lv st H locs ls lv2 st2 S2 C I hc hd h hR1 hR2 hF hLo k
  obtain ⟨hx, hb, hml, hown, hts, hK, hret, hlk, hB0, hnm, htr⟩ := C
  obtain ⟨wi, ro, eq, ext, hS, so, lo, lvo, gr, mn⟩ := I
  have hA : ∀ q : Nat, s.heap.size ≤ q → B0 ≤ q := fun q hq => Nat.le_trans hB0 hq
  have hdg : decode (mB m) pc = .ok (.caload, 1) := of_decide_eq_true hd
  simp only [stp] at h
  replace h := pIR_some h
  obtain ⟨t, i, j, st3, rfl, h⟩ := h
  split at h
  · rename_i hg
    cases h
    obtain ⟨hk, hin⟩ := hg
    obtain ⟨so2, so3⟩ := List.forall_mem_cons.mp (List.forall_mem_cons.mp so).2
    · skip
      obtain ⟨hW, h20, h55⟩ := kd_isW t (by rw [hk]; decide) (by rw [hk]; decide)
      have hi := okr_w hW so2
      obtain ⟨L, hn, hL, hP, hD⟩ := wi
      obtain ⟨kk, hkk, hws⟩ := wOf_at (D7 := D7) (α := α) (S := S) ((hL t i).mpr ⟨hW, hi⟩)
      rw [entE_i (by omega) (by rw [hk]; decide) (by rw [hk]; decide) (by rw [hk]; decide), hk] at hws
      refine va_cald (D := D) (cl := clL) hx hb hK hP kk 3 hws rfl (vp_of hin) hdg ?_
      exact k α H locs ls ⟨⟨L, hn, hL, hP, hD⟩, ro, eq, ext, hS, List.forall_mem_cons.mpr ⟨trivial, so3⟩, lo, lvo, gr, mn⟩
  · cases h
set_option maxHeartbeats 4000000 in
theorem st_laload : StepOK p l e R s mi args below meth c Q D D7 B0 E S0 α0 m (.laload, v, l9) := by
  intro pc α S lv st H locs ls lv2 st2 S2 C I hc hd h hR1 hR2 hF hLo k
  obtain ⟨hx, hb, hml, hown, hts, hK, hret, hlk, hB0, hnm, htr⟩ := C
  obtain ⟨wi, ro, eq, ext, hS, so, lo, lvo, gr, mn⟩ := I
  have hA : ∀ q : Nat, s.heap.size ≤ q → B0 ≤ q := fun q hq => Nat.le_trans hB0 hq
  have hdg : decode (mB m) pc = .ok (.laload, 1) := of_decide_eq_true hd
  simp only [stp] at h
  replace h := pIR_some h
  obtain ⟨t, i, j, st3, rfl, h⟩ := h
  split at h
  · rename_i hg
    cases h
    obtain ⟨hk, hin⟩ := hg
    obtain ⟨so2, so3⟩ := List.forall_mem_cons.mp (List.forall_mem_cons.mp so).2
    obtain ⟨hW, h20, h55⟩ := kd_isW t (by rw [hk]; decide) (by rw [hk]; decide)
    have hi := okr_w hW so2
    obtain ⟨L, hn, hL, hP, hD⟩ := wi
    obtain ⟨kk, hkk, hws⟩ := wOf_at (D7 := D7) (α := α) (S := S) ((hL t i).mpr ⟨hW, hi⟩)
    rw [entE_l (by omega) hk] at hws
    refine va_lald (D := D) (cl := clL) hx hb hK hP kk 4 hws rfl (vp_of hin) hdg ?_
    exact k α H locs ls ⟨⟨L, hn, hL, hP, hD⟩, ro, eq, ext, hS, List.forall_mem_cons.mpr ⟨trivial, so3⟩, lo, lvo, gr, mn⟩
  · cases h
set_option maxHeartbeats 4000000 in
theorem st_daload : StepOK p l e R s mi args below meth c Q D D7 B0 E S0 α0 m (.daload, v, l9) := by
  intro pc α S lv st H locs ls lv2 st2 S2 C I hc hd h hR1 hR2 hF hLo k
  obtain ⟨hx, hb, hml, hown, hts, hK, hret, hlk, hB0, hnm, htr⟩ := C
  obtain ⟨wi, ro, eq, ext, hS, so, lo, lvo, gr, mn⟩ := I
  have hA : ∀ q : Nat, s.heap.size ≤ q → B0 ≤ q := fun q hq => Nat.le_trans hB0 hq
  have hdg : decode (mB m) pc = .ok (.daload, 1) := of_decide_eq_true hd
  simp only [stp] at h
  replace h := pIR_some h
  obtain ⟨t, i, j, st3, rfl, h⟩ := h
  split at h
  · rename_i hg
    cases h
    obtain ⟨hk, hin⟩ := hg
    obtain ⟨so2, so3⟩ := List.forall_mem_cons.mp (List.forall_mem_cons.mp so).2
    obtain ⟨hW, h20, h55⟩ := kd_isW t (by rw [hk]; decide) (by rw [hk]; decide)
    have hi := okr_w hW so2
    obtain ⟨L, hn, hL, hP, hD⟩ := wi
    obtain ⟨kk, hkk, hws⟩ := wOf_at (D7 := D7) (α := α) (S := S) ((hL t i).mpr ⟨hW, hi⟩)
    rw [entE_d (by omega) hk] at hws
    refine va_dald (D := D) (cl := clL) hx hb hK hP kk 5 hws rfl (vp_of hin) hdg ?_
    exact k α H locs ls ⟨⟨L, hn, hL, hP, hD⟩, ro, eq, ext, hS, List.forall_mem_cons.mpr ⟨trivial, so3⟩, lo, lvo, gr, mn⟩
  · cases h
set_option maxHeartbeats 4000000 in
theorem st_aaload : StepOK p l e R s mi args below meth c Q D D7 B0 E S0 α0 m (.aaload, v, l9) := by
  intro pc α S lv st H locs ls lv2 st2 S2 C I hc hd h hR1 hR2 hF hLo k
  obtain ⟨hx, hb, hml, hown, hts, hK, hret, hlk, hB0, hnm, htr⟩ := C
  obtain ⟨wi, ro, eq, ext, hS, so, lo, lvo, gr, mn⟩ := I
  have hA : ∀ q : Nat, s.heap.size ≤ q → B0 ≤ q := fun q hq => Nat.le_trans hB0 hq
  have hdg : decode (mB m) pc = .ok (.aaload, 1) := of_decide_eq_true hd
  simp only [stp] at h
  replace h := pIR_some h
  obtain ⟨t, i, j, st3, rfl, h⟩ := h
  split at h
  · rename_i hg
    split at h
    · rename_i q9 hq9
      cases h
      obtain ⟨hk, hin⟩ := hg
      obtain ⟨so2, so3⟩ := List.forall_mem_cons.mp (List.forall_mem_cons.mp so).2
      obtain ⟨hW, h20, h55⟩ := kd_isW t (by rw [hk]; decide) (by rw [hk]; decide)
      have hi := okr_w hW so2
      obtain ⟨L, hn, hL, hP, hD⟩ := wi
      obtain ⟨kk, hkk, hws⟩ := wOf_at (D7 := D7) (α := α) (S := S) ((hL t i).mpr ⟨hW, hi⟩)
      rw [entE_q (by omega) hk] at hws
      refine va_aldq (D := D) (cl := clL) (C := "SighGranary$Data") hx hb hK hP kk 6 hws rfl (vp_of hin) hdg ?_
      rw [show j.toNatClampNeg = ix j from rfl, hq9]
      exact k α H locs ls ⟨⟨L, hn, hL, hP, hD⟩, ro, eq, ext, hS, List.forall_mem_cons.mpr ⟨ro t i _ q9 (Or.inl ⟨hW, hi⟩) hq9, so3⟩, lo, lvo, gr, mn⟩
    · cases h
  · cases h
set_option maxHeartbeats 4000000 in
theorem st_iastore : StepOK p l e R s mi args below meth c Q D D7 B0 E S0 α0 m (.iastore, v, l9) := by
  intro pc α S lv st H locs ls lv2 st2 S2 C I hc hd h hR1 hR2 hF hLo k
  obtain ⟨hx, hb, hml, hown, hts, hK, hret, hlk, hB0, hnm, htr⟩ := C
  obtain ⟨wi, ro, eq, ext, hS, so, lo, lvo, gr, mn⟩ := I
  have hA : ∀ q : Nat, s.heap.size ≤ q → B0 ≤ q := fun q hq => Nat.le_trans hB0 hq
  have hdg : decode (mB m) pc = .ok (.iastore, 1) := of_decide_eq_true hd
  simp only [stp] at h
  replace h := pIIR_some h
  obtain ⟨t, i, j, x, st3, rfl, h⟩ := h
  split at h
  · rename_i hg
    cases h
    obtain ⟨hk, hin⟩ := hg
    obtain ⟨so2, so3⟩ := List.forall_mem_cons.mp (List.forall_mem_cons.mp (List.forall_mem_cons.mp so).2).2
    · skip
      obtain ⟨hW, h20, h55⟩ := kd_isW t (by rw [hk]; decide) (by rw [hk]; decide)
      have hi := okr_w hW so2
      obtain ⟨L, hn, hL, hP, hD⟩ := wi
      obtain ⟨kk, hkk, hws⟩ := wOf_at (D7 := D7) (α := α) (S := S) ((hL t i).mpr ⟨hW, hi⟩)
      rw [entE_i (by omega) (by rw [hk]; decide) (by rw [hk]; decide) (by rw [hk]; decide), hk] at hws
      refine va_iast (D := D) (cl := clL) hx hb hK hP hD hS kk 0 hws rfl (vp_of hin) hdg (fun H1 locs1 hP1 hD1 hS1 => ?_)
      refine k α H1 locs1 ls ⟨WI.putI hn hL hkk ?_ hP1 hD1, ro, eq.wI hW, ext, hS1, so3, lo, lvo, gr, mn⟩
      rw [entE_wI (by omega) (by rw [hk]; decide) (by rw [hk]; decide) (by rw [hk]; decide), hk]
  · cases h
set_option maxHeartbeats 4000000 in
theorem st_castore : StepOK p l e R s mi args below meth c Q D D7 B0 E S0 α0 m (.castore, v, l9) := by
  intro pc α S lv st H locs ls lv2 st2 S2 C I hc hd h hR1 hR2 hF hLo k
  obtain ⟨hx, hb, hml, hown, hts, hK, hret, hlk, hB0, hnm, htr⟩ := C
  obtain ⟨wi, ro, eq, ext, hS, so, lo, lvo, gr, mn⟩ := I
  have hA : ∀ q : Nat, s.heap.size ≤ q → B0 ≤ q := fun q hq => Nat.le_trans hB0 hq
  have hdg : decode (mB m) pc = .ok (.castore, 1) := of_decide_eq_true hd
  simp only [stp] at h
  replace h := pIIR_some h
  obtain ⟨t, i, j, x, st3, rfl, h⟩ := h
  split at h
  · rename_i hg
    cases h
    obtain ⟨hk, hin⟩ := hg
    obtain ⟨so2, so3⟩ := List.forall_mem_cons.mp (List.forall_mem_cons.mp (List.forall_mem_cons.mp so).2).2
    · skip
      obtain ⟨hW, h20, h55⟩ := kd_isW t (by rw [hk]; decide) (by rw [hk]; decide)
      have hi := okr_w hW so2
      obtain ⟨L, hn, hL, hP, hD⟩ := wi
      obtain ⟨kk, hkk, hws⟩ := wOf_at (D7 := D7) (α := α) (S := S) ((hL t i).mpr ⟨hW, hi⟩)
      rw [entE_i (by omega) (by rw [hk]; decide) (by rw [hk]; decide) (by rw [hk]; decide), hk] at hws
      refine va_cast (D := D) (cl := clL) hx hb hK hP hD hS kk 3 hws rfl (vp_of hin) hdg (fun H1 locs1 hP1 hD1 hS1 => ?_)
      refine k α H1 locs1 ls ⟨WI.putI hn hL hkk ?_ hP1 hD1, ro, eq.wI hW, ext, hS1, so3, lo, lvo, gr, mn⟩
      rw [entE_wI (by omega) (by rw [hk]; decide) (by rw [hk]; decide) (by rw [hk]; decide), hk, toCh_nar]
  · cases h
set_option maxHeartbeats 4000000 in
theorem st_bastore : StepOK p l e R s mi args below meth c Q D D7 B0 E S0 α0 m (.bastore, v, l9) := by
  intro pc α S lv st H locs ls lv2 st2 S2 C I hc hd h hR1 hR2 hF hLo k
  obtain ⟨hx, hb, hml, hown, hts, hK, hret, hlk, hB0, hnm, htr⟩ := C
  obtain ⟨wi, ro, eq, ext, hS, so, lo, lvo, gr, mn⟩ := I
  have hA : ∀ q : Nat, s.heap.size ≤ q → B0 ≤ q := fun q hq => Nat.le_trans hB0 hq
  have hdg : decode (mB m) pc = .ok (.bastore, 1) := of_decide_eq_true hd
  simp only [stp] at h
  replace h := pIIR_some h
  obtain ⟨t, i, j, x, st3, rfl, h⟩ := h
  split at h
  · rename_i hg
    cases h
    obtain ⟨hin, hk⟩ := hg
    obtain ⟨so2, so3⟩ := List.forall_mem_cons.mp (List.forall_mem_cons.mp (List.forall_mem_cons.mp so).2).2
    rcases hk with hk | ⟨hk, hx01⟩
    · rw [if_pos hk] at k
      obtain ⟨hW, h20, h55⟩ := kd_isW t (by rw [hk]; decide) (by rw [hk]; decide)
      have hi := okr_w hW so2
      obtain ⟨L, hn, hL, hP, hD⟩ := wi
      obtain ⟨kk, hkk, hws⟩ := wOf_at (D7 := D7) (α := α) (S := S) ((hL t i).mpr ⟨hW, hi⟩)
      rw [entE_i (by omega) (by rw [hk]; decide) (by rw [hk]; decide) (by rw [hk]; decide), hk] at hws
      refine va_bast (D := D) (cl := clL) hx hb hK hP hD hS kk 1 hws rfl (vp_of hin) hdg (fun H1 locs1 hP1 hD1 hS1 => ?_)
      refine k α H1 locs1 ls ⟨WI.putI hn hL hkk ?_ hP1 hD1, ro, eq.wI hW, ext, hS1, so3, lo, lvo, gr, mn⟩
      rw [entE_wI (by omega) (by rw [hk]; decide) (by rw [hk]; decide) (by rw [hk]; decide), hk, vp_nar_byte]
    · rw [if_neg (by rw [hk]; decide)] at k
      obtain ⟨hW, h20, h55⟩ := kd_isW t (by rw [hk]; decide) (by rw [hk]; decide)
      have hi := okr_w hW so2
      obtain ⟨L, hn, hL, hP, hD⟩ := wi
      obtain ⟨kk, hkk, hws⟩ := wOf_at (D7 := D7) (α := α) (S := S) ((hL t i).mpr ⟨hW, hi⟩)
      rw [entE_i (by omega) (by rw [hk]; decide) (by rw [hk]; decide) (by rw [hk]; decide), hk] at hws
      refine va_zast (D := D) (cl := clL) hx hb hK hP hD hS kk 2 hws rfl (vp_of hin) hdg (fun H1 locs1 hP1 hD1 hS1 => ?_)
      refine k α H1 locs1 ls ⟨WI.putI hn hL hkk ?_ hP1 hD1, ro, eq.wI hW, ext, hS1, so3, lo, lvo, gr, mn⟩
      rw [entE_wI (by omega) (by rw [hk]; decide) (by rw [hk]; decide) (by rw [hk]; decide), hk, nar_bool hx01]
  · cases h
set_option maxHeartbeats 4000000 in
theorem st_lastore : StepOK p l e R s mi args below meth c Q D D7 B0 E S0 α0 m (.lastore, v, l9) := by
  intro pc α S lv st H locs ls lv2 st2 S2 C I hc hd h hR1 hR2 hF hLo k
  obtain ⟨hx, hb, hml, hown, hts, hK, hret, hlk, hB0, hnm, htr⟩ := C
  obtain ⟨wi, ro, eq, ext, hS, so, lo, lvo, gr, mn⟩ := I
  have hA : ∀ q : Nat, s.heap.size ≤ q → B0 ≤ q := fun q hq => Nat.le_trans hB0 hq
  have hdg : decode (mB m) pc = .ok (.lastore, 1) := of_decide_eq_true hd
  simp only [stp] at h
  split at h
  · rename_i x j t i st3
    split at h
    · rename_i hg
      cases h
      obtain ⟨hk, hin⟩ := hg
      obtain ⟨so2, so3⟩ := List.forall_mem_cons.mp (List.forall_mem_cons.mp (List.forall_mem_cons.mp so).2).2
      obtain ⟨hW, h20, h55⟩ := kd_isW t (by rw [hk]; decide) (by rw [hk]; decide)
      have hi := okr_w hW so2
      obtain ⟨L, hn, hL, hP, hD⟩ := wi
      obtain ⟨kk, hkk, hws⟩ := wOf_at (D7 := D7) (α := α) (S := S) ((hL t i).mpr ⟨hW, hi⟩)
      rw [entE_l (by omega) hk] at hws
      refine va_last (D := D) (cl := clL) hx hb hK hP hD hS kk 4 hws rfl (vp_of hin) hdg (fun H1 locs1 hP1 hD1 hS1 => ?_)
      rw [wOf_set hn hkk (S2 := wJ S t i (ix j) x) (entE_wJ (by omega) hk).symm (fun q _ hq => entE_wJ_ne hq)] at hP1 hD1
      exact k α H1 locs1 ls ⟨⟨L, hn, hL, hP1, hD1⟩, ro, eq, ext, hS1, so3, lo, lvo, gr, mn⟩
    · cases h
  · cases h
set_option maxHeartbeats 4000000 in
theorem st_dastore : StepOK p l e R s mi args below meth c Q D D7 B0 E S0 α0 m (.dastore, v, l9) := by
  intro pc α S lv st H locs ls lv2 st2 S2 C I hc hd h hR1 hR2 hF hLo k
  obtain ⟨hx, hb, hml, hown, hts, hK, hret, hlk, hB0, hnm, htr⟩ := C
  obtain ⟨wi, ro, eq, ext, hS, so, lo, lvo, gr, mn⟩ := I
  have hA : ∀ q : Nat, s.heap.size ≤ q → B0 ≤ q := fun q hq => Nat.le_trans hB0 hq
  have hdg : decode (mB m) pc = .ok (.dastore, 1) := of_decide_eq_true hd
  simp only [stp] at h
  split at h
  · rename_i x j t i st3
    split at h
    · rename_i hg
      cases h
      obtain ⟨hk, hin⟩ := hg
      obtain ⟨so2, so3⟩ := List.forall_mem_cons.mp (List.forall_mem_cons.mp (List.forall_mem_cons.mp so).2).2
      obtain ⟨hW, h20, h55⟩ := kd_isW t (by rw [hk]; decide) (by rw [hk]; decide)
      have hi := okr_w hW so2
      obtain ⟨L, hn, hL, hP, hD⟩ := wi
      obtain ⟨kk, hkk, hws⟩ := wOf_at (D7 := D7) (α := α) (S := S) ((hL t i).mpr ⟨hW, hi⟩)
      rw [entE_d (by omega) hk] at hws
      refine va_dast (D := D) (cl := clL) hx hb hK hP hD hS kk 5 hws rfl (vp_of hin) hdg (fun H1 locs1 hP1 hD1 hS1 => ?_)
      rw [wOf_set hn hkk (S2 := wD S t i (ix j) x) (entE_wD (by omega) hk).symm (fun q _ hq => entE_wD_ne hq)] at hP1 hD1
      exact k α H1 locs1 ls ⟨⟨L, hn, hL, hP1, hD1⟩, ro, eq, ext, hS1, so3, lo, lvo, gr, mn⟩
    · cases h
  · cases h
set_option maxHeartbeats 4000000 in
theorem st_aastore : StepOK p l e R s mi args below meth c Q D D7 B0 E S0 α0 m (.aastore, v, l9) := by
  intro pc α S lv st H locs ls lv2 st2 S2 C I hc hd h hR1 hR2 hF hLo k
  obtain ⟨hx, hb, hml, hown, hts, hK, hret, hlk, hB0, hnm, htr⟩ := C
  obtain ⟨wi, ro, eq, ext, hS, so, lo, lvo, gr, mn⟩ := I
  have hA : ∀ q : Nat, s.heap.size ≤ q → B0 ≤ q := fun q hq => Nat.le_trans hB0 hq
  have hdg : decode (mB m) pc = .ok (.aastore, 1) := of_decide_eq_true hd
  simp only [stp] at h
  split at h
  · rename_i i2 j t i st3
    split at h
    · rename_i hg
      cases h
      obtain ⟨hk, hin⟩ := hg
      obtain ⟨so1, so9⟩ := List.forall_mem_cons.mp so
      obtain ⟨so2, so3⟩ := List.forall_mem_cons.mp (List.forall_mem_cons.mp so9).2
      obtain ⟨hW, h20, h55⟩ := kd_isW t (by rw [hk]; decide) (by rw [hk]; decide)
      have hi := okr_w hW so2
      have hi2 := okr_w (t := 1) rfl so1
      obtain ⟨L, hn, hL, hP, hD⟩ := wi
      obtain ⟨kk, hkk, hws⟩ := wOf_at (D7 := D7) (α := α) (S := S) ((hL t i).mpr ⟨hW, hi⟩)
      obtain ⟨k2, hkk2, hws2⟩ := wOf_at (D7 := D7) (α := α) (S := S) ((hL 1 i2).mpr ⟨rfl, hi2⟩)
      rw [entE_q (by omega) hk] at hws
      rw [entE_o (by decide)] at hws2
      refine va_astq (D := D) (cl := clL) (r := ("SighGranary$Data", FT1, 6)) (ci := 1) hx hb hK hP hD hS kk 6 k2 hws rfl hws2 rfl (vp_of hin) hdg (fun H1 locs1 hP1 hD1 hS1 => ?_)
      rw [wOf_set (e := .inl (D7 7, sL S t i, .inr (.inr (.inr (.inr (va_up (fun n => rfo α (sR S t i n)) (ix j) (some (α 1 i2)))))))) hn hkk (S2 := wR S t i (ix j) (vr 1 i2)) (entE_wRq (D7 := D7) (α := α) (S := S) (t := t) (i := i) (j := ix j) (x := vr 1 i2) (by omega) hk).symm (fun q _ hq => entE_wR_ne hq)] at hP1 hD1
      exact k α H1 locs1 ls ⟨⟨L, hn, hL, hP1, hD1⟩, ro.wR so1, eq.wR hW, ext, hS1, so3, lo, lvo, gr, mn⟩
    · cases h
  · cases h
set_option maxHeartbeats 4000000 in
theorem st_arraylength : StepOK p l e R s mi args below meth c Q D D7 B0 E S0 α0 m (.arraylength, v, l9) := by
  intro pc α S lv st H locs ls lv2 st2 S2 C I hc hd h hR1 hR2 hF hLo k
  obtain ⟨hx, hb, hml, hown, hts, hK, hret, hlk, hB0, hnm, htr⟩ := C
  obtain ⟨wi, ro, eq, ext, hS, so, lo, lvo, gr, mn⟩ := I
  have hA : ∀ q : Nat, s.heap.size ≤ q → B0 ≤ q := fun q hq => Nat.le_trans hB0 hq
  have hdg : decode (mB m) pc = .ok (.arraylength, 1) := of_decide_eq_true hd
  simp only [stp] at h
  replace h := pR_some h
  obtain ⟨t, i, st3, rfl, h⟩ := h
  split at h
  · rename_i hg
    cases h
    obtain ⟨so2, so3⟩ := List.forall_mem_cons.mp so
    by_cases h8 : kd t < 8
    · obtain ⟨hW, h20, h55⟩ := kd_isW t hg.1 h8
      have hi := okr_w hW so2
      obtain ⟨L, hn, hL, hP, hD⟩ := wi
      obtain ⟨kk, hkk, hws⟩ := wOf_at (D7 := D7) (α := α) (S := S) ((hL t i).mpr ⟨hW, hi⟩)
      obtain ⟨cA, x, ty, t0, e1, e2, e3⟩ := entE_len (D7 := D7) (α := α) (S := S) (t := t) (i := i) (by omega) hg.1 h8
      rw [e1] at hws
      refine va_alen (D := D) (cl := clL) hx hb hK hP kk t0 hws e2 (by rw [e3]) hdg ?_
      exact k α H locs ls ⟨⟨L, hn, hL, hP, hD⟩, ro, eq, ext, hS, List.forall_mem_cons.mpr ⟨trivial, so3⟩, lo, lvo, gr, mn⟩
    · have hz : t = 55 ∨ t = 56 := kd_89 t h8 hg.2
      rcases hz with rfl | rfl
      · have hi : i = 0 := okr55 so2
        subst hi
        obtain ⟨x1, x2, x3⟩ := ext.1
        refine va_slen hx hb x1 x2 x3 hS hdg ?_
        rw [← (eq.ext (t := 55) rfl).2.2]
        exact k α H locs ls ⟨wi, ro, eq, ext, hS, List.forall_mem_cons.mpr ⟨trivial, so3⟩, lo, lvo, gr, mn⟩
      · have hi : i < 10 := okr56 so2
        refine va_tlen hx hb (ext.2.1 i hi).2.2.2.1 hS rfl hdg ?_
        rw [← (eq.ext (t := 56) rfl).2.2]
        exact k α H locs ls ⟨wi, ro, eq, ext, hS, List.forall_mem_cons.mpr ⟨trivial, so3⟩, lo, lvo, gr, mn⟩
  · cases h
set_option maxHeartbeats 4000000 in
theorem st_invokespecial {n : Nat} (hv : v = 2) : StepOK p l e R s mi args below meth c Q D D7 B0 E S0 α0 m (.invokespecial n, v, l9) := by
  intro pc α S lv st H locs ls lv2 st2 S2 C I hc hd h hR1 hR2 hF hLo k
  obtain ⟨hx, hb, hml, hown, hts, hK, hret, hlk, hB0, hnm, htr⟩ := C
  obtain ⟨wi, ro, eq, ext, hS, so, lo, lvo, gr, mn⟩ := I
  have hA : ∀ q : Nat, s.heap.size ≤ q → B0 ≤ q := fun q hq => Nat.le_trans hB0 hq
  have hdg : decode (mB m) pc = .ok (.invokespecial n, 3) := of_decide_eq_true hd
  simp only [stp] at h
  split at h
  · rename_i hcs
    replace h := pR_some h
    obtain ⟨t, i, st3, rfl, h⟩ := h
    cases h
    simp only [chkI, hv, ↓reduceIte, Bool.and_eq_true] at hc
    obtain ⟨⟨h1, h2⟩, h3⟩ := hc
    have e9 := catS_map (α := α) st2
    refine W.objInit (a := α t i) (rest := st2.map (conc α)) hx hb hown (hts _ (inW_mem h1)) (hts _ (inW_mem h2)) (hts _ (inW_mem h3)) rfl (lo.2.1.1.trans hml.symm) rfl hdg (by omega) ?_ ?_
    · have : catS (vr t i :: st2) = 1 + catS st2 := rfl
      show 2 * 0 + _ + 12 ≤ _
      omega
    · exact k α H locs ls ⟨wi, ro, eq, ext, hS, (List.forall_mem_cons.mp so).2, lo, lvo, gr, mn⟩
  · cases h
end Step
