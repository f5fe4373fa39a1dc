/-! what holds between the calls is kept -/
def RjOk (q : Int32 × Int32 × Int32 × Int32) : Prop := (q.1 = 0 ∨ 0 < q.1) ∧ (q.2.2.2 = -1 ∨ 0 ≤ q.2.2.2)
def CInv (U : Nat) (C : Cst) : Prop := Inv U (cN C) ∧ (∀ D ∈ cH C, Inv U D) ∧ (∀ D, cS C = some D → Inv U D) ∧ RjOk (cR C)
theorem CInv.up {U V : Nat} {C : Cst} (h : CInv U C) (hU : U ≤ V) : CInv V C := ⟨h.1.up hU, fun D hD => (h.2.1 D hD).up hU, fun D hD => (h.2.2.1 D hD).up hU, h.2.2.2⟩
theorem tak_mem {D E : Dt} {hs : List Dt} (h : E ∈ (D :: hs).take 8) : E = D ∨ E ∈ hs := List.mem_cons.mp (List.mem_of_mem_take h)
theorem ci_chg {U : Nat} {C : Cst} (h : CInv U C) (hU : U < 1000000) {k : Nat} (hk : k < 10) {a b c e : Int32} : CInv (U + 1) (chg C k a b c e).2 := by
  have hup := h.up (Nat.le_succ U)
  obtain ⟨h1, h2, h3, h4⟩ := h
  unfold chg
  split
  · rename_i hJ
    exact ⟨inv_do h1 hU hk hJ, fun D hD => (tak_mem hD).elim (fun z => by rw [z]; exact hup.1) (fun z => hup.2.1 D z), hup.2.2.1, h4⟩
  · rename_i hJ
    split
    · exact hup
    · rename_i n1
      split
      · exact hup
      · rename_i n2
        split
        · exact hup
        · rename_i n3
          refine ⟨hup.1, hup.2.1, hup.2.2.1, Or.inr ?_, h4.2⟩
          show 0 < (judgeK (cN C) k a b c e).1
          rcases vd_cases (D := cN C) (k := k) (a := a) (b := b) (c := c) (e := e) hk with z | ⟨v, z, hv⟩ | ⟨v, t, z, hv, -⟩
          · rw [z] at hJ; exact absurd rfl hJ
          · rw [z] at n1 n2 n3
            rcases hv with hv | hv | hv
            · exact absurd hv n1
            · exact absurd hv n2
            · exact absurd hv n3
          · rw [z]
            show 0 < v
            rcases hv with rfl | rfl | rfl | rfl | rfl <;> decide
theorem ci_undo {U : Nat} {C : Cst} (h : CInv U C) : CInv U (undoC C).2 := by
  obtain ⟨h1, h2, h3, h4⟩ := h
  unfold undoC
  cases hH : cH C with
  | nil => exact ⟨h1, by rw [hH] at h2; rw [hH]; exact h2, h3, h4⟩
  | cons D hs =>
    rw [hH] at h2
    exact ⟨h2 D (List.mem_cons_self ..), fun E hE => h2 E (List.mem_cons_of_mem _ hE), h3, h4⟩
theorem ci_save {U : Nat} {C : Cst} (h : CInv U C) : CInv U (saveC C).2 := by
  obtain ⟨h1, h2, h3, h4⟩ := h
  refine ⟨h1, h2, fun D hD => ?_, h4⟩
  have e : some (cN C) = some D := hD
  cases e
  exact h1
theorem ci_rest {U : Nat} {C : Cst} (h : CInv U C) : CInv U (restC C).2 := by
  have h0 := h
  obtain ⟨h1, h2, h3, h4⟩ := h
  unfold restC
  cases hS : cS C with
  | none => exact h0
  | some D => exact ⟨h3 D hS, fun E hE => absurd hE (by show ¬ E ∈ ([] : List Dt); simp), h3, h4⟩
theorem ci_apnd {U : Nat} {C : Cst} (h : CInv U C) {c : Int32} : CInv U (apndC C c).2 := by
  unfold apndC
  split
  · split
    · exact h
    · exact h
  · exact h
theorem ci_setO {U : Nat} {C : Cst} (h : CInv U C) {l : List Int32} : CInv U (setO C l) := h
theorem run_inv : ∀ {cm : List (Nat × List Int32)} {i l U : Nat} {D : Dt}, (∀ q ∈ cm, okC q) → Inv U D → U + cm.length < 1000000 → Inv (U + cm.length) (runC cm i l D).1 ∧ FitR cm D ∧ ((runC cm i l D).2.2 = 0 ∨ (runC cm i l D).2.2 < 0 ∨ 0 < (runC cm i l D).2.2)
  | [], i, l, U, D, _, h, _ => ⟨h, trivial, Or.inl rfl⟩
  | q :: cm, i, l, U, D, hq, h, hU => by
    rw [List.length_cons] at hU ⊢
    have hk := (hq q (List.mem_cons_self ..)).1
    rw [runC_c]
    by_cases hz : (jdg D q).1 = 0
    · have h2 : Inv (U + 1) (dok D q).2 := inv_do h (by omega) hk hz
      obtain ⟨a, b, c⟩ := run_inv (cm := cm) (i := i + 1) (l := i) (fun q hq2 => hq q (List.mem_cons_of_mem _ hq2)) h2 (by omega)
      rw [if_pos hz]
      exact ⟨by rw [show U + (cm.length + 1) = U + 1 + cm.length by omega]; exact a, ⟨h.fit (by omega), fun _ => b⟩, c⟩
    · rw [if_neg hz]
      refine ⟨h.up (by omega), ⟨h.fit (by omega), fun z => absurd z hz⟩, Or.inr ?_⟩
      show (jdg D q).1 < 0 ∨ 0 < (jdg D q).1
      unfold jdg at hz ⊢
      rcases vd_cases (D := D) (k := q.1) (a := arL q.2 0) (b := arL q.2 1) (c := arL q.2 2) (e := arL q.2 3) hk with z | ⟨v, z, hv⟩ | ⟨v, t, z, hv, -⟩
      · rw [z] at hz; exact absurd rfl hz
      · rw [z]; left; rcases hv with rfl | rfl | rfl <;> decide
      · rw [z]; right; show 0 < v; rcases hv with rfl | rfl | rfl | rfl | rfl <;> decide
theorem rdT_q {T : List Int32} : ∀ {n p q : Nat} {cm : List (Nat × List Int32)}, p ≤ T.length → rdT T n p cm = .inr q → q ≤ T.length
  | 0, p, q, cm, hp, e => by cases e; exact hp
  | n + 1, p, q, cm, hp, e => by
    rw [rdT_c] at e
    have hb := rcT_b (T := T) hp (n := 10) (k := 0) (fu := p) rfl hp
    generalize rcT T p 10 0 p = z at hb e
    cases z with
    | inr q2 => cases e; exact hb
    | inl z =>
      obtain ⟨k, as, e2⟩ := z
      obtain ⟨i1, i2, i3, i4, i5⟩ := hb
      dsimp only at e
      by_cases he : e2 = T.length
      · rw [if_pos he] at e; cases e
      · rw [if_neg he] at e
        exact rdT_q (by omega) e
theorem ci_exec {U : Nat} {C : Cst} (h : CInv U C) (hU : U < 900000) (h60 : (cI C).length ≤ 60) : CInv (U + 60) (execC C).2 ∧ ∀ cm, rdT (cI C) 60 0 [] = .inl cm → FitR cm (cN C) := by
  have hup := h.up (Nat.le_add_right U 60)
  obtain ⟨h1, h2, h3, h4⟩ := h
  have hr : ∀ cm, rdT (cI C) 60 0 [] = .inl cm → Inv (U + 60) (runC cm 0 0 (cN C)).1 ∧ FitR cm (cN C) ∧ ((runC cm 0 0 (cN C)).2.2 = 0 ∨ (runC cm 0 0 (cN C)).2.2 < 0 ∨ 0 < (runC cm 0 0 (cN C)).2.2) := fun cm e => by
    obtain ⟨o1, o2⟩ := rdT_ok (T := cI C) (Nat.zero_le _) (fun q hq => by cases hq) e
    have o3 : cm.length ≤ 60 := by simpa using o2
    obtain ⟨a, b, c⟩ := run_inv (i := 0) (l := 0) o1 h1 (by omega)
    exact ⟨a.up (by omega), b, c⟩
  refine ⟨?_, fun cm e => (hr cm e).2.1⟩
  unfold execC
  cases e : rdT (cI C) 60 0 [] with
  | inr q =>
    have hq := rdT_q (Nat.zero_le _) e
    exact ⟨hup.1, hup.2.1, hup.2.2.1, h4.1, Or.inr (ik_nn (by omega))⟩
  | inl cm =>
    obtain ⟨a, b, c⟩ := hr cm e
    dsimp only
    split
    · exact ⟨a, fun D hD => (tak_mem hD).elim (fun z => by rw [z]; exact hup.1) (fun z => hup.2.1 D z), hup.2.2.1, h4⟩
    · split
      · exact hup
      · exact ⟨hup.1, hup.2.1, hup.2.2.1, Or.inr (show (0 : Int32) < 6 by decide), h4.2⟩
