/-! changes -/
theorem chg_l {C : Cst} {k : Nat} {a b c e x : Int32} (h : (chg C k a b c e).1 = .inl x) : (judgeK (cN C) k a b c e).1 = 0 ∧ x = (doK (cN C) k a b c e).1 := by
  unfold chg at h
  split at h
  · rename_i hJ
    cases h
    exact ⟨hJ, rfl⟩
  · split at h
    · cases h
    · split at h
      · cases h
      · split at h <;> cases h
theorem chg_r {C : Cst} {k : Nat} {a b c e : Int32} {E : Nat} (h : (chg C k a b c e).1 = .inr E) : (judgeK (cN C) k a b c e).1 ≠ 0 ∧ (E = 0 ∧ (judgeK (cN C) k a b c e).1 = -1 ∨ E = 1 ∧ (judgeK (cN C) k a b c e).1 = -2 ∨ E = 2 ∧ (judgeK (cN C) k a b c e).1 = -3 ∨ E = 5 ∧ (judgeK (cN C) k a b c e).1 ≠ -1 ∧ (judgeK (cN C) k a b c e).1 ≠ -2 ∧ (judgeK (cN C) k a b c e).1 ≠ -3) := by
  unfold chg at h
  split at h
  · cases h
  · rename_i h0
    refine ⟨h0, ?_⟩
    split at h
    · rename_i h1; cases h; exact Or.inl ⟨rfl, h1⟩
    · rename_i h1
      split at h
      · rename_i h2; cases h; exact Or.inr (Or.inl ⟨rfl, h2⟩)
      · rename_i h2
        split at h
        · rename_i h3; cases h; exact Or.inr (Or.inr (Or.inl ⟨rfl, h3⟩))
        · rename_i h3; cases h; exact Or.inr (Or.inr (Or.inr ⟨rfl, h1, h2, h3⟩))
theorem ld_m {d m j L n : Nat} {xs : Nat → Int32} {C : Cst} {f : SF} {r : SR} {Q : Ot → St → Prop} {is : List AI} {lv st : List AV} (h : Mid L xs n C f r) (hj : j < L) (hL : L ≤ 2560) : Ex d m ((.iaload, 0, []) :: is) lv (vi (ik j) :: vr 55 0 :: st) (f, r) Q ↔ Ex d m is lv (vi (xs j) :: st) (f, r) Q := by
  have hl : sL (f, r) 55 0 = L := h.2.2.2.2.2.1
  have hx : f 55 0 j = xs j := h.2.2.2.2.2.2.1 j
  have hi : inb (ik j) L := (inb_ik (by omega)).mpr hj
  have hxj : ix (ik j) = j := ix_ik (by omega)
  have := ex_sald (mc := MC) (ml := ML) (hd := HD) (d := d) (m := m) (is := is) (lv := lv) (st := st) (s := (f, r)) (Q := Q) (v := 0) (l := []) (t := 55) (i := 0) (j := ik j) (by decide) (by rw [hl]; exact hi)
  rw [hxj, show sI (f, r) 55 0 j = xs j from hx] at this
  exact this
