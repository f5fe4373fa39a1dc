/-! changes of the data -/
def updn (a : Nat → Int32) (j : Nat) (v : Int32) : Nat → Int32 := fun k => if k = j then v else a k
def imax (a b : Int32) : Int32 := if a < b then b else a
abbrev setW (x : Sk) (w : Int32) : Sk := (x.1, w, x.2.2)
abbrev setG (x : Sk) (g : Int32) : Sk := (x.1, x.2.1, x.2.2.1, g, x.2.2.2.2)
abbrev setB (x : Sk) (b : Int32) : Sk := (x.1, x.2.1, x.2.2.1, x.2.2.2.1, x.2.2.2.2.1, b)
section Writes
variable {f : SF} {i : Nat}
theorem LayD.fr1 {P : Nat → Bool} {f' : SF} {D : Dt} (h : LayD f i D) (hf : Fr P i f f') (hp : ∀ t, (t = 1 ∨ t = 2 ∨ t = 3 ∨ t = 4 ∨ 20 ≤ t ∧ t ≤ 30) → P t = false) : LayD f' i D := by
  obtain ⟨h1, h2, h3, h4, h5, h6⟩ := h
  refine ⟨h1.fr hf (Or.inr ⟨hp _ (by omega), hp _ (by omega), hp _ (by omega), hp _ (by omega), hp _ (by omega)⟩), h2.fr hf (Or.inr ⟨hp _ (by omega), hp _ (by omega), hp _ (by omega), hp _ (by omega), hp _ (by omega), hp _ (by omega), hp _ (by omega)⟩), fun k hk => ?_, fun k hk => ?_, ?_, ?_⟩
  · rw [hf 4 i k (Or.inl (hp _ (by omega)))]; exact h3 k hk
  · rw [hf 30 i k (Or.inl (hp _ (by omega)))]; exact h4 k hk
  · rw [hf 1 i 4 (Or.inl (hp _ (by omega)))]; exact h5
  · rw [hf 3 i 7 (Or.inl (hp _ (by omega)))]; exact h6
theorem LayD.bins {f' : SF} {bs bs' : List Bn} {D : List Sk × (Nat → Int32) × (Nat → Int32) × Int32 × Int32} (h : LayD f i (bs, D)) (hb : LayB f' i bs') (hf : Fr tgB i f f') : LayD f' i (bs', D) := by
  obtain ⟨h1, h2, h3, h4, h5, h6⟩ := h
  exact ⟨hb, h2.fr hf (Or.inr (by decide)), fun k hk => (hf 4 i k (Or.inl rfl)).trans (h3 k hk), fun k hk => (hf 30 i k (Or.inl rfl)).trans (h4 k hk), (hf 1 i 4 (Or.inl rfl)).trans h5, (hf 3 i 7 (Or.inl rfl)).trans h6⟩
theorem LayD.sacks {f' : SF} {bs : List Bn} {xs xs' : List Sk} {ac pr : Nat → Int32} {mo nx nx' : Int32} (h : LayD f i (bs, xs, ac, pr, mo, nx)) (hb : LayS f' i xs') (hn : f' 3 i 7 = nx') (hf : Fr tgS i f f') : LayD f' i (bs, xs', ac, pr, mo, nx') := by
  obtain ⟨h1, h2, h3, h4, h5, h6⟩ := h
  exact ⟨h1.fr hf (Or.inr (by decide)), hb, fun k hk => (hf 4 i k (Or.inl rfl)).trans (h3 k hk), fun k hk => (hf 30 i k (Or.inl rfl)).trans (h4 k hk), (hf 1 i 4 (Or.inl rfl)).trans h5, hn⟩
theorem LayD.acc {bs : List Bn} {xs : List Sk} {ac pr : Nat → Int32} {mo nx v : Int32} {j : Nat} (h : LayD f i (bs, xs, ac, pr, mo, nx)) : LayD (up3 f 4 i j v) i (bs, xs, updn ac j v, pr, mo, nx) := by
  obtain ⟨h1, h2, h3, h4, h5, h6⟩ := h
  have hf : Fr tgA i f (up3 f 4 i j v) := Fr.up rfl
  refine ⟨h1.fr hf (Or.inr (by decide)), h2.fr hf (Or.inr (by decide)), fun k hk => ?_, fun k hk => (hf 30 i k (Or.inl rfl)).trans (h4 k hk), (hf 1 i 4 (Or.inl rfl)).trans h5, (hf 3 i 7 (Or.inl rfl)).trans h6⟩
  show up3 f 4 i j v 4 i k = updn ac j v k
  unfold up3 updn
  by_cases hkj : k = j
  · simp [hkj]
  · simp [hkj]
    exact h3 k hk
theorem LayD.price {bs : List Bn} {xs : List Sk} {ac pr : Nat → Int32} {mo nx v : Int32} {j : Nat} (h : LayD f i (bs, xs, ac, pr, mo, nx)) : LayD (up3 f 30 i j v) i (bs, xs, ac, updn pr j v, mo, nx) := by
  obtain ⟨h1, h2, h3, h4, h5, h6⟩ := h
  have hf : Fr (fun t => decide (t = 30)) i f (up3 f 30 i j v) := Fr.up rfl
  refine ⟨h1.fr hf (Or.inr (by decide)), h2.fr hf (Or.inr (by decide)), fun k hk => (hf 4 i k (Or.inl rfl)).trans (h3 k hk), fun k hk => ?_, (hf 1 i 4 (Or.inl rfl)).trans h5, (hf 3 i 7 (Or.inl rfl)).trans h6⟩
  show up3 f 30 i j v 30 i k = updn pr j v k
  unfold up3 updn
  by_cases hkj : k = j
  · simp [hkj]
  · simp [hkj]
    exact h4 k hk
theorem LayD.month {bs : List Bn} {xs : List Sk} {ac pr : Nat → Int32} {mo nx v : Int32} (h : LayD f i (bs, xs, ac, pr, mo, nx)) : LayD (up3 f 1 i 4 v) i (bs, xs, ac, pr, v, nx) := by
  obtain ⟨h1, h2, h3, h4, h5, h6⟩ := h
  have hf : Fr (fun t => decide (t = 1)) i f (up3 f 1 i 4 v) := Fr.up rfl
  refine ⟨h1.fr hf (Or.inr (by decide)), h2.fr hf (Or.inr (by decide)), fun k hk => (hf 4 i k (Or.inl rfl)).trans (h3 k hk), fun k hk => (hf 30 i k (Or.inl rfl)).trans (h4 k hk), ?_, (hf 3 i 7 (Or.inl rfl)).trans h6⟩
  simp [up3]
/-- one slot's sack is another -/
theorem LayS.one {f' : SF} {pre post : List Sk} {x y : Sk} (h : LayS f i (pre ++ x :: post)) (h1 : AtS f' i pre.length y) (h2 : ∀ t k, 24 ≤ t → t ≤ 29 → k ≠ pre.length → f' t i k = f t i k) (h3 : f' 3 i 6 = f 3 i 6) : LayS f' i (pre ++ y :: post) := by
  obtain ⟨g1, g2, g3⟩ := h
  refine ⟨by rw [h3, g1]; simp, by simpa using g2, fun k z hz => ?_⟩
  by_cases hk : k = pre.length
  · subst hk
    have : y = z := by simpa using hz
    subst this
    exact h1
  · have hz2 : (pre ++ x :: post)[k]? = some z := by
      rw [← hz]
      by_cases hlt : k < pre.length
      · rw [List.getElem?_append_left hlt, List.getElem?_append_left hlt]
      · rw [List.getElem?_append_right (by omega), List.getElem?_append_right (by omega)]
        obtain ⟨m, hm⟩ : ∃ m, k - pre.length = m + 1 := ⟨k - pre.length - 1, by omega⟩
        rw [hm]
        rfl
    have := g3 k z hz2
    simp only [AtS] at this ⊢
    rw [h2 24 k (by omega) (by omega) hk, h2 25 k (by omega) (by omega) hk, h2 26 k (by omega) (by omega) hk, h2 27 k (by omega) (by omega) hk, h2 28 k (by omega) (by omega) hk, h2 29 k (by omega) (by omega) hk]
    exact this
theorem LayD.w25 {bs : List Bn} {pre post : List Sk} {x : Sk} {ac pr : Nat → Int32} {mo nx w : Int32} (h : LayD f i (bs, pre ++ x :: post, ac, pr, mo, nx)) : LayD (up3 f 25 i pre.length w) i (bs, pre ++ setW x w :: post, ac, pr, mo, nx) := by
  have hx := h.2.1.mid.1
  refine h.sacks (h.2.1.one (y := setW x w) ?_ ?_ ?_) ?_ (Fr.up rfl)
  · simp only [AtS] at hx
    simp only [AtS, up3]
    simp [hx]
  · intro t k _ _ hk
    simp [up3, hk]
  · simp [up3]
  · simp [up3]
    exact h.2.2.2.2.2
theorem LayD.w27 {bs : List Bn} {pre post : List Sk} {x : Sk} {ac pr : Nat → Int32} {mo nx w : Int32} (h : LayD f i (bs, pre ++ x :: post, ac, pr, mo, nx)) : LayD (up3 f 27 i pre.length w) i (bs, pre ++ setG x w :: post, ac, pr, mo, nx) := by
  have hx := h.2.1.mid.1
  refine h.sacks (h.2.1.one (y := setG x w) ?_ ?_ ?_) ?_ (Fr.up rfl)
  · simp only [AtS] at hx
    simp only [AtS, up3]
    simp [hx]
  · intro t k _ _ hk
    simp [up3, hk]
  · simp [up3]
  · simp [up3]
    exact h.2.2.2.2.2
theorem LayD.w29 {bs : List Bn} {pre post : List Sk} {x : Sk} {ac pr : Nat → Int32} {mo nx w : Int32} (h : LayD f i (bs, pre ++ x :: post, ac, pr, mo, nx)) : LayD (up3 f 29 i pre.length w) i (bs, pre ++ setB x w :: post, ac, pr, mo, nx) := by
  have hx := h.2.1.mid.1
  refine h.sacks (h.2.1.one (y := setB x w) ?_ ?_ ?_) ?_ (Fr.up rfl)
  · simp only [AtS] at hx
    simp only [AtS, up3]
    simp [hx]
  · intro t k _ _ hk
    simp [up3, hk]
  · simp [up3]
  · simp [up3]
    exact h.2.2.2.2.2
/-- a bin's value of the tag t (20 capacity, 21 method, 22 mice, 23 traps) -/
def setBn (t : Nat) (b : Bn) (v : Int32) : Bn := if t = 20 then (v, b.2) else if t = 21 then (b.1, v, b.2.2) else if t = 22 then (b.1, b.2.1, v, b.2.2.2) else (b.1, b.2.1, b.2.2.1, v)
theorem LayD.wB {bs : List Bn} {D : List Sk × (Nat → Int32) × (Nat → Int32) × Int32 × Int32} {t k : Nat} {b : Bn} {v : Int32} (h : LayD f i (bs, D)) (ht : t = 20 ∨ t = 21 ∨ t = 22 ∨ t = 23) (hb : bs[k]? = some b) : LayD (up3 f t i k v) i (bs.set k (setBn t b v), D) := by
  obtain ⟨g1, g2, g3⟩ := h.1
  have hP : tgB t = true := by rcases ht with rfl | rfl | rfl | rfl <;> rfl
  refine h.bins ⟨?_, by rw [List.length_set]; exact g2, fun n z hz => ?_⟩ (Fr.up hP)
  · rw [List.length_set, ← g1]
    unfold up3
    rw [if_neg (by rintro ⟨h9, -⟩; omega)]
  · have hlt := (List.getElem?_eq_some_iff.mp hb).1
    rw [List.getElem?_set] at hz
    by_cases hn : k = n
    · subst hn
      rw [if_pos rfl, if_pos hlt] at hz
      cases hz
      have := g3 k b hb
      simp only [AtB] at this ⊢
      rcases ht with rfl | rfl | rfl | rfl <;> simp [up3, setBn, this]
    · rw [if_neg hn] at hz
      have := g3 n z hz
      simp only [AtB] at this ⊢
      have hn2 : ¬ n = k := fun z => hn z.symm
      simp [up3, hn2]
      exact this
end Writes
section Ops
variable {d i : Nat} {f : SF} {r : SR} {s : St} {Q : Ot → St → Prop}
theorem min_ok {a b : Int32} : Cl (d + 1) 27 [vi a, vi b] s Q ↔ Q (.inl (some (vi (imin a b)))) s := by
  rw [en27]
  simp only [B27_0, ex_iconst, ex_bipush, ex_sipush, ex_ldc, ex_ldcs, ex_fconst, ex_dconst, ex_iload_n, ex_iload, ex_aload_n, ex_aload, ex_dload_n, ex_dload, ex_fload, ex_istore_n, ex_istore, ex_fstore, ex_dstore_n, ex_dstore, ex_astore_n, ex_astore, ex_iinc, ex_ginc, ex_pop_i, ex_pop_r, ex_dup_i, ex_dup_r, ex_dup_x1, ex_dup2, ex_iadd, ex_isub, ex_imul, ex_iand, ex_ior, ex_ixor, ex_ishl, ex_ishr, ex_idiv, ex_irem, ex_ineg, ex_i2l, ex_i2c, ex_i2b, ex_i2f, ex_i2d, ex_f2d, ex_fdiv, ex_ddiv, ex_lcmp, ex_dcmp, ex_getI, ex_getR, ex_putI, ex_putB, ex_putZ, ex_putR, ex_getsI, ex_getsR, ex_iald, ex_cald, ex_iast, ex_cast, ex_aast, ex_alen, ex_copy1, ex_copy2, ex_throw, ex_goto, ex_fall, ex_if_eq, ex_ic_eq, ex_if_ne, ex_ic_ne, ex_if_lt, ex_ic_lt, ex_if_ge, ex_ic_ge, ex_if_gt, ex_ic_gt, ex_if_le, ex_ic_le, ex_switch, ex_ireturn, ex_ireturn_z, ex_ireturn_b, ex_ireturn_c, ex_areturn, ex_freturn, ex_dreturn, ex_return, ex_is0, ex_is1, ex_is2, ex_is3, ex_is4, ex_is5, ex_is6, ex_is7, ex_iv1, ex_iv2, ex_iv3, ex_iv4, ex_iv5, ex_iv6, ex_iv7, ex_ip1, ex_ip2, ex_ip3, ex_ip4, ex_ip5, ex_ip6, ex_ip7, ex_iu1, ex_iu2, ex_iu3, ex_iu4, ex_iu5, ex_iu6, ex_iu7, List.getD_cons_zero, List.getD_cons_succ, List.set_cons_zero, List.set_cons_succ, isI_i, isA_r, isD_d, isF_f, GInc, ko_v, ko_n, cat_i2, cat_r2, cat_n2, cat_f2, cat_d2, cat_l2, Nat.zero_le, Nat.zero_add, Nat.le_refl, Nat.reduceAdd, Nat.reduceLeDiff, ne_eq, not_false_eq_true, Nat.reduceEqDiff, sI_mk, wI_mk, wCp_mk, Option.toList, List.nil_append, List.cons_append, kd_20, kd_21, kd_22, kd_23, kd_24, kd_25, kd_26, kd_27, kd_28, kd_29, kd_30, kd_31, kd_32, kd_33, kd_34, kd_35, kd_36, kd_37, kd_38, kd_39, kd_40, kd_41, kd_42, kd_43, kd_44, kd_45, kd_46, kd_47, kd_48, kd_49, kd_50, kd_51, kd_52, kd_53, kd_54, jb27_1, B27_1, jb27_2, B27_2]
  unfold imin
  by_cases h : b < a
  · simp [h, fun z => (le_lt_i (a := a) (b := b)).mpr h z]
  · simp [h, lt_le_i.mp h]
theorem max_ok {a b : Int32} : Cl (d + 1) 28 [vi a, vi b] s Q ↔ Q (.inl (some (vi (imax a b)))) s := by
  rw [en28]
  simp only [B28_0, ex_iconst, ex_bipush, ex_sipush, ex_ldc, ex_ldcs, ex_fconst, ex_dconst, ex_iload_n, ex_iload, ex_aload_n, ex_aload, ex_dload_n, ex_dload, ex_fload, ex_istore_n, ex_istore, ex_fstore, ex_dstore_n, ex_dstore, ex_astore_n, ex_astore, ex_iinc, ex_ginc, ex_pop_i, ex_pop_r, ex_dup_i, ex_dup_r, ex_dup_x1, ex_dup2, ex_iadd, ex_isub, ex_imul, ex_iand, ex_ior, ex_ixor, ex_ishl, ex_ishr, ex_idiv, ex_irem, ex_ineg, ex_i2l, ex_i2c, ex_i2b, ex_i2f, ex_i2d, ex_f2d, ex_fdiv, ex_ddiv, ex_lcmp, ex_dcmp, ex_getI, ex_getR, ex_putI, ex_putB, ex_putZ, ex_putR, ex_getsI, ex_getsR, ex_iald, ex_cald, ex_iast, ex_cast, ex_aast, ex_alen, ex_copy1, ex_copy2, ex_throw, ex_goto, ex_fall, ex_if_eq, ex_ic_eq, ex_if_ne, ex_ic_ne, ex_if_lt, ex_ic_lt, ex_if_ge, ex_ic_ge, ex_if_gt, ex_ic_gt, ex_if_le, ex_ic_le, ex_switch, ex_ireturn, ex_ireturn_z, ex_ireturn_b, ex_ireturn_c, ex_areturn, ex_freturn, ex_dreturn, ex_return, ex_is0, ex_is1, ex_is2, ex_is3, ex_is4, ex_is5, ex_is6, ex_is7, ex_iv1, ex_iv2, ex_iv3, ex_iv4, ex_iv5, ex_iv6, ex_iv7, ex_ip1, ex_ip2, ex_ip3, ex_ip4, ex_ip5, ex_ip6, ex_ip7, ex_iu1, ex_iu2, ex_iu3, ex_iu4, ex_iu5, ex_iu6, ex_iu7, List.getD_cons_zero, List.getD_cons_succ, List.set_cons_zero, List.set_cons_succ, isI_i, isA_r, isD_d, isF_f, GInc, ko_v, ko_n, cat_i2, cat_r2, cat_n2, cat_f2, cat_d2, cat_l2, Nat.zero_le, Nat.zero_add, Nat.le_refl, Nat.reduceAdd, Nat.reduceLeDiff, ne_eq, not_false_eq_true, Nat.reduceEqDiff, sI_mk, wI_mk, wCp_mk, Option.toList, List.nil_append, List.cons_append, kd_20, kd_21, kd_22, kd_23, kd_24, kd_25, kd_26, kd_27, kd_28, kd_29, kd_30, kd_31, kd_32, kd_33, kd_34, kd_35, kd_36, kd_37, kd_38, kd_39, kd_40, kd_41, kd_42, kd_43, kd_44, kd_45, kd_46, kd_47, kd_48, kd_49, kd_50, kd_51, kd_52, kd_53, kd_54, jb28_1, B28_1, jb28_2, B28_2]
  unfold imax
  by_cases h : a < b <;> simp [h]
def iabs (a : Int32) : Int32 := if 0 ≤ a then a else -a
theorem abs_ok {a : Int32} : Cl (d + 1) 29 [vi a] s Q ↔ Q (.inl (some (vi (iabs a)))) s := by
  rw [en29]
  simp only [B29_0, ex_iconst, ex_bipush, ex_sipush, ex_ldc, ex_ldcs, ex_fconst, ex_dconst, ex_iload_n, ex_iload, ex_aload_n, ex_aload, ex_dload_n, ex_dload, ex_fload, ex_istore_n, ex_istore, ex_fstore, ex_dstore_n, ex_dstore, ex_astore_n, ex_astore, ex_iinc, ex_ginc, ex_pop_i, ex_pop_r, ex_dup_i, ex_dup_r, ex_dup_x1, ex_dup2, ex_iadd, ex_isub, ex_imul, ex_iand, ex_ior, ex_ixor, ex_ishl, ex_ishr, ex_idiv, ex_irem, ex_ineg, ex_i2l, ex_i2c, ex_i2b, ex_i2f, ex_i2d, ex_f2d, ex_fdiv, ex_ddiv, ex_lcmp, ex_dcmp, ex_getI, ex_getR, ex_putI, ex_putB, ex_putZ, ex_putR, ex_getsI, ex_getsR, ex_iald, ex_cald, ex_iast, ex_cast, ex_aast, ex_alen, ex_copy1, ex_copy2, ex_throw, ex_goto, ex_fall, ex_if_eq, ex_ic_eq, ex_if_ne, ex_ic_ne, ex_if_lt, ex_ic_lt, ex_if_ge, ex_ic_ge, ex_if_gt, ex_ic_gt, ex_if_le, ex_ic_le, ex_switch, ex_ireturn, ex_ireturn_z, ex_ireturn_b, ex_ireturn_c, ex_areturn, ex_freturn, ex_dreturn, ex_return, ex_is0, ex_is1, ex_is2, ex_is3, ex_is4, ex_is5, ex_is6, ex_is7, ex_iv1, ex_iv2, ex_iv3, ex_iv4, ex_iv5, ex_iv6, ex_iv7, ex_ip1, ex_ip2, ex_ip3, ex_ip4, ex_ip5, ex_ip6, ex_ip7, ex_iu1, ex_iu2, ex_iu3, ex_iu4, ex_iu5, ex_iu6, ex_iu7, List.getD_cons_zero, List.getD_cons_succ, List.set_cons_zero, List.set_cons_succ, isI_i, isA_r, isD_d, isF_f, GInc, ko_v, ko_n, cat_i2, cat_r2, cat_n2, cat_f2, cat_d2, cat_l2, Nat.zero_le, Nat.zero_add, Nat.le_refl, Nat.reduceAdd, Nat.reduceLeDiff, ne_eq, not_false_eq_true, Nat.reduceEqDiff, sI_mk, wI_mk, wCp_mk, Option.toList, List.nil_append, List.cons_append, kd_20, kd_21, kd_22, kd_23, kd_24, kd_25, kd_26, kd_27, kd_28, kd_29, kd_30, kd_31, kd_32, kd_33, kd_34, kd_35, kd_36, kd_37, kd_38, kd_39, kd_40, kd_41, kd_42, kd_43, kd_44, kd_45, kd_46, kd_47, kd_48, kd_49, kd_50, kd_51, kd_52, kd_53, kd_54, jb29_1, B29_1, jb29_2, B29_2]
  unfold iabs
  by_cases h : 0 ≤ a <;> simp [h]
/-- the mice that the traps leave; the mice behind a meal -/
def leftBy (t m : Int32) : Int32 := m - imin t m
def afterM (h e : Int32) : Int32 := if e < h then e else imin (h + (h + 1) / 2) 20
theorem left_ok {t m : Int32} : Cl (d + 2) 31 [vi t, vi m] s Q ↔ Q (.inl (some (vi (leftBy t m)))) s := by
  rw [en31]
  simp only [B31_0, ex_iconst, ex_bipush, ex_sipush, ex_ldc, ex_ldcs, ex_fconst, ex_dconst, ex_iload_n, ex_iload, ex_aload_n, ex_aload, ex_dload_n, ex_dload, ex_fload, ex_istore_n, ex_istore, ex_fstore, ex_dstore_n, ex_dstore, ex_astore_n, ex_astore, ex_iinc, ex_ginc, ex_pop_i, ex_pop_r, ex_dup_i, ex_dup_r, ex_dup_x1, ex_dup2, ex_iadd, ex_isub, ex_imul, ex_iand, ex_ior, ex_ixor, ex_ishl, ex_ishr, ex_idiv, ex_irem, ex_ineg, ex_i2l, ex_i2c, ex_i2b, ex_i2f, ex_i2d, ex_f2d, ex_fdiv, ex_ddiv, ex_lcmp, ex_dcmp, ex_getI, ex_getR, ex_putI, ex_putB, ex_putZ, ex_putR, ex_getsI, ex_getsR, ex_iald, ex_cald, ex_iast, ex_cast, ex_aast, ex_alen, ex_copy1, ex_copy2, ex_throw, ex_goto, ex_fall, ex_if_eq, ex_ic_eq, ex_if_ne, ex_ic_ne, ex_if_lt, ex_ic_lt, ex_if_ge, ex_ic_ge, ex_if_gt, ex_ic_gt, ex_if_le, ex_ic_le, ex_switch, ex_ireturn, ex_ireturn_z, ex_ireturn_b, ex_ireturn_c, ex_areturn, ex_freturn, ex_dreturn, ex_return, ex_is0, ex_is1, ex_is2, ex_is3, ex_is4, ex_is5, ex_is6, ex_is7, ex_iv1, ex_iv2, ex_iv3, ex_iv4, ex_iv5, ex_iv6, ex_iv7, ex_ip1, ex_ip2, ex_ip3, ex_ip4, ex_ip5, ex_ip6, ex_ip7, ex_iu1, ex_iu2, ex_iu3, ex_iu4, ex_iu5, ex_iu6, ex_iu7, List.getD_cons_zero, List.getD_cons_succ, List.set_cons_zero, List.set_cons_succ, isI_i, isA_r, isD_d, isF_f, GInc, ko_v, ko_n, cat_i2, cat_r2, cat_n2, cat_f2, cat_d2, cat_l2, Nat.zero_le, Nat.zero_add, Nat.le_refl, Nat.reduceAdd, Nat.reduceLeDiff, ne_eq, not_false_eq_true, Nat.reduceEqDiff, sI_mk, wI_mk, wCp_mk, Option.toList, List.nil_append, List.cons_append, kd_20, kd_21, kd_22, kd_23, kd_24, kd_25, kd_26, kd_27, kd_28, kd_29, kd_30, kd_31, kd_32, kd_33, kd_34, kd_35, kd_36, kd_37, kd_38, kd_39, kd_40, kd_41, kd_42, kd_43, kd_44, kd_45, kd_46, kd_47, kd_48, kd_49, kd_50, kd_51, kd_52, kd_53, kd_54, min_ok]
  rfl
theorem meal_ok {h e : Int32} : Cl (d + 2) 32 [vi h, vi e] s Q ↔ Q (.inl (some (vi (afterM h e)))) s := by
  rw [en32]
  simp only [B32_0, ex_iconst, ex_bipush, ex_sipush, ex_ldc, ex_ldcs, ex_fconst, ex_dconst, ex_iload_n, ex_iload, ex_aload_n, ex_aload, ex_dload_n, ex_dload, ex_fload, ex_istore_n, ex_istore, ex_fstore, ex_dstore_n, ex_dstore, ex_astore_n, ex_astore, ex_iinc, ex_ginc, ex_pop_i, ex_pop_r, ex_dup_i, ex_dup_r, ex_dup_x1, ex_dup2, ex_iadd, ex_isub, ex_imul, ex_iand, ex_ior, ex_ixor, ex_ishl, ex_ishr, ex_idiv, ex_irem, ex_ineg, ex_i2l, ex_i2c, ex_i2b, ex_i2f, ex_i2d, ex_f2d, ex_fdiv, ex_ddiv, ex_lcmp, ex_dcmp, ex_getI, ex_getR, ex_putI, ex_putB, ex_putZ, ex_putR, ex_getsI, ex_getsR, ex_iald, ex_cald, ex_iast, ex_cast, ex_aast, ex_alen, ex_copy1, ex_copy2, ex_throw, ex_goto, ex_fall, ex_if_eq, ex_ic_eq, ex_if_ne, ex_ic_ne, ex_if_lt, ex_ic_lt, ex_if_ge, ex_ic_ge, ex_if_gt, ex_ic_gt, ex_if_le, ex_ic_le, ex_switch, ex_ireturn, ex_ireturn_z, ex_ireturn_b, ex_ireturn_c, ex_areturn, ex_freturn, ex_dreturn, ex_return, ex_is0, ex_is1, ex_is2, ex_is3, ex_is4, ex_is5, ex_is6, ex_is7, ex_iv1, ex_iv2, ex_iv3, ex_iv4, ex_iv5, ex_iv6, ex_iv7, ex_ip1, ex_ip2, ex_ip3, ex_ip4, ex_ip5, ex_ip6, ex_ip7, ex_iu1, ex_iu2, ex_iu3, ex_iu4, ex_iu5, ex_iu6, ex_iu7, List.getD_cons_zero, List.getD_cons_succ, List.set_cons_zero, List.set_cons_succ, isI_i, isA_r, isD_d, isF_f, GInc, ko_v, ko_n, cat_i2, cat_r2, cat_n2, cat_f2, cat_d2, cat_l2, Nat.zero_le, Nat.zero_add, Nat.le_refl, Nat.reduceAdd, Nat.reduceLeDiff, ne_eq, not_false_eq_true, Nat.reduceEqDiff, sI_mk, wI_mk, wCp_mk, Option.toList, List.nil_append, List.cons_append, kd_20, kd_21, kd_22, kd_23, kd_24, kd_25, kd_26, kd_27, kd_28, kd_29, kd_30, kd_31, kd_32, kd_33, kd_34, kd_35, kd_36, kd_37, kd_38, kd_39, kd_40, kd_41, kd_42, kd_43, kd_44, kd_45, kd_46, kd_47, kd_48, kd_49, kd_50, kd_51, kd_52, kd_53, kd_54, jb32_1, B32_1, ne2, ne8, ne10, ne12, min_ok]
  unfold afterM
  by_cases hh : e < h
  · simp [hh, fun z => (le_lt_i (a := h) (b := e)).mpr hh z]
  · simp [hh, lt_le_i.mp hh]
/-- what is eaten of the sacks of a bin, first the oldest: the sacks left, what was paid for it on top of c -/
def eatL (b : Int32) : List Sk → Int32 → Int32 → List Sk × Int32
  | [], _, c => ([], c)
  | x :: xs, l, c => if kB x = b then (setW x (kW x - imin l (kW x)) :: (eatL b xs (l - imin l (kW x)) (c + imin l (kW x) * kP x)).1, (eatL b xs (l - imin l (kW x)) (c + imin l (kW x) * kP x)).2) else (x :: (eatL b xs l c).1, (eatL b xs l c).2)
theorem eatL_c {b l c : Int32} {x : Sk} {xs : List Sk} : eatL b (x :: xs) l c = if kB x = b then (setW x (kW x - imin l (kW x)) :: (eatL b xs (l - imin l (kW x)) (c + imin l (kW x) * kP x)).1, (eatL b xs (l - imin l (kW x)) (c + imin l (kW x) * kP x)).2) else (x :: (eatL b xs l c).1, (eatL b xs l c).2) := rfl
theorem updn_upd {a : Nat → Int32} {j : Nat} {v w : Int32} : updn (updn a j v) j w = updn a j w := by
  funext k
  unfold updn
  split <;> rfl
theorem updn_self {a : Nat → Int32} {j : Nat} : updn a j (a j) = a := by
  funext k
  unfold updn
  split
  · rename_i h; rw [h]
  · rfl
theorem eat_lp (hD : StD r i) {b kg : Int32} {bs : List Bn} {pr : Nat → Int32} {mo nx : Int32} : ∀ (post pre : List Sk) (f : SF) (ac : Nat → Int32) (l : Int32) (u : AV), LayD f i (bs, pre ++ post, ac, pr, mo, nx) →
    (∀ f' l' n' u', LayD f' i (bs, pre ++ (eatL b post l (ac 7)).1, updn ac 7 (eatL b post l (ac 7)).2, pr, mo, nx) → Fr tgD i f f' → Jx (d + 1) 64 3 [vr 1 i, vi b, vi kg, vi l', vi n', u'] [] (f', r) Q) →
    Jx (d + 1) 64 1 [vr 1 i, vi b, vi kg, vi l, vi (ik pre.length), u] [] (f, r) Q := by
  intro post
  induction post with
  | nil =>
    intro pre f ac l u h hq
    have e1 := h.2.1.1
    simp only [List.append_nil] at e1
    have hc := le_self_i (a := ik pre.length)
    rw [jb64_1]
    simp only [B64_1, ex_iconst, ex_bipush, ex_sipush, ex_ldc, ex_ldcs, ex_fconst, ex_dconst, ex_iload_n, ex_iload, ex_aload_n, ex_aload, ex_dload_n, ex_dload, ex_fload, ex_istore_n, ex_istore, ex_fstore, ex_dstore_n, ex_dstore, ex_astore_n, ex_astore, ex_iinc, ex_ginc, ex_pop_i, ex_pop_r, ex_dup_i, ex_dup_r, ex_dup_x1, ex_dup2, ex_iadd, ex_isub, ex_imul, ex_iand, ex_ior, ex_ixor, ex_ishl, ex_ishr, ex_idiv, ex_irem, ex_ineg, ex_i2l, ex_i2c, ex_i2b, ex_i2f, ex_i2d, ex_f2d, ex_fdiv, ex_ddiv, ex_lcmp, ex_dcmp, ex_getI, ex_getR, ex_putI, ex_putB, ex_putZ, ex_putR, ex_getsI, ex_getsR, ex_iald, ex_cald, ex_iast, ex_cast, ex_aast, ex_alen, ex_copy1, ex_copy2, ex_throw, ex_goto, ex_fall, ex_if_eq, ex_ic_eq, ex_if_ne, ex_ic_ne, ex_if_lt, ex_ic_lt, ex_if_ge, ex_ic_ge, ex_if_gt, ex_ic_gt, ex_if_le, ex_ic_le, ex_switch, ex_ireturn, ex_ireturn_z, ex_ireturn_b, ex_ireturn_c, ex_areturn, ex_freturn, ex_dreturn, ex_return, ex_is0, ex_is1, ex_is2, ex_is3, ex_is4, ex_is5, ex_is6, ex_is7, ex_iv1, ex_iv2, ex_iv3, ex_iv4, ex_iv5, ex_iv6, ex_iv7, ex_ip1, ex_ip2, ex_ip3, ex_ip4, ex_ip5, ex_ip6, ex_ip7, ex_iu1, ex_iu2, ex_iu3, ex_iu4, ex_iu5, ex_iu6, ex_iu7, List.getD_cons_zero, List.getD_cons_succ, List.set_cons_zero, List.set_cons_succ, isI_i, isA_r, isD_d, isF_f, GInc, ko_v, ko_n, cat_i2, cat_r2, cat_n2, cat_f2, cat_d2, cat_l2, Nat.zero_le, Nat.zero_add, Nat.le_refl, Nat.reduceAdd, Nat.reduceLeDiff, ne_eq, not_false_eq_true, Nat.reduceEqDiff, sI_mk, wI_mk, wCp_mk, Option.toList, List.nil_append, List.cons_append, kd_20, kd_21, kd_22, kd_23, kd_24, kd_25, kd_26, kd_27, kd_28, kd_29, kd_30, kd_31, kd_32, kd_33, kd_34, kd_35, kd_36, kd_37, kd_38, kd_39, kd_40, kd_41, kd_42, kd_43, kd_44, kd_45, kd_46, kd_47, kd_48, kd_49, kd_50, kd_51, kd_52, kd_53, kd_54, rr1_0 hD, rr1_1 hD, rr1_2 hD, rr1_3 hD, rr1_5 hD, rr2_0 hD, rr2_1 hD, rr2_2 hD, rr2_3 hD, rr3_0 hD, rr3_1 hD, rr3_2 hD, rr3_3 hD, rr3_4 hD, rr3_5 hD, rr5_0 hD, rl20 hD, rl21 hD, rl22 hD, rl23 hD, rl24 hD, rl25 hD, rl26 hD, rl27 hD, rl28 hD, rl29 hD, rl30 hD, rl31 hD, e1, hc, if_true]
    refine hq f _ _ _ ?_ Fr.rf
    simp only [eatL, updn_self]
    exact h
  | cons x post ih =>
    intro pre f ac l u h hq
    have e1 := h.2.1.1
    obtain ⟨⟨-, e2, e3, -, -, e6⟩, hl, hi, hx, hn⟩ := h.2.1.mid
    have e7 : f 4 i 7 = ac 7 := h.2.2.1 7 (by decide)
    rw [jb64_1]
    simp only [B64_1, ex_iconst, ex_bipush, ex_sipush, ex_ldc, ex_ldcs, ex_fconst, ex_dconst, ex_iload_n, ex_iload, ex_aload_n, ex_aload, ex_dload_n, ex_dload, ex_fload, ex_istore_n, ex_istore, ex_fstore, ex_dstore_n, ex_dstore, ex_astore_n, ex_astore, ex_iinc, ex_ginc, ex_pop_i, ex_pop_r, ex_dup_i, ex_dup_r, ex_dup_x1, ex_dup2, ex_iadd, ex_isub, ex_imul, ex_iand, ex_ior, ex_ixor, ex_ishl, ex_ishr, ex_idiv, ex_irem, ex_ineg, ex_i2l, ex_i2c, ex_i2b, ex_i2f, ex_i2d, ex_f2d, ex_fdiv, ex_ddiv, ex_lcmp, ex_dcmp, ex_getI, ex_getR, ex_putI, ex_putB, ex_putZ, ex_putR, ex_getsI, ex_getsR, ex_iald, ex_cald, ex_iast, ex_cast, ex_aast, ex_alen, ex_copy1, ex_copy2, ex_throw, ex_goto, ex_fall, ex_if_eq, ex_ic_eq, ex_if_ne, ex_ic_ne, ex_if_lt, ex_ic_lt, ex_if_ge, ex_ic_ge, ex_if_gt, ex_ic_gt, ex_if_le, ex_ic_le, ex_switch, ex_ireturn, ex_ireturn_z, ex_ireturn_b, ex_ireturn_c, ex_areturn, ex_freturn, ex_dreturn, ex_return, ex_is0, ex_is1, ex_is2, ex_is3, ex_is4, ex_is5, ex_is6, ex_is7, ex_iv1, ex_iv2, ex_iv3, ex_iv4, ex_iv5, ex_iv6, ex_iv7, ex_ip1, ex_ip2, ex_ip3, ex_ip4, ex_ip5, ex_ip6, ex_ip7, ex_iu1, ex_iu2, ex_iu3, ex_iu4, ex_iu5, ex_iu6, ex_iu7, List.getD_cons_zero, List.getD_cons_succ, List.set_cons_zero, List.set_cons_succ, isI_i, isA_r, isD_d, isF_f, GInc, ko_v, ko_n, cat_i2, cat_r2, cat_n2, cat_f2, cat_d2, cat_l2, Nat.zero_le, Nat.zero_add, Nat.le_refl, Nat.reduceAdd, Nat.reduceLeDiff, ne_eq, not_false_eq_true, Nat.reduceEqDiff, sI_mk, wI_mk, wCp_mk, Option.toList, List.nil_append, List.cons_append, kd_20, kd_21, kd_22, kd_23, kd_24, kd_25, kd_26, kd_27, kd_28, kd_29, kd_30, kd_31, kd_32, kd_33, kd_34, kd_35, kd_36, kd_37, kd_38, kd_39, kd_40, kd_41, kd_42, kd_43, kd_44, kd_45, kd_46, kd_47, kd_48, kd_49, kd_50, kd_51, kd_52, kd_53, kd_54, e1, hn, if_false, rr1_0 hD, rr1_1 hD, rr1_2 hD, rr1_3 hD, rr1_5 hD, rr2_0 hD, rr2_1 hD, rr2_2 hD, rr2_3 hD, rr3_0 hD, rr3_1 hD, rr3_2 hD, rr3_3 hD, rr3_4 hD, rr3_5 hD, rr5_0 hD, rl20 hD, rl21 hD, rl22 hD, rl23 hD, rl24 hD, rl25 hD, rl26 hD, rl27 hD, rl28 hD, rl29 hD, rl30 hD, rl31 hD, hi, hx, e2, e6, min_ok]
    rw [eatL_c] at hq
    by_cases hb : kB x = b
    · simp only [hb, if_true, ne_eq, not_true_eq_false, if_false] at hq ⊢
      refine (take_ok hD hl).mpr ?_
      simp only [ex_iconst, ex_bipush, ex_sipush, ex_ldc, ex_ldcs, ex_fconst, ex_dconst, ex_iload_n, ex_iload, ex_aload_n, ex_aload, ex_dload_n, ex_dload, ex_fload, ex_istore_n, ex_istore, ex_fstore, ex_dstore_n, ex_dstore, ex_astore_n, ex_astore, ex_iinc, ex_ginc, ex_pop_i, ex_pop_r, ex_dup_i, ex_dup_r, ex_dup_x1, ex_dup2, ex_iadd, ex_isub, ex_imul, ex_iand, ex_ior, ex_ixor, ex_ishl, ex_ishr, ex_idiv, ex_irem, ex_ineg, ex_i2l, ex_i2c, ex_i2b, ex_i2f, ex_i2d, ex_f2d, ex_fdiv, ex_ddiv, ex_lcmp, ex_dcmp, ex_getI, ex_getR, ex_putI, ex_putB, ex_putZ, ex_putR, ex_getsI, ex_getsR, ex_iald, ex_cald, ex_iast, ex_cast, ex_aast, ex_alen, ex_copy1, ex_copy2, ex_throw, ex_goto, ex_fall, ex_if_eq, ex_ic_eq, ex_if_ne, ex_ic_ne, ex_if_lt, ex_ic_lt, ex_if_ge, ex_ic_ge, ex_if_gt, ex_ic_gt, ex_if_le, ex_ic_le, ex_switch, ex_ireturn, ex_ireturn_z, ex_ireturn_b, ex_ireturn_c, ex_areturn, ex_freturn, ex_dreturn, ex_return, ex_is0, ex_is1, ex_is2, ex_is3, ex_is4, ex_is5, ex_is6, ex_is7, ex_iv1, ex_iv2, ex_iv3, ex_iv4, ex_iv5, ex_iv6, ex_iv7, ex_ip1, ex_ip2, ex_ip3, ex_ip4, ex_ip5, ex_ip6, ex_ip7, ex_iu1, ex_iu2, ex_iu3, ex_iu4, ex_iu5, ex_iu6, ex_iu7, List.getD_cons_zero, List.getD_cons_succ, List.set_cons_zero, List.set_cons_succ, isI_i, isA_r, isD_d, isF_f, GInc, ko_v, ko_n, cat_i2, cat_r2, cat_n2, cat_f2, cat_d2, cat_l2, Nat.zero_le, Nat.zero_add, Nat.le_refl, Nat.reduceAdd, Nat.reduceLeDiff, ne_eq, not_false_eq_true, Nat.reduceEqDiff, sI_mk, wI_mk, wCp_mk, Option.toList, List.nil_append, List.cons_append, kd_20, kd_21, kd_22, kd_23, kd_24, kd_25, kd_26, kd_27, kd_28, kd_29, kd_30, kd_31, kd_32, kd_33, kd_34, kd_35, kd_36, kd_37, kd_38, kd_39, kd_40, kd_41, kd_42, kd_43, kd_44, kd_45, kd_46, kd_47, kd_48, kd_49, kd_50, kd_51, kd_52, kd_53, kd_54, up3_at, Nat.reduceEqDiff, false_and, and_false, and_true, true_and, and_self, eq_self, reduceIte, if_true, if_false, e2, e3, e7, B64_2, jb64_2, ik_succ]
      rw [← len_one (x := setW x (kW x - imin l (kW x)))]
      have h2 := (h.w25 (w := kW x - imin l (kW x))).acc (j := 7) (v := ac 7 + imin l (kW x) * kP x)
      rw [app_one] at h2
      refine ih _ _ _ _ _ h2 (fun f' l' n' u' g1 g2 => hq f' l' n' u' ?_ (Fr.tr (Fr.tr (Fr.up rfl) (Fr.up rfl)) g2))
      rw [← app_one] at g1
      simp only [updn_upd] at g1
      simpa [updn] using g1
    · simp only [hb, if_false, ne_eq, not_false_eq_true, if_true] at hq ⊢
      simp only [ex_iconst, ex_bipush, ex_sipush, ex_ldc, ex_ldcs, ex_fconst, ex_dconst, ex_iload_n, ex_iload, ex_aload_n, ex_aload, ex_dload_n, ex_dload, ex_fload, ex_istore_n, ex_istore, ex_fstore, ex_dstore_n, ex_dstore, ex_astore_n, ex_astore, ex_iinc, ex_ginc, ex_pop_i, ex_pop_r, ex_dup_i, ex_dup_r, ex_dup_x1, ex_dup2, ex_iadd, ex_isub, ex_imul, ex_iand, ex_ior, ex_ixor, ex_ishl, ex_ishr, ex_idiv, ex_irem, ex_ineg, ex_i2l, ex_i2c, ex_i2b, ex_i2f, ex_i2d, ex_f2d, ex_fdiv, ex_ddiv, ex_lcmp, ex_dcmp, ex_getI, ex_getR, ex_putI, ex_putB, ex_putZ, ex_putR, ex_getsI, ex_getsR, ex_iald, ex_cald, ex_iast, ex_cast, ex_aast, ex_alen, ex_copy1, ex_copy2, ex_throw, ex_goto, ex_fall, ex_if_eq, ex_ic_eq, ex_if_ne, ex_ic_ne, ex_if_lt, ex_ic_lt, ex_if_ge, ex_ic_ge, ex_if_gt, ex_ic_gt, ex_if_le, ex_ic_le, ex_switch, ex_ireturn, ex_ireturn_z, ex_ireturn_b, ex_ireturn_c, ex_areturn, ex_freturn, ex_dreturn, ex_return, ex_is0, ex_is1, ex_is2, ex_is3, ex_is4, ex_is5, ex_is6, ex_is7, ex_iv1, ex_iv2, ex_iv3, ex_iv4, ex_iv5, ex_iv6, ex_iv7, ex_ip1, ex_ip2, ex_ip3, ex_ip4, ex_ip5, ex_ip6, ex_ip7, ex_iu1, ex_iu2, ex_iu3, ex_iu4, ex_iu5, ex_iu6, ex_iu7, List.getD_cons_zero, List.getD_cons_succ, List.set_cons_zero, List.set_cons_succ, isI_i, isA_r, isD_d, isF_f, GInc, ko_v, ko_n, cat_i2, cat_r2, cat_n2, cat_f2, cat_d2, cat_l2, Nat.zero_le, Nat.zero_add, Nat.le_refl, Nat.reduceAdd, Nat.reduceLeDiff, ne_eq, not_false_eq_true, Nat.reduceEqDiff, sI_mk, wI_mk, wCp_mk, Option.toList, List.nil_append, List.cons_append, kd_20, kd_21, kd_22, kd_23, kd_24, kd_25, kd_26, kd_27, kd_28, kd_29, kd_30, kd_31, kd_32, kd_33, kd_34, kd_35, kd_36, kd_37, kd_38, kd_39, kd_40, kd_41, kd_42, kd_43, kd_44, kd_45, kd_46, kd_47, kd_48, kd_49, kd_50, kd_51, kd_52, kd_53, kd_54, B64_2, jb64_2, ik_succ]
      rw [← len_one (x := x)]
      have h2 := h
      rw [app_one] at h2
      refine ih _ _ _ _ _ h2 (fun f' l' n' u' g1 g2 => hq f' l' n' u' ?_ g2)
      rw [← app_one] at g1
      exact g1
/-- the sacks that are not empty -/
def noE (xs : List Sk) : List Sk := xs.filter (fun x => decide (0 < kW x))
theorem eat_ok (hD : StD r i) {b kg : Int32} {bs : List Bn} {xs : List Sk} {ac pr : Nat → Int32} {mo nx : Int32} (h : LayD f i (bs, xs, ac, pr, mo, nx))
    (hq : ∀ f', LayD f' i (bs, noE (eatL b xs kg (ac 7)).1, updn ac 7 (eatL b xs kg (ac 7)).2, pr, mo, nx) → Fr tgD i f f' → Q (.inl none) (f', r)) : Cl (d + 3) 64 [vr 1 i, vi b, vi kg] (f, r) Q := by
  rw [en64]
  simp only [B64_0, ex_iconst, ex_bipush, ex_sipush, ex_ldc, ex_ldcs, ex_fconst, ex_dconst, ex_iload_n, ex_iload, ex_aload_n, ex_aload, ex_dload_n, ex_dload, ex_fload, ex_istore_n, ex_istore, ex_fstore, ex_dstore_n, ex_dstore, ex_astore_n, ex_astore, ex_iinc, ex_ginc, ex_pop_i, ex_pop_r, ex_dup_i, ex_dup_r, ex_dup_x1, ex_dup2, ex_iadd, ex_isub, ex_imul, ex_iand, ex_ior, ex_ixor, ex_ishl, ex_ishr, ex_idiv, ex_irem, ex_ineg, ex_i2l, ex_i2c, ex_i2b, ex_i2f, ex_i2d, ex_f2d, ex_fdiv, ex_ddiv, ex_lcmp, ex_dcmp, ex_getI, ex_getR, ex_putI, ex_putB, ex_putZ, ex_putR, ex_getsI, ex_getsR, ex_iald, ex_cald, ex_iast, ex_cast, ex_aast, ex_alen, ex_copy1, ex_copy2, ex_throw, ex_goto, ex_fall, ex_if_eq, ex_ic_eq, ex_if_ne, ex_ic_ne, ex_if_lt, ex_ic_lt, ex_if_ge, ex_ic_ge, ex_if_gt, ex_ic_gt, ex_if_le, ex_ic_le, ex_switch, ex_ireturn, ex_ireturn_z, ex_ireturn_b, ex_ireturn_c, ex_areturn, ex_freturn, ex_dreturn, ex_return, ex_is0, ex_is1, ex_is2, ex_is3, ex_is4, ex_is5, ex_is6, ex_is7, ex_iv1, ex_iv2, ex_iv3, ex_iv4, ex_iv5, ex_iv6, ex_iv7, ex_ip1, ex_ip2, ex_ip3, ex_ip4, ex_ip5, ex_ip6, ex_ip7, ex_iu1, ex_iu2, ex_iu3, ex_iu4, ex_iu5, ex_iu6, ex_iu7, List.getD_cons_zero, List.getD_cons_succ, List.set_cons_zero, List.set_cons_succ, isI_i, isA_r, isD_d, isF_f, GInc, ko_v, ko_n, cat_i2, cat_r2, cat_n2, cat_f2, cat_d2, cat_l2, Nat.zero_le, Nat.zero_add, Nat.le_refl, Nat.reduceAdd, Nat.reduceLeDiff, ne_eq, not_false_eq_true, Nat.reduceEqDiff, sI_mk, wI_mk, wCp_mk, Option.toList, List.nil_append, List.cons_append, kd_20, kd_21, kd_22, kd_23, kd_24, kd_25, kd_26, kd_27, kd_28, kd_29, kd_30, kd_31, kd_32, kd_33, kd_34, kd_35, kd_36, kd_37, kd_38, kd_39, kd_40, kd_41, kd_42, kd_43, kd_44, kd_45, kd_46, kd_47, kd_48, kd_49, kd_50, kd_51, kd_52, kd_53, kd_54]
  refine eat_lp hD xs [] f ac kg _ h (fun f1 l1 n1 u1 h1 F1 => ?_)
  rw [jb64_3]
  simp only [B64_3, ex_iconst, ex_bipush, ex_sipush, ex_ldc, ex_ldcs, ex_fconst, ex_dconst, ex_iload_n, ex_iload, ex_aload_n, ex_aload, ex_dload_n, ex_dload, ex_fload, ex_istore_n, ex_istore, ex_fstore, ex_dstore_n, ex_dstore, ex_astore_n, ex_astore, ex_iinc, ex_ginc, ex_pop_i, ex_pop_r, ex_dup_i, ex_dup_r, ex_dup_x1, ex_dup2, ex_iadd, ex_isub, ex_imul, ex_iand, ex_ior, ex_ixor, ex_ishl, ex_ishr, ex_idiv, ex_irem, ex_ineg, ex_i2l, ex_i2c, ex_i2b, ex_i2f, ex_i2d, ex_f2d, ex_fdiv, ex_ddiv, ex_lcmp, ex_dcmp, ex_getI, ex_getR, ex_putI, ex_putB, ex_putZ, ex_putR, ex_getsI, ex_getsR, ex_iald, ex_cald, ex_iast, ex_cast, ex_aast, ex_alen, ex_copy1, ex_copy2, ex_throw, ex_goto, ex_fall, ex_if_eq, ex_ic_eq, ex_if_ne, ex_ic_ne, ex_if_lt, ex_ic_lt, ex_if_ge, ex_ic_ge, ex_if_gt, ex_ic_gt, ex_if_le, ex_ic_le, ex_switch, ex_ireturn, ex_ireturn_z, ex_ireturn_b, ex_ireturn_c, ex_areturn, ex_freturn, ex_dreturn, ex_return, ex_is0, ex_is1, ex_is2, ex_is3, ex_is4, ex_is5, ex_is6, ex_is7, ex_iv1, ex_iv2, ex_iv3, ex_iv4, ex_iv5, ex_iv6, ex_iv7, ex_ip1, ex_ip2, ex_ip3, ex_ip4, ex_ip5, ex_ip6, ex_ip7, ex_iu1, ex_iu2, ex_iu3, ex_iu4, ex_iu5, ex_iu6, ex_iu7, List.getD_cons_zero, List.getD_cons_succ, List.set_cons_zero, List.set_cons_succ, isI_i, isA_r, isD_d, isF_f, GInc, ko_v, ko_n, cat_i2, cat_r2, cat_n2, cat_f2, cat_d2, cat_l2, Nat.zero_le, Nat.zero_add, Nat.le_refl, Nat.reduceAdd, Nat.reduceLeDiff, ne_eq, not_false_eq_true, Nat.reduceEqDiff, sI_mk, wI_mk, wCp_mk, Option.toList, List.nil_append, List.cons_append, kd_20, kd_21, kd_22, kd_23, kd_24, kd_25, kd_26, kd_27, kd_28, kd_29, kd_30, kd_31, kd_32, kd_33, kd_34, kd_35, kd_36, kd_37, kd_38, kd_39, kd_40, kd_41, kd_42, kd_43, kd_44, kd_45, kd_46, kd_47, kd_48, kd_49, kd_50, kd_51, kd_52, kd_53, kd_54, rr1_0 hD, rr1_1 hD, rr1_2 hD, rr1_3 hD, rr1_5 hD, rr2_0 hD, rr2_1 hD, rr2_2 hD, rr2_3 hD, rr3_0 hD, rr3_1 hD, rr3_2 hD, rr3_3 hD, rr3_4 hD, rr3_5 hD, rr5_0 hD, rl20 hD, rl21 hD, rl22 hD, rl23 hD, rl24 hD, rl25 hD, rl26 hD, rl27 hD, rl28 hD, rl29 hD, rl30 hD, rl31 hD]
  refine drop_ok hD h1.2.1 (fun f2 h2 F2 n2 => ?_)
  simp only [ex_iconst, ex_bipush, ex_sipush, ex_ldc, ex_ldcs, ex_fconst, ex_dconst, ex_iload_n, ex_iload, ex_aload_n, ex_aload, ex_dload_n, ex_dload, ex_fload, ex_istore_n, ex_istore, ex_fstore, ex_dstore_n, ex_dstore, ex_astore_n, ex_astore, ex_iinc, ex_ginc, ex_pop_i, ex_pop_r, ex_dup_i, ex_dup_r, ex_dup_x1, ex_dup2, ex_iadd, ex_isub, ex_imul, ex_iand, ex_ior, ex_ixor, ex_ishl, ex_ishr, ex_idiv, ex_irem, ex_ineg, ex_i2l, ex_i2c, ex_i2b, ex_i2f, ex_i2d, ex_f2d, ex_fdiv, ex_ddiv, ex_lcmp, ex_dcmp, ex_getI, ex_getR, ex_putI, ex_putB, ex_putZ, ex_putR, ex_getsI, ex_getsR, ex_iald, ex_cald, ex_iast, ex_cast, ex_aast, ex_alen, ex_copy1, ex_copy2, ex_throw, ex_goto, ex_fall, ex_if_eq, ex_ic_eq, ex_if_ne, ex_ic_ne, ex_if_lt, ex_ic_lt, ex_if_ge, ex_ic_ge, ex_if_gt, ex_ic_gt, ex_if_le, ex_ic_le, ex_switch, ex_ireturn, ex_ireturn_z, ex_ireturn_b, ex_ireturn_c, ex_areturn, ex_freturn, ex_dreturn, ex_return, ex_is0, ex_is1, ex_is2, ex_is3, ex_is4, ex_is5, ex_is6, ex_is7, ex_iv1, ex_iv2, ex_iv3, ex_iv4, ex_iv5, ex_iv6, ex_iv7, ex_ip1, ex_ip2, ex_ip3, ex_ip4, ex_ip5, ex_ip6, ex_ip7, ex_iu1, ex_iu2, ex_iu3, ex_iu4, ex_iu5, ex_iu6, ex_iu7, List.getD_cons_zero, List.getD_cons_succ, List.set_cons_zero, List.set_cons_succ, isI_i, isA_r, isD_d, isF_f, GInc, ko_v, ko_n, cat_i2, cat_r2, cat_n2, cat_f2, cat_d2, cat_l2, Nat.zero_le, Nat.zero_add, Nat.le_refl, Nat.reduceAdd, Nat.reduceLeDiff, ne_eq, not_false_eq_true, Nat.reduceEqDiff, sI_mk, wI_mk, wCp_mk, Option.toList, List.nil_append, List.cons_append, kd_20, kd_21, kd_22, kd_23, kd_24, kd_25, kd_26, kd_27, kd_28, kd_29, kd_30, kd_31, kd_32, kd_33, kd_34, kd_35, kd_36, kd_37, kd_38, kd_39, kd_40, kd_41, kd_42, kd_43, kd_44, kd_45, kd_46, kd_47, kd_48, kd_49, kd_50, kd_51, kd_52, kd_53, kd_54]
  have w2 : ∀ t, tgS t = true → tgD t = true := by intro t; simp [tgS, tgD]; omega
  exact hq f2 (h1.sacks h2 (n2.trans h1.2.2.2.2.2) F2) (Fr.tr F1 (F2.wk w2))
end Ops
