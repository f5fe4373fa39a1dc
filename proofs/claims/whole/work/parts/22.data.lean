/-! bins, accounts, the data: copies -/
abbrev Bn : Type := Int32 × Int32 × Int32 × Int32
abbrev bC (b : Bn) : Int32 := b.1
abbrev bM (b : Bn) : Int32 := b.2.1
abbrev bI (b : Bn) : Int32 := b.2.2.1
abbrev bT (b : Bn) : Int32 := b.2.2.2
/-- what undo covers: bins, sacks, accounts, prices, month, next number -/
abbrev Dt : Type := List Bn × List Sk × (Nat → Int32) × (Nat → Int32) × Int32 × Int32
abbrev dBs (D : Dt) : List Bn := D.1
abbrev dSs (D : Dt) : List Sk := D.2.1
abbrev dAc (D : Dt) : Nat → Int32 := D.2.2.1
abbrev dPr (D : Dt) : Nat → Int32 := D.2.2.2.1
abbrev dMo (D : Dt) : Int32 := D.2.2.2.2.1
abbrev dNx (D : Dt) : Int32 := D.2.2.2.2.2
def AtB (f : SF) (i k : Nat) (b : Bn) : Prop := f 20 i k = bC b ∧ f 21 i k = bM b ∧ f 22 i k = bI b ∧ f 23 i k = bT b
def LayB (f : SF) (i : Nat) (bs : List Bn) : Prop := f 2 i 4 = ik bs.length ∧ bs.length ≤ 5 ∧ ∀ k b, bs[k]? = some b → AtB f i k b
def LayD (f : SF) (i : Nat) (D : Dt) : Prop := LayB f i (dBs D) ∧ LayS f i (dSs D) ∧ (∀ k, k < 8 → f 4 i k = dAc D k) ∧ (∀ k, k < 12 → f 30 i k = dPr D k) ∧ f 1 i 4 = dMo D ∧ f 3 i 7 = dNx D
def tgB (t : Nat) : Bool := decide (t = 2) || (decide (20 ≤ t) && decide (t ≤ 23))
def tgA (t : Nat) : Bool := decide (t = 4)
/-- all that belongs to the data of a number -/
def tgD (t : Nat) : Bool := (decide (1 ≤ t) && decide (t ≤ 5)) || (decide (20 ≤ t) && decide (t ≤ 31))
theorem Fr.cp {P : Nat → Bool} {i t j n t2 sp dp : Nat} {f : SF} (h : P t2 = true) : Fr P i f (cp f t j sp t2 i dp n) := fun a b k q => cp_ne (by
  rcases q with q | q
  · exact Or.inl (fun z => by rw [z, h] at q; cases q)
  · exact Or.inr q)
theorem LayB.fr {P : Nat → Bool} {i j : Nat} {f f' : SF} {bs : List Bn} (h : LayB f j bs) (hf : Fr P i f f') (hp : j ≠ i ∨ (P 2 = false ∧ P 20 = false ∧ P 21 = false ∧ P 22 = false ∧ P 23 = false)) : LayB f' j bs := by
  have e : ∀ t k, t = 2 ∨ t = 20 ∨ t = 21 ∨ t = 22 ∨ t = 23 → f' t j k = f t j k := fun t k ht => hf t j k (by
    rcases hp with hp | hp
    · exact Or.inr hp
    · rcases ht with rfl | rfl | rfl | rfl | rfl <;> simp [hp])
  refine ⟨by rw [e _ _ (by simp)]; exact h.1, h.2.1, fun k b hb => ?_⟩
  have := h.2.2 k b hb
  simp only [AtB] at this ⊢
  rw [e 20 k (by simp), e 21 k (by simp), e 22 k (by simp), e 23 k (by simp)]
  exact this
theorem LayS.fr {P : Nat → Bool} {i j : Nat} {f f' : SF} {xs : List Sk} (h : LayS f j xs) (hf : Fr P i f f') (hp : j ≠ i ∨ (P 3 = false ∧ P 24 = false ∧ P 25 = false ∧ P 26 = false ∧ P 27 = false ∧ P 28 = false ∧ P 29 = false)) : LayS f' j xs := by
  have e : ∀ t k, t = 3 ∨ t = 24 ∨ t = 25 ∨ t = 26 ∨ t = 27 ∨ t = 28 ∨ t = 29 → f' t j k = f t j k := fun t k ht => hf t j k (by
    rcases hp with hp | hp
    · exact Or.inr hp
    · rcases ht with rfl | rfl | rfl | rfl | rfl | rfl | rfl <;> simp [hp])
  refine ⟨by rw [e _ _ (by simp)]; exact h.1, h.2.1, fun k b hb => ?_⟩
  have := h.2.2 k b hb
  simp only [AtS] at this ⊢
  rw [e 24 k (by simp), e 25 k (by simp), e 26 k (by simp), e 27 k (by simp), e 28 k (by simp), e 29 k (by simp)]
  exact this
/-- the data of another number stay -/
theorem LayD.ne {i j : Nat} {f f' : SF} {D : Dt} {P : Nat → Bool} (h : LayD f j D) (hf : Fr P i f f') (hij : j ≠ i) : LayD f' j D := by
  obtain ⟨h1, h2, h3, h4, h5, h6⟩ := h
  exact ⟨h1.fr hf (Or.inl hij), h2.fr hf (Or.inl hij), fun k hk => (hf _ _ _ (Or.inr hij)).trans (h3 k hk), fun k hk => (hf _ _ _ (Or.inr hij)).trans (h4 k hk), (hf _ _ _ (Or.inr hij)).trans h5, (hf _ _ _ (Or.inr hij)).trans h6⟩
section Data
variable {d i j : Nat} {f : SF} {r : SR} {Q : Ot → St → Prop}
theorem bcp_ok (hD : StD r i) (hE : StD r j) {bs : List Bn} (h : LayB f j bs) (hij : i ≠ j) (hq : ∀ f', LayB f' i bs → Fr tgB i f f' → Q (.inl none) (f', r)) : Cl (d + 1) 34 [vr 2 i, vr 2 j] (f, r) Q := by
  rw [en34]
  simp only [B34_0, ex_iconst, ex_bipush, ex_sipush, ex_ldc, ex_ldcs, ex_fconst, ex_dconst, ex_iload_n, ex_iload, ex_aload_n, ex_aload, ex_dload_n, ex_dload, ex_fload, ex_istore_n, ex_istore, ex_fstore, ex_dstore_n, ex_dstore, ex_astore_n, ex_astore, ex_iinc, ex_ginc, ex_pop_i, ex_pop_r, ex_dup_i, ex_dup_r, ex_dup_x1, ex_dup2, ex_iadd, ex_isub, ex_imul, ex_iand, ex_ior, ex_ixor, ex_ishl, ex_ishr, ex_idiv, ex_irem, ex_ineg, ex_i2l, ex_i2c, ex_i2b, ex_i2f, ex_i2d, ex_f2d, ex_fdiv, ex_ddiv, ex_lcmp, ex_dcmp, ex_getI, ex_getR, ex_putI, ex_putB, ex_putZ, ex_putR, ex_getsI, ex_getsR, ex_iald, ex_cald, ex_iast, ex_cast, ex_aast, ex_alen, ex_copy1, ex_copy2, ex_throw, ex_goto, ex_fall, ex_if_eq, ex_ic_eq, ex_if_ne, ex_ic_ne, ex_if_lt, ex_ic_lt, ex_if_ge, ex_ic_ge, ex_if_gt, ex_ic_gt, ex_if_le, ex_ic_le, ex_switch, ex_ireturn, ex_ireturn_z, ex_ireturn_b, ex_ireturn_c, ex_areturn, ex_freturn, ex_dreturn, ex_return, ex_is0, ex_is1, ex_is2, ex_is3, ex_is4, ex_is5, ex_is6, ex_is7, ex_iv1, ex_iv2, ex_iv3, ex_iv4, ex_iv5, ex_iv6, ex_iv7, ex_ip1, ex_ip2, ex_ip3, ex_ip4, ex_ip5, ex_ip6, ex_ip7, ex_iu1, ex_iu2, ex_iu3, ex_iu4, ex_iu5, ex_iu6, ex_iu7, List.getD_cons_zero, List.getD_cons_succ, List.set_cons_zero, List.set_cons_succ, isI_i, isA_r, isD_d, isF_f, GInc, ko_v, ko_n, cat_i2, cat_r2, cat_n2, cat_f2, cat_d2, cat_l2, Nat.zero_le, Nat.zero_add, Nat.le_refl, Nat.reduceAdd, Nat.reduceLeDiff, ne_eq, not_false_eq_true, Nat.reduceEqDiff, sI_mk, wI_mk, wCp_mk, Option.toList, List.nil_append, List.cons_append, kd_20, kd_21, kd_22, kd_23, kd_24, kd_25, kd_26, kd_27, kd_28, kd_29, kd_30, kd_31, kd_32, kd_33, kd_34, kd_35, kd_36, kd_37, kd_38, kd_39, kd_40, kd_41, kd_42, kd_43, kd_44, kd_45, kd_46, kd_47, kd_48, kd_49, kd_50, kd_51, kd_52, kd_53, kd_54, rr1_0 hD, rr1_1 hD, rr1_2 hD, rr1_3 hD, rr1_5 hD, rr2_0 hD, rr2_1 hD, rr2_2 hD, rr2_3 hD, rr3_0 hD, rr3_1 hD, rr3_2 hD, rr3_3 hD, rr3_4 hD, rr3_5 hD, rr5_0 hD, rl20 hD, rl21 hD, rl22 hD, rl23 hD, rl24 hD, rl25 hD, rl26 hD, rl27 hD, rl28 hD, rl29 hD, rl30 hD, rl31 hD, rr1_0 hE, rr1_1 hE, rr1_2 hE, rr1_3 hE, rr1_5 hE, rr2_0 hE, rr2_1 hE, rr2_2 hE, rr2_3 hE, rr3_0 hE, rr3_1 hE, rr3_2 hE, rr3_3 hE, rr3_4 hE, rr3_5 hE, rr5_0 hE, rl20 hE, rl21 hE, rl22 hE, rl23 hE, rl24 hE, rl25 hE, rl26 hE, rl27 hE, rl28 hE, rl29 hE, rl30 hE, rl31 hE, nn0, cx0, nn5, cx5, nn8, cx8, nn12, cx12, nn50, cx50]
  refine hq _ ⟨?_, h.2.1, fun k b hb => ?_⟩ (Fr.tr (Fr.tr (Fr.tr (Fr.tr (Fr.cp rfl) (Fr.cp rfl)) (Fr.cp rfl)) (Fr.cp rfl)) (Fr.up rfl))
  · simp [up3, cp_ne]
    exact h.1
  · have hk : k < 5 := Nat.lt_of_lt_of_le (List.getElem?_eq_some_iff.mp hb).1 h.2.1
    have := h.2.2 k b hb
    simp only [AtB] at this ⊢
    simp [up3, cp_ne, cp_at, hk, this, hij, Ne.symm hij]
theorem scp_ok (hD : StD r i) (hE : StD r j) {xs : List Sk} (h : LayS f j xs) (hij : i ≠ j) (hq : ∀ f', LayS f' i xs → f' 3 i 7 = f 3 j 7 → Fr tgS i f f' → Q (.inl none) (f', r)) : Cl (d + 1) 38 [vr 3 i, vr 3 j] (f, r) Q := by
  rw [en38]
  simp only [B38_0, ex_iconst, ex_bipush, ex_sipush, ex_ldc, ex_ldcs, ex_fconst, ex_dconst, ex_iload_n, ex_iload, ex_aload_n, ex_aload, ex_dload_n, ex_dload, ex_fload, ex_istore_n, ex_istore, ex_fstore, ex_dstore_n, ex_dstore, ex_astore_n, ex_astore, ex_iinc, ex_ginc, ex_pop_i, ex_pop_r, ex_dup_i, ex_dup_r, ex_dup_x1, ex_dup2, ex_iadd, ex_isub, ex_imul, ex_iand, ex_ior, ex_ixor, ex_ishl, ex_ishr, ex_idiv, ex_irem, ex_ineg, ex_i2l, ex_i2c, ex_i2b, ex_i2f, ex_i2d, ex_f2d, ex_fdiv, ex_ddiv, ex_lcmp, ex_dcmp, ex_getI, ex_getR, ex_putI, ex_putB, ex_putZ, ex_putR, ex_getsI, ex_getsR, ex_iald, ex_cald, ex_iast, ex_cast, ex_aast, ex_alen, ex_copy1, ex_copy2, ex_throw, ex_goto, ex_fall, ex_if_eq, ex_ic_eq, ex_if_ne, ex_ic_ne, ex_if_lt, ex_ic_lt, ex_if_ge, ex_ic_ge, ex_if_gt, ex_ic_gt, ex_if_le, ex_ic_le, ex_switch, ex_ireturn, ex_ireturn_z, ex_ireturn_b, ex_ireturn_c, ex_areturn, ex_freturn, ex_dreturn, ex_return, ex_is0, ex_is1, ex_is2, ex_is3, ex_is4, ex_is5, ex_is6, ex_is7, ex_iv1, ex_iv2, ex_iv3, ex_iv4, ex_iv5, ex_iv6, ex_iv7, ex_ip1, ex_ip2, ex_ip3, ex_ip4, ex_ip5, ex_ip6, ex_ip7, ex_iu1, ex_iu2, ex_iu3, ex_iu4, ex_iu5, ex_iu6, ex_iu7, List.getD_cons_zero, List.getD_cons_succ, List.set_cons_zero, List.set_cons_succ, isI_i, isA_r, isD_d, isF_f, GInc, ko_v, ko_n, cat_i2, cat_r2, cat_n2, cat_f2, cat_d2, cat_l2, Nat.zero_le, Nat.zero_add, Nat.le_refl, Nat.reduceAdd, Nat.reduceLeDiff, ne_eq, not_false_eq_true, Nat.reduceEqDiff, sI_mk, wI_mk, wCp_mk, Option.toList, List.nil_append, List.cons_append, kd_20, kd_21, kd_22, kd_23, kd_24, kd_25, kd_26, kd_27, kd_28, kd_29, kd_30, kd_31, kd_32, kd_33, kd_34, kd_35, kd_36, kd_37, kd_38, kd_39, kd_40, kd_41, kd_42, kd_43, kd_44, kd_45, kd_46, kd_47, kd_48, kd_49, kd_50, kd_51, kd_52, kd_53, kd_54, rr1_0 hD, rr1_1 hD, rr1_2 hD, rr1_3 hD, rr1_5 hD, rr2_0 hD, rr2_1 hD, rr2_2 hD, rr2_3 hD, rr3_0 hD, rr3_1 hD, rr3_2 hD, rr3_3 hD, rr3_4 hD, rr3_5 hD, rr5_0 hD, rl20 hD, rl21 hD, rl22 hD, rl23 hD, rl24 hD, rl25 hD, rl26 hD, rl27 hD, rl28 hD, rl29 hD, rl30 hD, rl31 hD, rr1_0 hE, rr1_1 hE, rr1_2 hE, rr1_3 hE, rr1_5 hE, rr2_0 hE, rr2_1 hE, rr2_2 hE, rr2_3 hE, rr3_0 hE, rr3_1 hE, rr3_2 hE, rr3_3 hE, rr3_4 hE, rr3_5 hE, rr5_0 hE, rl20 hE, rl21 hE, rl22 hE, rl23 hE, rl24 hE, rl25 hE, rl26 hE, rl27 hE, rl28 hE, rl29 hE, rl30 hE, rl31 hE, nn0, cx0, nn5, cx5, nn8, cx8, nn12, cx12, nn50, cx50]
  refine hq _ ⟨?_, h.2.1, fun k x hx => ?_⟩ ?_ (Fr.tr (Fr.tr (Fr.tr (Fr.tr (Fr.tr (Fr.tr (Fr.tr (Fr.cp rfl) (Fr.cp rfl)) (Fr.cp rfl)) (Fr.cp rfl)) (Fr.cp rfl)) (Fr.cp rfl)) (Fr.up rfl)) (Fr.up rfl))
  · simp [up3, cp_ne]
    exact h.1
  · have hk : k < 50 := Nat.lt_of_lt_of_le (List.getElem?_eq_some_iff.mp hx).1 h.2.1
    have := h.2.2 k x hx
    simp only [AtS] at this ⊢
    simp [up3, cp_ne, cp_at, hk, this, hij, Ne.symm hij]
  · simp [up3, cp_ne, Ne.symm hij]
theorem acp_ok (hij : i ≠ j) (hq : ∀ f', (∀ k, k < 8 → f' 4 i k = f 4 j k) → Fr tgA i f f' → Q (.inl none) (f', r)) : Cl (d + 1) 48 [vr 4 i, vr 4 j] (f, r) Q := by
  rw [en48]
  simp only [B48_0, ex_iconst, ex_bipush, ex_sipush, ex_ldc, ex_ldcs, ex_fconst, ex_dconst, ex_iload_n, ex_iload, ex_aload_n, ex_aload, ex_dload_n, ex_dload, ex_fload, ex_istore_n, ex_istore, ex_fstore, ex_dstore_n, ex_dstore, ex_astore_n, ex_astore, ex_iinc, ex_ginc, ex_pop_i, ex_pop_r, ex_dup_i, ex_dup_r, ex_dup_x1, ex_dup2, ex_iadd, ex_isub, ex_imul, ex_iand, ex_ior, ex_ixor, ex_ishl, ex_ishr, ex_idiv, ex_irem, ex_ineg, ex_i2l, ex_i2c, ex_i2b, ex_i2f, ex_i2d, ex_f2d, ex_fdiv, ex_ddiv, ex_lcmp, ex_dcmp, ex_getI, ex_getR, ex_putI, ex_putB, ex_putZ, ex_putR, ex_getsI, ex_getsR, ex_iald, ex_cald, ex_iast, ex_cast, ex_aast, ex_alen, ex_copy1, ex_copy2, ex_throw, ex_goto, ex_fall, ex_if_eq, ex_ic_eq, ex_if_ne, ex_ic_ne, ex_if_lt, ex_ic_lt, ex_if_ge, ex_ic_ge, ex_if_gt, ex_ic_gt, ex_if_le, ex_ic_le, ex_switch, ex_ireturn, ex_ireturn_z, ex_ireturn_b, ex_ireturn_c, ex_areturn, ex_freturn, ex_dreturn, ex_return, ex_is0, ex_is1, ex_is2, ex_is3, ex_is4, ex_is5, ex_is6, ex_is7, ex_iv1, ex_iv2, ex_iv3, ex_iv4, ex_iv5, ex_iv6, ex_iv7, ex_ip1, ex_ip2, ex_ip3, ex_ip4, ex_ip5, ex_ip6, ex_ip7, ex_iu1, ex_iu2, ex_iu3, ex_iu4, ex_iu5, ex_iu6, ex_iu7, List.getD_cons_zero, List.getD_cons_succ, List.set_cons_zero, List.set_cons_succ, isI_i, isA_r, isD_d, isF_f, GInc, ko_v, ko_n, cat_i2, cat_r2, cat_n2, cat_f2, cat_d2, cat_l2, Nat.zero_le, Nat.zero_add, Nat.le_refl, Nat.reduceAdd, Nat.reduceLeDiff, ne_eq, not_false_eq_true, Nat.reduceEqDiff, sI_mk, wI_mk, wCp_mk, Option.toList, List.nil_append, List.cons_append, kd_20, kd_21, kd_22, kd_23, kd_24, kd_25, kd_26, kd_27, kd_28, kd_29, kd_30, kd_31, kd_32, kd_33, kd_34, kd_35, kd_36, kd_37, kd_38, kd_39, kd_40, kd_41, kd_42, kd_43, kd_44, kd_45, kd_46, kd_47, kd_48, kd_49, kd_50, kd_51, kd_52, kd_53, kd_54]
  refine hq _ (fun k hk => ?_) (Fr.tr (Fr.tr (Fr.tr (Fr.tr (Fr.tr (Fr.tr (Fr.tr (Fr.up rfl) (Fr.up rfl)) (Fr.up rfl)) (Fr.up rfl)) (Fr.up rfl)) (Fr.up rfl)) (Fr.up rfl)) (Fr.up rfl))
  rcases (show k = 0 ∨ k = 1 ∨ k = 2 ∨ k = 3 ∨ k = 4 ∨ k = 5 ∨ k = 6 ∨ k = 7 by omega) with rfl | rfl | rfl | rfl | rfl | rfl | rfl | rfl <;> simp [up3, hij, Ne.symm hij]
theorem dcp_ok (hD : StD r i) (hE : StD r j) {D : Dt} (h : LayD f j D) (hij : i ≠ j) (hq : ∀ f', LayD f' i D → Fr tgD i f f' → Q (.inl none) (f', r)) : Cl (d + 2) 54 [vr 1 i, vr 1 j] (f, r) Q := by
  obtain ⟨h1, h2, h3, h4, h5, h6⟩ := h
  rw [en54]
  simp only [B54_0, ex_iconst, ex_bipush, ex_sipush, ex_ldc, ex_ldcs, ex_fconst, ex_dconst, ex_iload_n, ex_iload, ex_aload_n, ex_aload, ex_dload_n, ex_dload, ex_fload, ex_istore_n, ex_istore, ex_fstore, ex_dstore_n, ex_dstore, ex_astore_n, ex_astore, ex_iinc, ex_ginc, ex_pop_i, ex_pop_r, ex_dup_i, ex_dup_r, ex_dup_x1, ex_dup2, ex_iadd, ex_isub, ex_imul, ex_iand, ex_ior, ex_ixor, ex_ishl, ex_ishr, ex_idiv, ex_irem, ex_ineg, ex_i2l, ex_i2c, ex_i2b, ex_i2f, ex_i2d, ex_f2d, ex_fdiv, ex_ddiv, ex_lcmp, ex_dcmp, ex_getI, ex_getR, ex_putI, ex_putB, ex_putZ, ex_putR, ex_getsI, ex_getsR, ex_iald, ex_cald, ex_iast, ex_cast, ex_aast, ex_alen, ex_copy1, ex_copy2, ex_throw, ex_goto, ex_fall, ex_if_eq, ex_ic_eq, ex_if_ne, ex_ic_ne, ex_if_lt, ex_ic_lt, ex_if_ge, ex_ic_ge, ex_if_gt, ex_ic_gt, ex_if_le, ex_ic_le, ex_switch, ex_ireturn, ex_ireturn_z, ex_ireturn_b, ex_ireturn_c, ex_areturn, ex_freturn, ex_dreturn, ex_return, ex_is0, ex_is1, ex_is2, ex_is3, ex_is4, ex_is5, ex_is6, ex_is7, ex_iv1, ex_iv2, ex_iv3, ex_iv4, ex_iv5, ex_iv6, ex_iv7, ex_ip1, ex_ip2, ex_ip3, ex_ip4, ex_ip5, ex_ip6, ex_ip7, ex_iu1, ex_iu2, ex_iu3, ex_iu4, ex_iu5, ex_iu6, ex_iu7, List.getD_cons_zero, List.getD_cons_succ, List.set_cons_zero, List.set_cons_succ, isI_i, isA_r, isD_d, isF_f, GInc, ko_v, ko_n, cat_i2, cat_r2, cat_n2, cat_f2, cat_d2, cat_l2, Nat.zero_le, Nat.zero_add, Nat.le_refl, Nat.reduceAdd, Nat.reduceLeDiff, ne_eq, not_false_eq_true, Nat.reduceEqDiff, sI_mk, wI_mk, wCp_mk, Option.toList, List.nil_append, List.cons_append, kd_20, kd_21, kd_22, kd_23, kd_24, kd_25, kd_26, kd_27, kd_28, kd_29, kd_30, kd_31, kd_32, kd_33, kd_34, kd_35, kd_36, kd_37, kd_38, kd_39, kd_40, kd_41, kd_42, kd_43, kd_44, kd_45, kd_46, kd_47, kd_48, kd_49, kd_50, kd_51, kd_52, kd_53, kd_54, rr1_0 hD, rr1_1 hD, rr1_2 hD, rr1_3 hD, rr1_5 hD, rr2_0 hD, rr2_1 hD, rr2_2 hD, rr2_3 hD, rr3_0 hD, rr3_1 hD, rr3_2 hD, rr3_3 hD, rr3_4 hD, rr3_5 hD, rr5_0 hD, rl20 hD, rl21 hD, rl22 hD, rl23 hD, rl24 hD, rl25 hD, rl26 hD, rl27 hD, rl28 hD, rl29 hD, rl30 hD, rl31 hD, rr1_0 hE, rr1_1 hE, rr1_2 hE, rr1_3 hE, rr1_5 hE, rr2_0 hE, rr2_1 hE, rr2_2 hE, rr2_3 hE, rr3_0 hE, rr3_1 hE, rr3_2 hE, rr3_3 hE, rr3_4 hE, rr3_5 hE, rr5_0 hE, rl20 hE, rl21 hE, rl22 hE, rl23 hE, rl24 hE, rl25 hE, rl26 hE, rl27 hE, rl28 hE, rl29 hE, rl30 hE, rl31 hE]
  refine bcp_ok hD hE h1 hij (fun f1 a1 b1 => ?_)
  simp only [ex_iconst, ex_bipush, ex_sipush, ex_ldc, ex_ldcs, ex_fconst, ex_dconst, ex_iload_n, ex_iload, ex_aload_n, ex_aload, ex_dload_n, ex_dload, ex_fload, ex_istore_n, ex_istore, ex_fstore, ex_dstore_n, ex_dstore, ex_astore_n, ex_astore, ex_iinc, ex_ginc, ex_pop_i, ex_pop_r, ex_dup_i, ex_dup_r, ex_dup_x1, ex_dup2, ex_iadd, ex_isub, ex_imul, ex_iand, ex_ior, ex_ixor, ex_ishl, ex_ishr, ex_idiv, ex_irem, ex_ineg, ex_i2l, ex_i2c, ex_i2b, ex_i2f, ex_i2d, ex_f2d, ex_fdiv, ex_ddiv, ex_lcmp, ex_dcmp, ex_getI, ex_getR, ex_putI, ex_putB, ex_putZ, ex_putR, ex_getsI, ex_getsR, ex_iald, ex_cald, ex_iast, ex_cast, ex_aast, ex_alen, ex_copy1, ex_copy2, ex_throw, ex_goto, ex_fall, ex_if_eq, ex_ic_eq, ex_if_ne, ex_ic_ne, ex_if_lt, ex_ic_lt, ex_if_ge, ex_ic_ge, ex_if_gt, ex_ic_gt, ex_if_le, ex_ic_le, ex_switch, ex_ireturn, ex_ireturn_z, ex_ireturn_b, ex_ireturn_c, ex_areturn, ex_freturn, ex_dreturn, ex_return, ex_is0, ex_is1, ex_is2, ex_is3, ex_is4, ex_is5, ex_is6, ex_is7, ex_iv1, ex_iv2, ex_iv3, ex_iv4, ex_iv5, ex_iv6, ex_iv7, ex_ip1, ex_ip2, ex_ip3, ex_ip4, ex_ip5, ex_ip6, ex_ip7, ex_iu1, ex_iu2, ex_iu3, ex_iu4, ex_iu5, ex_iu6, ex_iu7, List.getD_cons_zero, List.getD_cons_succ, List.set_cons_zero, List.set_cons_succ, isI_i, isA_r, isD_d, isF_f, GInc, ko_v, ko_n, cat_i2, cat_r2, cat_n2, cat_f2, cat_d2, cat_l2, Nat.zero_le, Nat.zero_add, Nat.le_refl, Nat.reduceAdd, Nat.reduceLeDiff, ne_eq, not_false_eq_true, Nat.reduceEqDiff, sI_mk, wI_mk, wCp_mk, Option.toList, List.nil_append, List.cons_append, kd_20, kd_21, kd_22, kd_23, kd_24, kd_25, kd_26, kd_27, kd_28, kd_29, kd_30, kd_31, kd_32, kd_33, kd_34, kd_35, kd_36, kd_37, kd_38, kd_39, kd_40, kd_41, kd_42, kd_43, kd_44, kd_45, kd_46, kd_47, kd_48, kd_49, kd_50, kd_51, kd_52, kd_53, kd_54, rr1_0 hD, rr1_1 hD, rr1_2 hD, rr1_3 hD, rr1_5 hD, rr2_0 hD, rr2_1 hD, rr2_2 hD, rr2_3 hD, rr3_0 hD, rr3_1 hD, rr3_2 hD, rr3_3 hD, rr3_4 hD, rr3_5 hD, rr5_0 hD, rl20 hD, rl21 hD, rl22 hD, rl23 hD, rl24 hD, rl25 hD, rl26 hD, rl27 hD, rl28 hD, rl29 hD, rl30 hD, rl31 hD, rr1_0 hE, rr1_1 hE, rr1_2 hE, rr1_3 hE, rr1_5 hE, rr2_0 hE, rr2_1 hE, rr2_2 hE, rr2_3 hE, rr3_0 hE, rr3_1 hE, rr3_2 hE, rr3_3 hE, rr3_4 hE, rr3_5 hE, rr5_0 hE, rl20 hE, rl21 hE, rl22 hE, rl23 hE, rl24 hE, rl25 hE, rl26 hE, rl27 hE, rl28 hE, rl29 hE, rl30 hE, rl31 hE]
  refine scp_ok hD hE (h2.fr b1 (Or.inl (Ne.symm hij))) hij (fun f2 a2 n2 b2 => ?_)
  simp only [ex_iconst, ex_bipush, ex_sipush, ex_ldc, ex_ldcs, ex_fconst, ex_dconst, ex_iload_n, ex_iload, ex_aload_n, ex_aload, ex_dload_n, ex_dload, ex_fload, ex_istore_n, ex_istore, ex_fstore, ex_dstore_n, ex_dstore, ex_astore_n, ex_astore, ex_iinc, ex_ginc, ex_pop_i, ex_pop_r, ex_dup_i, ex_dup_r, ex_dup_x1, ex_dup2, ex_iadd, ex_isub, ex_imul, ex_iand, ex_ior, ex_ixor, ex_ishl, ex_ishr, ex_idiv, ex_irem, ex_ineg, ex_i2l, ex_i2c, ex_i2b, ex_i2f, ex_i2d, ex_f2d, ex_fdiv, ex_ddiv, ex_lcmp, ex_dcmp, ex_getI, ex_getR, ex_putI, ex_putB, ex_putZ, ex_putR, ex_getsI, ex_getsR, ex_iald, ex_cald, ex_iast, ex_cast, ex_aast, ex_alen, ex_copy1, ex_copy2, ex_throw, ex_goto, ex_fall, ex_if_eq, ex_ic_eq, ex_if_ne, ex_ic_ne, ex_if_lt, ex_ic_lt, ex_if_ge, ex_ic_ge, ex_if_gt, ex_ic_gt, ex_if_le, ex_ic_le, ex_switch, ex_ireturn, ex_ireturn_z, ex_ireturn_b, ex_ireturn_c, ex_areturn, ex_freturn, ex_dreturn, ex_return, ex_is0, ex_is1, ex_is2, ex_is3, ex_is4, ex_is5, ex_is6, ex_is7, ex_iv1, ex_iv2, ex_iv3, ex_iv4, ex_iv5, ex_iv6, ex_iv7, ex_ip1, ex_ip2, ex_ip3, ex_ip4, ex_ip5, ex_ip6, ex_ip7, ex_iu1, ex_iu2, ex_iu3, ex_iu4, ex_iu5, ex_iu6, ex_iu7, List.getD_cons_zero, List.getD_cons_succ, List.set_cons_zero, List.set_cons_succ, isI_i, isA_r, isD_d, isF_f, GInc, ko_v, ko_n, cat_i2, cat_r2, cat_n2, cat_f2, cat_d2, cat_l2, Nat.zero_le, Nat.zero_add, Nat.le_refl, Nat.reduceAdd, Nat.reduceLeDiff, ne_eq, not_false_eq_true, Nat.reduceEqDiff, sI_mk, wI_mk, wCp_mk, Option.toList, List.nil_append, List.cons_append, kd_20, kd_21, kd_22, kd_23, kd_24, kd_25, kd_26, kd_27, kd_28, kd_29, kd_30, kd_31, kd_32, kd_33, kd_34, kd_35, kd_36, kd_37, kd_38, kd_39, kd_40, kd_41, kd_42, kd_43, kd_44, kd_45, kd_46, kd_47, kd_48, kd_49, kd_50, kd_51, kd_52, kd_53, kd_54, rr1_0 hD, rr1_1 hD, rr1_2 hD, rr1_3 hD, rr1_5 hD, rr2_0 hD, rr2_1 hD, rr2_2 hD, rr2_3 hD, rr3_0 hD, rr3_1 hD, rr3_2 hD, rr3_3 hD, rr3_4 hD, rr3_5 hD, rr5_0 hD, rl20 hD, rl21 hD, rl22 hD, rl23 hD, rl24 hD, rl25 hD, rl26 hD, rl27 hD, rl28 hD, rl29 hD, rl30 hD, rl31 hD, rr1_0 hE, rr1_1 hE, rr1_2 hE, rr1_3 hE, rr1_5 hE, rr2_0 hE, rr2_1 hE, rr2_2 hE, rr2_3 hE, rr3_0 hE, rr3_1 hE, rr3_2 hE, rr3_3 hE, rr3_4 hE, rr3_5 hE, rr5_0 hE, rl20 hE, rl21 hE, rl22 hE, rl23 hE, rl24 hE, rl25 hE, rl26 hE, rl27 hE, rl28 hE, rl29 hE, rl30 hE, rl31 hE]
  refine acp_ok hij (fun f3 a3 b3 => ?_)
  simp only [ex_iconst, ex_bipush, ex_sipush, ex_ldc, ex_ldcs, ex_fconst, ex_dconst, ex_iload_n, ex_iload, ex_aload_n, ex_aload, ex_dload_n, ex_dload, ex_fload, ex_istore_n, ex_istore, ex_fstore, ex_dstore_n, ex_dstore, ex_astore_n, ex_astore, ex_iinc, ex_ginc, ex_pop_i, ex_pop_r, ex_dup_i, ex_dup_r, ex_dup_x1, ex_dup2, ex_iadd, ex_isub, ex_imul, ex_iand, ex_ior, ex_ixor, ex_ishl, ex_ishr, ex_idiv, ex_irem, ex_ineg, ex_i2l, ex_i2c, ex_i2b, ex_i2f, ex_i2d, ex_f2d, ex_fdiv, ex_ddiv, ex_lcmp, ex_dcmp, ex_getI, ex_getR, ex_putI, ex_putB, ex_putZ, ex_putR, ex_getsI, ex_getsR, ex_iald, ex_cald, ex_iast, ex_cast, ex_aast, ex_alen, ex_copy1, ex_copy2, ex_throw, ex_goto, ex_fall, ex_if_eq, ex_ic_eq, ex_if_ne, ex_ic_ne, ex_if_lt, ex_ic_lt, ex_if_ge, ex_ic_ge, ex_if_gt, ex_ic_gt, ex_if_le, ex_ic_le, ex_switch, ex_ireturn, ex_ireturn_z, ex_ireturn_b, ex_ireturn_c, ex_areturn, ex_freturn, ex_dreturn, ex_return, ex_is0, ex_is1, ex_is2, ex_is3, ex_is4, ex_is5, ex_is6, ex_is7, ex_iv1, ex_iv2, ex_iv3, ex_iv4, ex_iv5, ex_iv6, ex_iv7, ex_ip1, ex_ip2, ex_ip3, ex_ip4, ex_ip5, ex_ip6, ex_ip7, ex_iu1, ex_iu2, ex_iu3, ex_iu4, ex_iu5, ex_iu6, ex_iu7, List.getD_cons_zero, List.getD_cons_succ, List.set_cons_zero, List.set_cons_succ, isI_i, isA_r, isD_d, isF_f, GInc, ko_v, ko_n, cat_i2, cat_r2, cat_n2, cat_f2, cat_d2, cat_l2, Nat.zero_le, Nat.zero_add, Nat.le_refl, Nat.reduceAdd, Nat.reduceLeDiff, ne_eq, not_false_eq_true, Nat.reduceEqDiff, sI_mk, wI_mk, wCp_mk, Option.toList, List.nil_append, List.cons_append, kd_20, kd_21, kd_22, kd_23, kd_24, kd_25, kd_26, kd_27, kd_28, kd_29, kd_30, kd_31, kd_32, kd_33, kd_34, kd_35, kd_36, kd_37, kd_38, kd_39, kd_40, kd_41, kd_42, kd_43, kd_44, kd_45, kd_46, kd_47, kd_48, kd_49, kd_50, kd_51, kd_52, kd_53, kd_54, rr1_0 hD, rr1_1 hD, rr1_2 hD, rr1_3 hD, rr1_5 hD, rr2_0 hD, rr2_1 hD, rr2_2 hD, rr2_3 hD, rr3_0 hD, rr3_1 hD, rr3_2 hD, rr3_3 hD, rr3_4 hD, rr3_5 hD, rr5_0 hD, rl20 hD, rl21 hD, rl22 hD, rl23 hD, rl24 hD, rl25 hD, rl26 hD, rl27 hD, rl28 hD, rl29 hD, rl30 hD, rl31 hD, rr1_0 hE, rr1_1 hE, rr1_2 hE, rr1_3 hE, rr1_5 hE, rr2_0 hE, rr2_1 hE, rr2_2 hE, rr2_3 hE, rr3_0 hE, rr3_1 hE, rr3_2 hE, rr3_3 hE, rr3_4 hE, rr3_5 hE, rr5_0 hE, rl20 hE, rl21 hE, rl22 hE, rl23 hE, rl24 hE, rl25 hE, rl26 hE, rl27 hE, rl28 hE, rl29 hE, rl30 hE, rl31 hE, nn0, cx0, nn5, cx5, nn8, cx8, nn12, cx12, nn50, cx50]
  have w1 : ∀ t, tgB t = true → tgD t = true := by intro t; simp [tgB, tgD]; omega
  have w2 : ∀ t, tgS t = true → tgD t = true := by intro t; simp [tgS, tgD]; omega
  have w3 : ∀ t, tgA t = true → tgD t = true := by intro t; simp [tgA, tgD]; omega
  have F3 : Fr tgD i f f3 := Fr.tr (Fr.tr (b1.wk w1) (b2.wk w2)) (b3.wk w3)
  have hji := Ne.symm hij
  refine hq _ ⟨?_, ?_, fun k hk => ?_, fun k hk => ?_, ?_, ?_⟩ (Fr.tr (Fr.tr F3 (Fr.cp rfl)) (Fr.up rfl))
  · have g1 := (a1.fr b2 (Or.inr (by decide))).fr b3 (Or.inr (by decide))
    have g2 : LayB (cp f3 30 j 0 30 i 0 12) i (dBs D) := g1.fr (P := fun t => decide (t = 30)) (Fr.cp rfl) (Or.inr (by decide))
    exact g2.fr (P := fun t => decide (t = 1)) (Fr.up rfl) (Or.inr (by decide))
  · have g1 := a2.fr b3 (Or.inr (by decide))
    have g2 : LayS (cp f3 30 j 0 30 i 0 12) i (dSs D) := g1.fr (P := fun t => decide (t = 30)) (Fr.cp rfl) (Or.inr (by decide))
    exact g2.fr (P := fun t => decide (t = 1)) (Fr.up rfl) (Or.inr (by decide))
  · simp [up3, cp_ne]
    rw [a3 k hk, b2 _ _ _ (Or.inr hji), b1 _ _ _ (Or.inr hji)]
    exact h3 k hk
  · simp [up3, cp_at, hk]
    rw [F3 _ _ _ (Or.inr hji)]
    exact h4 k hk
  · simp [up3, cp_ne, hji]
    rw [F3 _ _ _ (Or.inr hji)]
    exact h5
  · simp [up3, cp_ne]
    rw [b3 _ _ _ (Or.inl rfl), n2, b1 _ _ _ (Or.inr hji)]
    exact h6
theorem has_ok {bs : List Bn} (h : LayB f i bs) {b : Int32} : Cl (d + 1) 35 [vr 2 i, vi b] (f, r) Q ↔ Q (.inl (some (vi (if 0 ≤ b ∧ b < ik bs.length then 1 else 0)))) (f, r) := by
  have e1 := h.1
  rw [en35]
  have r0 : rkOk 1 0 = true := rfl
  have r1 : rkOk 1 1 = true := rfl
  simp only [B35_0, ex_iconst, ex_bipush, ex_sipush, ex_ldc, ex_ldcs, ex_fconst, ex_dconst, ex_iload_n, ex_iload, ex_aload_n, ex_aload, ex_dload_n, ex_dload, ex_fload, ex_istore_n, ex_istore, ex_fstore, ex_dstore_n, ex_dstore, ex_astore_n, ex_astore, ex_iinc, ex_ginc, ex_pop_i, ex_pop_r, ex_dup_i, ex_dup_r, ex_dup_x1, ex_dup2, ex_iadd, ex_isub, ex_imul, ex_iand, ex_ior, ex_ixor, ex_ishl, ex_ishr, ex_idiv, ex_irem, ex_ineg, ex_i2l, ex_i2c, ex_i2b, ex_i2f, ex_i2d, ex_f2d, ex_fdiv, ex_ddiv, ex_lcmp, ex_dcmp, ex_getI, ex_getR, ex_putI, ex_putB, ex_putZ, ex_putR, ex_getsI, ex_getsR, ex_iald, ex_cald, ex_iast, ex_cast, ex_aast, ex_alen, ex_copy1, ex_copy2, ex_throw, ex_goto, ex_fall, ex_if_eq, ex_ic_eq, ex_if_ne, ex_ic_ne, ex_if_lt, ex_ic_lt, ex_if_ge, ex_ic_ge, ex_if_gt, ex_ic_gt, ex_if_le, ex_ic_le, ex_switch, ex_ireturn, ex_ireturn_z, ex_ireturn_b, ex_ireturn_c, ex_areturn, ex_freturn, ex_dreturn, ex_return, ex_is0, ex_is1, ex_is2, ex_is3, ex_is4, ex_is5, ex_is6, ex_is7, ex_iv1, ex_iv2, ex_iv3, ex_iv4, ex_iv5, ex_iv6, ex_iv7, ex_ip1, ex_ip2, ex_ip3, ex_ip4, ex_ip5, ex_ip6, ex_ip7, ex_iu1, ex_iu2, ex_iu3, ex_iu4, ex_iu5, ex_iu6, ex_iu7, List.getD_cons_zero, List.getD_cons_succ, List.set_cons_zero, List.set_cons_succ, isI_i, isA_r, isD_d, isF_f, GInc, ko_v, ko_n, cat_i2, cat_r2, cat_n2, cat_f2, cat_d2, cat_l2, Nat.zero_le, Nat.zero_add, Nat.le_refl, Nat.reduceAdd, Nat.reduceLeDiff, ne_eq, not_false_eq_true, Nat.reduceEqDiff, sI_mk, wI_mk, wCp_mk, Option.toList, List.nil_append, List.cons_append, kd_20, kd_21, kd_22, kd_23, kd_24, kd_25, kd_26, kd_27, kd_28, kd_29, kd_30, kd_31, kd_32, kd_33, kd_34, kd_35, kd_36, kd_37, kd_38, kd_39, kd_40, kd_41, kd_42, kd_43, kd_44, kd_45, kd_46, kd_47, kd_48, kd_49, kd_50, kd_51, kd_52, kd_53, kd_54, e1, jb35_1, B35_1, jb35_2, B35_2]
  by_cases h0 : b < 0
  · have : ¬ (0 : Int32) ≤ b := fun z => (lt_le_i.mpr z) h0
    simp [h0, this, ex_ireturn_z]
  · have h1 := lt_le_i.mp h0
    by_cases h2 : b < ik bs.length
    · have h3 : ¬ ik bs.length ≤ b := fun z => (lt_le_i.mpr z) h2
      simp [h0, h1, h2, h3, ex_ireturn_z]
    · have h3 := lt_le_i.mp h2
      simp [h0, h1, h2, h3, ex_ireturn_z]
end Data
