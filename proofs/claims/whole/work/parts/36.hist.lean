/-! the history: a ring of eight data -/
def hix (nx j : Nat) : Nat := 3 + (nx + 15 - j) % 8
def LayH (f : SF) (nx : Nat) (hs : List Dt) : Prop := nx < 8 ∧ f 6 0 1 = ik nx ∧ f 6 0 2 = ik hs.length ∧ hs.length ≤ 8 ∧ ∀ j D, hs[j]? = some D → LayD f (hix nx j) D
theorem LayH.fr {f f' : SF} {nx : Nat} {hs : List Dt} (h : LayH f nx hs) (h6 : ∀ k, f' 6 0 k = f 6 0 k) (hd : ∀ j D, 3 ≤ j → LayD f j D → LayD f' j D) : LayH f' nx hs :=
  ⟨h.1, (h6 1).trans h.2.1, (h6 2).trans h.2.2.1, h.2.2.2.1, fun j D hj => hd _ D (by unfold hix; omega) (h.2.2.2.2 j D hj)⟩
theorem rem8 : ∀ n, n < 17 → ik n - ik n / 8 * 8 = ik (n % 8) := by decide
def tgH (t : Nat) : Bool := tgD t || decide (t = 6)
section Hist
variable {d i : Nat} {f : SF} {r : SR} {s : St} {Q : Ot → St → Prop}
theorem sR32 {k : Nat} (hS : Stt r) (hk : k < 8) : sR (f, r) 32 0 k = vr 1 (3 + k) := hS.2.2 k hk
theorem imin8 {n : Nat} (h : n ≤ 8) : imin (ik n + 1) 8 = ik (min (n + 1) 8) := by
  unfold imin
  rw [ik_succ, show (8 : Int32) = ik 8 from rfl]
  have hc := ik_le (a := n + 1) (b := 8) (by omega) (by omega)
  by_cases h1 : n + 1 ≤ 8
  · rw [if_pos (hc.mpr h1), Nat.min_eq_left h1]
  · rw [if_neg (fun z => h1 (hc.mp z)), Nat.min_eq_right (by omega)]
theorem keep_ok (hS : Stt r) {D : Dt} {nx : Nat} {hs : List Dt} (hi : i < 3) (h : LayD f i D) (hH : LayH f nx hs)
    (hq : ∀ f', LayH f' ((nx + 1) % 8) ((D :: hs).take 8) → (∀ t j k, (tgH t = false ∨ j ≠ 0 ∧ j < 3 ∨ j = 0 ∧ t ≠ 6) → f' t j k = f t j k) → Q (.inl none) (f', r)) : Cl (d + 3) 66 [vr 6 0, vr 1 i] (f, r) Q := by
  obtain ⟨h1, h2, h3, h4, h5⟩ := hH
  have hG := hS.2.1
  have hE := hS.1 i (by omega)
  have hD := hS.1 (3 + nx) (by omega)
  have hi1 : inb (ik nx) 8 := (inb_ik (by omega)).mpr h1
  have hx1 : ix (ik nx) = nx := ix_ik (by omega)
  have ha : sR (f, r) 32 0 (ix (ik nx)) = vr 1 (3 + nx) := by rw [hx1]; exact sR32 hS h1
  rw [en66]
  simp only [B66_0, ex_iconst, ex_bipush, ex_sipush, ex_ldc, ex_ldcs, ex_fconst, ex_dconst, ex_iload_n, ex_iload, ex_aload_n, ex_aload, ex_dload_n, ex_dload, ex_fload, ex_istore_n, ex_istore, ex_fstore, ex_dstore_n, ex_dstore, ex_astore_n, ex_astore, ex_iinc, ex_ginc, ex_pop_i, ex_pop_r, ex_dup_i, ex_dup_r, ex_dup_x1, ex_dup2, ex_iadd, ex_isub, ex_imul, ex_iand, ex_ior, ex_ixor, ex_ishl, ex_ishr, ex_idiv, ex_irem, ex_ineg, ex_i2l, ex_i2c, ex_i2b, ex_i2f, ex_i2d, ex_f2d, ex_fdiv, ex_ddiv, ex_lcmp, ex_dcmp, ex_getI, ex_getR, ex_putI, ex_putB, ex_putZ, ex_putR, ex_getsI, ex_getsR, ex_iald, ex_cald, ex_iast, ex_cast, ex_aast, ex_alen, ex_copy1, ex_copy2, ex_throw, ex_goto, ex_fall, ex_if_eq, ex_ic_eq, ex_if_ne, ex_ic_ne, ex_if_lt, ex_ic_lt, ex_if_ge, ex_ic_ge, ex_if_gt, ex_ic_gt, ex_if_le, ex_ic_le, ex_switch, ex_ireturn, ex_ireturn_z, ex_ireturn_b, ex_ireturn_c, ex_areturn, ex_freturn, ex_dreturn, ex_return, ex_is0, ex_is1, ex_is2, ex_is3, ex_is4, ex_is5, ex_is6, ex_is7, ex_iv1, ex_iv2, ex_iv3, ex_iv4, ex_iv5, ex_iv6, ex_iv7, ex_ip1, ex_ip2, ex_ip3, ex_ip4, ex_ip5, ex_ip6, ex_ip7, ex_iu1, ex_iu2, ex_iu3, ex_iu4, ex_iu5, ex_iu6, ex_iu7, List.getD_cons_zero, List.getD_cons_succ, List.set_cons_zero, List.set_cons_succ, isI_i, isA_r, isD_d, isF_f, GInc, ko_v, ko_n, cat_i2, cat_r2, cat_n2, cat_f2, cat_d2, cat_l2, Nat.zero_le, Nat.zero_add, Nat.le_refl, Nat.reduceAdd, Nat.reduceLeDiff, ne_eq, not_false_eq_true, Nat.reduceEqDiff, sI_mk, wI_mk, wCp_mk, Option.toList, List.nil_append, List.cons_append, kd_20, kd_21, kd_22, kd_23, kd_24, kd_25, kd_26, kd_27, kd_28, kd_29, kd_30, kd_31, kd_32, kd_33, kd_34, kd_35, kd_36, kd_37, kd_38, kd_39, kd_40, kd_41, kd_42, kd_43, kd_44, kd_45, kd_46, kd_47, kd_48, kd_49, kd_50, kd_51, kd_52, kd_53, kd_54, rg0_0 hG, rg0_1 hG, rg0_2 hG, rg0_4 hG, rg0_5 hG, rg0_6 hG, rg0_7 hG, rg0_8 hG, rg6_0 hG, rg8_0 hG, rg8_1 hG, rg8_4 hG, rg8_5 hG, rg8_6 hG, rg8_7 hG, rg9_0 hG, rg9_2 hG, rg9_3 hG, rg11_0 hG, rg11_1 hG, rg11_2 hG, rg11_3 hG, rg11_4 hG, rg11_5 hG, rg11_15 hG, rg11_17 hG, rg11_18 hG, rg11_19 hG, rl32 hG, rl33 hG, rl34 hG, rl35 hG, rl36 hG, rl37 hG, rl38 hG, rl39 hG, rl40 hG, rl41 hG, rl43 hG, rl44 hG, rl45 hG, rl46 hG, rl47 hG, rl48 hG, rl49 hG, rl50 hG, rl51 hG, rl52 hG, h2]
  refine (ex_aald (t := 32) (i := 0) (t2 := 1) (i2 := 3 + nx) kd_32 (by rw [rl32 hG]; exact hi1) ha).mpr ?_
  simp only [ex_iconst, ex_bipush, ex_sipush, ex_ldc, ex_ldcs, ex_fconst, ex_dconst, ex_iload_n, ex_iload, ex_aload_n, ex_aload, ex_dload_n, ex_dload, ex_fload, ex_istore_n, ex_istore, ex_fstore, ex_dstore_n, ex_dstore, ex_astore_n, ex_astore, ex_iinc, ex_ginc, ex_pop_i, ex_pop_r, ex_dup_i, ex_dup_r, ex_dup_x1, ex_dup2, ex_iadd, ex_isub, ex_imul, ex_iand, ex_ior, ex_ixor, ex_ishl, ex_ishr, ex_idiv, ex_irem, ex_ineg, ex_i2l, ex_i2c, ex_i2b, ex_i2f, ex_i2d, ex_f2d, ex_fdiv, ex_ddiv, ex_lcmp, ex_dcmp, ex_getI, ex_getR, ex_putI, ex_putB, ex_putZ, ex_putR, ex_getsI, ex_getsR, ex_iald, ex_cald, ex_iast, ex_cast, ex_aast, ex_alen, ex_copy1, ex_copy2, ex_throw, ex_goto, ex_fall, ex_if_eq, ex_ic_eq, ex_if_ne, ex_ic_ne, ex_if_lt, ex_ic_lt, ex_if_ge, ex_ic_ge, ex_if_gt, ex_ic_gt, ex_if_le, ex_ic_le, ex_switch, ex_ireturn, ex_ireturn_z, ex_ireturn_b, ex_ireturn_c, ex_areturn, ex_freturn, ex_dreturn, ex_return, ex_is0, ex_is1, ex_is2, ex_is3, ex_is4, ex_is5, ex_is6, ex_is7, ex_iv1, ex_iv2, ex_iv3, ex_iv4, ex_iv5, ex_iv6, ex_iv7, ex_ip1, ex_ip2, ex_ip3, ex_ip4, ex_ip5, ex_ip6, ex_ip7, ex_iu1, ex_iu2, ex_iu3, ex_iu4, ex_iu5, ex_iu6, ex_iu7, List.getD_cons_zero, List.getD_cons_succ, List.set_cons_zero, List.set_cons_succ, isI_i, isA_r, isD_d, isF_f, GInc, ko_v, ko_n, cat_i2, cat_r2, cat_n2, cat_f2, cat_d2, cat_l2, Nat.zero_le, Nat.zero_add, Nat.le_refl, Nat.reduceAdd, Nat.reduceLeDiff, ne_eq, not_false_eq_true, Nat.reduceEqDiff, sI_mk, wI_mk, wCp_mk, Option.toList, List.nil_append, List.cons_append, kd_20, kd_21, kd_22, kd_23, kd_24, kd_25, kd_26, kd_27, kd_28, kd_29, kd_30, kd_31, kd_32, kd_33, kd_34, kd_35, kd_36, kd_37, kd_38, kd_39, kd_40, kd_41, kd_42, kd_43, kd_44, kd_45, kd_46, kd_47, kd_48, kd_49, kd_50, kd_51, kd_52, kd_53, kd_54]
  refine dcp_ok hD hE h (by omega) (fun f1 g1 F1 => ?_)
  have e1 : f1 6 0 1 = ik nx := (F1 _ _ _ (Or.inl rfl)).trans h2
  have e2 : f1 6 0 2 = ik hs.length := (F1 _ _ _ (Or.inl rfl)).trans h3
  simp only [ex_iconst, ex_bipush, ex_sipush, ex_ldc, ex_ldcs, ex_fconst, ex_dconst, ex_iload_n, ex_iload, ex_aload_n, ex_aload, ex_dload_n, ex_dload, ex_fload, ex_istore_n, ex_istore, ex_fstore, ex_dstore_n, ex_dstore, ex_astore_n, ex_astore, ex_iinc, ex_ginc, ex_pop_i, ex_pop_r, ex_dup_i, ex_dup_r, ex_dup_x1, ex_dup2, ex_iadd, ex_isub, ex_imul, ex_iand, ex_ior, ex_ixor, ex_ishl, ex_ishr, ex_idiv, ex_irem, ex_ineg, ex_i2l, ex_i2c, ex_i2b, ex_i2f, ex_i2d, ex_f2d, ex_fdiv, ex_ddiv, ex_lcmp, ex_dcmp, ex_getI, ex_getR, ex_putI, ex_putB, ex_putZ, ex_putR, ex_getsI, ex_getsR, ex_iald, ex_cald, ex_iast, ex_cast, ex_aast, ex_alen, ex_copy1, ex_copy2, ex_throw, ex_goto, ex_fall, ex_if_eq, ex_ic_eq, ex_if_ne, ex_ic_ne, ex_if_lt, ex_ic_lt, ex_if_ge, ex_ic_ge, ex_if_gt, ex_ic_gt, ex_if_le, ex_ic_le, ex_switch, ex_ireturn, ex_ireturn_z, ex_ireturn_b, ex_ireturn_c, ex_areturn, ex_freturn, ex_dreturn, ex_return, ex_is0, ex_is1, ex_is2, ex_is3, ex_is4, ex_is5, ex_is6, ex_is7, ex_iv1, ex_iv2, ex_iv3, ex_iv4, ex_iv5, ex_iv6, ex_iv7, ex_ip1, ex_ip2, ex_ip3, ex_ip4, ex_ip5, ex_ip6, ex_ip7, ex_iu1, ex_iu2, ex_iu3, ex_iu4, ex_iu5, ex_iu6, ex_iu7, List.getD_cons_zero, List.getD_cons_succ, List.set_cons_zero, List.set_cons_succ, isI_i, isA_r, isD_d, isF_f, GInc, ko_v, ko_n, cat_i2, cat_r2, cat_n2, cat_f2, cat_d2, cat_l2, Nat.zero_le, Nat.zero_add, Nat.le_refl, Nat.reduceAdd, Nat.reduceLeDiff, ne_eq, not_false_eq_true, Nat.reduceEqDiff, sI_mk, wI_mk, wCp_mk, Option.toList, List.nil_append, List.cons_append, kd_20, kd_21, kd_22, kd_23, kd_24, kd_25, kd_26, kd_27, kd_28, kd_29, kd_30, kd_31, kd_32, kd_33, kd_34, kd_35, kd_36, kd_37, kd_38, kd_39, kd_40, kd_41, kd_42, kd_43, kd_44, kd_45, kd_46, kd_47, kd_48, kd_49, kd_50, kd_51, kd_52, kd_53, kd_54, ne2, ne8, ne10, ne12, e1, ik_succ, rem8 (nx + 1) (by omega), up3_at, Nat.reduceEqDiff, false_and, and_false, and_true, true_and, and_self, eq_self, reduceIte, if_true, if_false, e2]
  rw [← ik_succ]
  simp only [min_ok, imin8 h4, ex_iconst, ex_bipush, ex_sipush, ex_ldc, ex_ldcs, ex_fconst, ex_dconst, ex_iload_n, ex_iload, ex_aload_n, ex_aload, ex_dload_n, ex_dload, ex_fload, ex_istore_n, ex_istore, ex_fstore, ex_dstore_n, ex_dstore, ex_astore_n, ex_astore, ex_iinc, ex_ginc, ex_pop_i, ex_pop_r, ex_dup_i, ex_dup_r, ex_dup_x1, ex_dup2, ex_iadd, ex_isub, ex_imul, ex_iand, ex_ior, ex_ixor, ex_ishl, ex_ishr, ex_idiv, ex_irem, ex_ineg, ex_i2l, ex_i2c, ex_i2b, ex_i2f, ex_i2d, ex_f2d, ex_fdiv, ex_ddiv, ex_lcmp, ex_dcmp, ex_getI, ex_getR, ex_putI, ex_putB, ex_putZ, ex_putR, ex_getsI, ex_getsR, ex_iald, ex_cald, ex_iast, ex_cast, ex_aast, ex_alen, ex_copy1, ex_copy2, ex_throw, ex_goto, ex_fall, ex_if_eq, ex_ic_eq, ex_if_ne, ex_ic_ne, ex_if_lt, ex_ic_lt, ex_if_ge, ex_ic_ge, ex_if_gt, ex_ic_gt, ex_if_le, ex_ic_le, ex_switch, ex_ireturn, ex_ireturn_z, ex_ireturn_b, ex_ireturn_c, ex_areturn, ex_freturn, ex_dreturn, ex_return, ex_is0, ex_is1, ex_is2, ex_is3, ex_is4, ex_is5, ex_is6, ex_is7, ex_iv1, ex_iv2, ex_iv3, ex_iv4, ex_iv5, ex_iv6, ex_iv7, ex_ip1, ex_ip2, ex_ip3, ex_ip4, ex_ip5, ex_ip6, ex_ip7, ex_iu1, ex_iu2, ex_iu3, ex_iu4, ex_iu5, ex_iu6, ex_iu7, List.getD_cons_zero, List.getD_cons_succ, List.set_cons_zero, List.set_cons_succ, isI_i, isA_r, isD_d, isF_f, GInc, ko_v, ko_n, cat_i2, cat_r2, cat_n2, cat_f2, cat_d2, cat_l2, Nat.zero_le, Nat.zero_add, Nat.le_refl, Nat.reduceAdd, Nat.reduceLeDiff, ne_eq, not_false_eq_true, Nat.reduceEqDiff, sI_mk, wI_mk, wCp_mk, Option.toList, List.nil_append, List.cons_append, kd_20, kd_21, kd_22, kd_23, kd_24, kd_25, kd_26, kd_27, kd_28, kd_29, kd_30, kd_31, kd_32, kd_33, kd_34, kd_35, kd_36, kd_37, kd_38, kd_39, kd_40, kd_41, kd_42, kd_43, kd_44, kd_45, kd_46, kd_47, kd_48, kd_49, kd_50, kd_51, kd_52, kd_53, kd_54]
  refine hq _ ⟨Nat.mod_lt _ (by decide), by simp [up3], ?_, by simp; omega, fun j D2 hj => ?_⟩ ?_
  · rw [List.length_take, List.length_cons]
    simp [up3, Nat.min_comm]
  · have up6 : ∀ {f : SF} {j k : Nat} {v : Int32} {D : Dt}, LayD f j D → LayD (up3 f 6 0 k v) j D := by
      intro f j k v D h
      by_cases hj : j = 0
      · subst hj
        exact h.fr1 (P := fun t => decide (t = 6)) (Fr.up rfl) (by intro t ht; simp; omega)
      · exact h.ne (P := fun t => decide (t = 6)) (Fr.up rfl) hj
    refine up6 (up6 ?_)
    cases j with
    | zero =>
      have : D = D2 := by simpa using hj
      subst this
      have : hix ((nx + 1) % 8) 0 = 3 + nx := by unfold hix; omega
      rw [this]
      exact g1
    | succ j =>
      rw [List.getElem?_take] at hj
      split at hj
      · rename_i h8
        rw [List.getElem?_cons_succ] at hj
        have : hix ((nx + 1) % 8) (j + 1) = hix nx j := by unfold hix; omega
        rw [this]
        exact (h5 j D2 hj).ne F1 (by unfold hix; omega)
      · cases hj
  · intro t j k hc
    have e : f1 t j k = f t j k := F1 t j k (by
      rcases hc with hc | hc | hc
      · left
        unfold tgH at hc
        simp at hc
        exact hc.1
      · exact Or.inr (by omega)
      · exact Or.inr (by omega))
    rw [← e]
    have hne : ¬ (t = 6 ∧ j = 0) := by
      rintro ⟨rfl, rfl⟩
      rcases hc with hc | hc | hc
      · revert hc; decide
      · omega
      · omega
    unfold up3
    rw [if_neg (fun z => hne ⟨z.1, z.2.1⟩), if_neg (fun z => hne ⟨z.1, z.2.1⟩)]
theorem back_ok (hS : Stt r) {D : Dt} {nx : Nat} {hs : List Dt} (hH : LayH f nx (D :: hs))
    (hq : ∀ f', LayD f' 0 D → LayH f' ((nx + 7) % 8) hs → (∀ t j k, (tgH t = false ∨ j ≠ 0) → f' t j k = f t j k) → Q (.inl none) (f', r)) : Cl (d + 3) 67 [vr 6 0, vr 1 0] (f, r) Q := by
  obtain ⟨h1, h2, h3, h4, h5⟩ := hH
  have hG := hS.2.1
  have hm : (nx + 7) % 8 < 8 := Nat.mod_lt _ (by decide)
  have hE := hS.1 (3 + (nx + 7) % 8) (by omega)
  have hD := hS.1 0 (by omega)
  have hi1 : inb (ik ((nx + 7) % 8)) 8 := (inb_ik (by omega)).mpr hm
  have hx1 : ix (ik ((nx + 7) % 8)) = (nx + 7) % 8 := ix_ik (by omega)
  have h0 : LayD f (3 + (nx + 7) % 8) D := by
    have := h5 0 D rfl
    have e : hix nx 0 = 3 + (nx + 7) % 8 := by unfold hix; omega
    rw [e] at this
    exact this
  have e8 : ik nx + 8 - 1 = ik (nx + 7) := by rw [show (8 : Int32) = ik 8 from rfl, ik_add, ik_1, ik_sub (by omega)]; rfl
  have up6 : ∀ {f : SF} {j k : Nat} {v : Int32} {D : Dt}, LayD f j D → LayD (up3 f 6 0 k v) j D := by
    intro f j k v D h
    by_cases hj : j = 0
    · subst hj
      exact h.fr1 (P := fun t => decide (t = 6)) (Fr.up rfl) (by intro t ht; simp; omega)
    · exact h.ne (P := fun t => decide (t = 6)) (Fr.up rfl) hj
  rw [en67]
  simp only [B67_0, ex_iconst, ex_bipush, ex_sipush, ex_ldc, ex_ldcs, ex_fconst, ex_dconst, ex_iload_n, ex_iload, ex_aload_n, ex_aload, ex_dload_n, ex_dload, ex_fload, ex_istore_n, ex_istore, ex_fstore, ex_dstore_n, ex_dstore, ex_astore_n, ex_astore, ex_iinc, ex_ginc, ex_pop_i, ex_pop_r, ex_dup_i, ex_dup_r, ex_dup_x1, ex_dup2, ex_iadd, ex_isub, ex_imul, ex_iand, ex_ior, ex_ixor, ex_ishl, ex_ishr, ex_idiv, ex_irem, ex_ineg, ex_i2l, ex_i2c, ex_i2b, ex_i2f, ex_i2d, ex_f2d, ex_fdiv, ex_ddiv, ex_lcmp, ex_dcmp, ex_getI, ex_getR, ex_putI, ex_putB, ex_putZ, ex_putR, ex_getsI, ex_getsR, ex_iald, ex_cald, ex_iast, ex_cast, ex_aast, ex_alen, ex_copy1, ex_copy2, ex_throw, ex_goto, ex_fall, ex_if_eq, ex_ic_eq, ex_if_ne, ex_ic_ne, ex_if_lt, ex_ic_lt, ex_if_ge, ex_ic_ge, ex_if_gt, ex_ic_gt, ex_if_le, ex_ic_le, ex_switch, ex_ireturn, ex_ireturn_z, ex_ireturn_b, ex_ireturn_c, ex_areturn, ex_freturn, ex_dreturn, ex_return, ex_is0, ex_is1, ex_is2, ex_is3, ex_is4, ex_is5, ex_is6, ex_is7, ex_iv1, ex_iv2, ex_iv3, ex_iv4, ex_iv5, ex_iv6, ex_iv7, ex_ip1, ex_ip2, ex_ip3, ex_ip4, ex_ip5, ex_ip6, ex_ip7, ex_iu1, ex_iu2, ex_iu3, ex_iu4, ex_iu5, ex_iu6, ex_iu7, List.getD_cons_zero, List.getD_cons_succ, List.set_cons_zero, List.set_cons_succ, isI_i, isA_r, isD_d, isF_f, GInc, ko_v, ko_n, cat_i2, cat_r2, cat_n2, cat_f2, cat_d2, cat_l2, Nat.zero_le, Nat.zero_add, Nat.le_refl, Nat.reduceAdd, Nat.reduceLeDiff, ne_eq, not_false_eq_true, Nat.reduceEqDiff, sI_mk, wI_mk, wCp_mk, Option.toList, List.nil_append, List.cons_append, kd_20, kd_21, kd_22, kd_23, kd_24, kd_25, kd_26, kd_27, kd_28, kd_29, kd_30, kd_31, kd_32, kd_33, kd_34, kd_35, kd_36, kd_37, kd_38, kd_39, kd_40, kd_41, kd_42, kd_43, kd_44, kd_45, kd_46, kd_47, kd_48, kd_49, kd_50, kd_51, kd_52, kd_53, kd_54, ne2, ne8, ne10, ne12, h2, e8, rem8 (nx + 7) (by omega), rg0_0 hG, rg0_1 hG, rg0_2 hG, rg0_4 hG, rg0_5 hG, rg0_6 hG, rg0_7 hG, rg0_8 hG, rg6_0 hG, rg8_0 hG, rg8_1 hG, rg8_4 hG, rg8_5 hG, rg8_6 hG, rg8_7 hG, rg9_0 hG, rg9_2 hG, rg9_3 hG, rg11_0 hG, rg11_1 hG, rg11_2 hG, rg11_3 hG, rg11_4 hG, rg11_5 hG, rg11_15 hG, rg11_17 hG, rg11_18 hG, rg11_19 hG, rl32 hG, rl33 hG, rl34 hG, rl35 hG, rl36 hG, rl37 hG, rl38 hG, rl39 hG, rl40 hG, rl41 hG, rl43 hG, rl44 hG, rl45 hG, rl46 hG, rl47 hG, rl48 hG, rl49 hG, rl50 hG, rl51 hG, rl52 hG, up3_at, Nat.reduceEqDiff, false_and, and_false, and_true, true_and, and_self, eq_self, reduceIte, if_true, if_false]
  refine (ex_aald (t := 32) (i := 0) (t2 := 1) (i2 := 3 + (nx + 7) % 8) kd_32 (by rw [rl32 hG]; exact hi1) (by rw [hx1]; exact sR32 hS hm)).mpr ?_
  simp only [ex_iconst, ex_bipush, ex_sipush, ex_ldc, ex_ldcs, ex_fconst, ex_dconst, ex_iload_n, ex_iload, ex_aload_n, ex_aload, ex_dload_n, ex_dload, ex_fload, ex_istore_n, ex_istore, ex_fstore, ex_dstore_n, ex_dstore, ex_astore_n, ex_astore, ex_iinc, ex_ginc, ex_pop_i, ex_pop_r, ex_dup_i, ex_dup_r, ex_dup_x1, ex_dup2, ex_iadd, ex_isub, ex_imul, ex_iand, ex_ior, ex_ixor, ex_ishl, ex_ishr, ex_idiv, ex_irem, ex_ineg, ex_i2l, ex_i2c, ex_i2b, ex_i2f, ex_i2d, ex_f2d, ex_fdiv, ex_ddiv, ex_lcmp, ex_dcmp, ex_getI, ex_getR, ex_putI, ex_putB, ex_putZ, ex_putR, ex_getsI, ex_getsR, ex_iald, ex_cald, ex_iast, ex_cast, ex_aast, ex_alen, ex_copy1, ex_copy2, ex_throw, ex_goto, ex_fall, ex_if_eq, ex_ic_eq, ex_if_ne, ex_ic_ne, ex_if_lt, ex_ic_lt, ex_if_ge, ex_ic_ge, ex_if_gt, ex_ic_gt, ex_if_le, ex_ic_le, ex_switch, ex_ireturn, ex_ireturn_z, ex_ireturn_b, ex_ireturn_c, ex_areturn, ex_freturn, ex_dreturn, ex_return, ex_is0, ex_is1, ex_is2, ex_is3, ex_is4, ex_is5, ex_is6, ex_is7, ex_iv1, ex_iv2, ex_iv3, ex_iv4, ex_iv5, ex_iv6, ex_iv7, ex_ip1, ex_ip2, ex_ip3, ex_ip4, ex_ip5, ex_ip6, ex_ip7, ex_iu1, ex_iu2, ex_iu3, ex_iu4, ex_iu5, ex_iu6, ex_iu7, List.getD_cons_zero, List.getD_cons_succ, List.set_cons_zero, List.set_cons_succ, isI_i, isA_r, isD_d, isF_f, GInc, ko_v, ko_n, cat_i2, cat_r2, cat_n2, cat_f2, cat_d2, cat_l2, Nat.zero_le, Nat.zero_add, Nat.le_refl, Nat.reduceAdd, Nat.reduceLeDiff, ne_eq, not_false_eq_true, Nat.reduceEqDiff, sI_mk, wI_mk, wCp_mk, Option.toList, List.nil_append, List.cons_append, kd_20, kd_21, kd_22, kd_23, kd_24, kd_25, kd_26, kd_27, kd_28, kd_29, kd_30, kd_31, kd_32, kd_33, kd_34, kd_35, kd_36, kd_37, kd_38, kd_39, kd_40, kd_41, kd_42, kd_43, kd_44, kd_45, kd_46, kd_47, kd_48, kd_49, kd_50, kd_51, kd_52, kd_53, kd_54]
  refine dcp_ok hD hE (up6 h0) (by omega) (fun f1 g1 F1 => ?_)
  have e2 : f1 6 0 2 = ik (hs.length + 1) := by
    rw [F1 _ _ _ (Or.inl rfl)]
    show up3 f 6 0 1 _ 6 0 2 = _
    rw [up3_at, if_neg (by omega)]
    exact h3
  have e1 : f1 6 0 1 = ik ((nx + 7) % 8) := by
    rw [F1 _ _ _ (Or.inl rfl)]
    simp [up3]
  simp only [ex_iconst, ex_bipush, ex_sipush, ex_ldc, ex_ldcs, ex_fconst, ex_dconst, ex_iload_n, ex_iload, ex_aload_n, ex_aload, ex_dload_n, ex_dload, ex_fload, ex_istore_n, ex_istore, ex_fstore, ex_dstore_n, ex_dstore, ex_astore_n, ex_astore, ex_iinc, ex_ginc, ex_pop_i, ex_pop_r, ex_dup_i, ex_dup_r, ex_dup_x1, ex_dup2, ex_iadd, ex_isub, ex_imul, ex_iand, ex_ior, ex_ixor, ex_ishl, ex_ishr, ex_idiv, ex_irem, ex_ineg, ex_i2l, ex_i2c, ex_i2b, ex_i2f, ex_i2d, ex_f2d, ex_fdiv, ex_ddiv, ex_lcmp, ex_dcmp, ex_getI, ex_getR, ex_putI, ex_putB, ex_putZ, ex_putR, ex_getsI, ex_getsR, ex_iald, ex_cald, ex_iast, ex_cast, ex_aast, ex_alen, ex_copy1, ex_copy2, ex_throw, ex_goto, ex_fall, ex_if_eq, ex_ic_eq, ex_if_ne, ex_ic_ne, ex_if_lt, ex_ic_lt, ex_if_ge, ex_ic_ge, ex_if_gt, ex_ic_gt, ex_if_le, ex_ic_le, ex_switch, ex_ireturn, ex_ireturn_z, ex_ireturn_b, ex_ireturn_c, ex_areturn, ex_freturn, ex_dreturn, ex_return, ex_is0, ex_is1, ex_is2, ex_is3, ex_is4, ex_is5, ex_is6, ex_is7, ex_iv1, ex_iv2, ex_iv3, ex_iv4, ex_iv5, ex_iv6, ex_iv7, ex_ip1, ex_ip2, ex_ip3, ex_ip4, ex_ip5, ex_ip6, ex_ip7, ex_iu1, ex_iu2, ex_iu3, ex_iu4, ex_iu5, ex_iu6, ex_iu7, List.getD_cons_zero, List.getD_cons_succ, List.set_cons_zero, List.set_cons_succ, isI_i, isA_r, isD_d, isF_f, GInc, ko_v, ko_n, cat_i2, cat_r2, cat_n2, cat_f2, cat_d2, cat_l2, Nat.zero_le, Nat.zero_add, Nat.le_refl, Nat.reduceAdd, Nat.reduceLeDiff, ne_eq, not_false_eq_true, Nat.reduceEqDiff, sI_mk, wI_mk, wCp_mk, Option.toList, List.nil_append, List.cons_append, kd_20, kd_21, kd_22, kd_23, kd_24, kd_25, kd_26, kd_27, kd_28, kd_29, kd_30, kd_31, kd_32, kd_33, kd_34, kd_35, kd_36, kd_37, kd_38, kd_39, kd_40, kd_41, kd_42, kd_43, kd_44, kd_45, kd_46, kd_47, kd_48, kd_49, kd_50, kd_51, kd_52, kd_53, kd_54, e2]
  rw [ik_pred (show 1 ≤ hs.length + 1 by omega), Nat.add_sub_cancel]
  have h4b : hs.length + 1 ≤ 8 := h4
  refine hq _ (up6 g1) ⟨hm, ?_, by simp [up3], by omega, fun j D2 hj => ?_⟩ ?_
  · simp [up3, e1]
  · refine up6 (LayD.ne (up6 ?_) F1 (by unfold hix; omega))
    have e : hix ((nx + 7) % 8) j = hix nx (j + 1) := by
      have := (List.getElem?_eq_some_iff.mp hj).1
      unfold hix
      omega
    rw [e]
    exact h5 (j + 1) D2 (by simpa using hj)
  · intro t j k hc
    have hne : ¬ (t = 6 ∧ j = 0) := by
      rintro ⟨rfl, rfl⟩
      rcases hc with hc | hc
      · revert hc; decide
      · omega
    unfold up3
    rw [if_neg (fun z => hne ⟨z.1, z.2.1⟩), F1 t j k (by
      rcases hc with hc | hc
      · left
        unfold tgH at hc
        simp at hc
        exact hc.1
      · exact Or.inr (by omega))]
    unfold up3
    rw [if_neg (fun z => hne ⟨z.1, z.2.1⟩)]
theorem clr_ok : Cl (d + 1) 68 [vr 6 0] (f, r) Q ↔ Q (.inl none) (up3 f 6 0 2 0, r) := by
  rw [en68]
  simp only [B68_0, ex_iconst, ex_bipush, ex_sipush, ex_ldc, ex_ldcs, ex_fconst, ex_dconst, ex_iload_n, ex_iload, ex_aload_n, ex_aload, ex_dload_n, ex_dload, ex_fload, ex_istore_n, ex_istore, ex_fstore, ex_dstore_n, ex_dstore, ex_astore_n, ex_astore, ex_iinc, ex_ginc, ex_pop_i, ex_pop_r, ex_dup_i, ex_dup_r, ex_dup_x1, ex_dup2, ex_iadd, ex_isub, ex_imul, ex_iand, ex_ior, ex_ixor, ex_ishl, ex_ishr, ex_idiv, ex_irem, ex_ineg, ex_i2l, ex_i2c, ex_i2b, ex_i2f, ex_i2d, ex_f2d, ex_fdiv, ex_ddiv, ex_lcmp, ex_dcmp, ex_getI, ex_getR, ex_putI, ex_putB, ex_putZ, ex_putR, ex_getsI, ex_getsR, ex_iald, ex_cald, ex_iast, ex_cast, ex_aast, ex_alen, ex_copy1, ex_copy2, ex_throw, ex_goto, ex_fall, ex_if_eq, ex_ic_eq, ex_if_ne, ex_ic_ne, ex_if_lt, ex_ic_lt, ex_if_ge, ex_ic_ge, ex_if_gt, ex_ic_gt, ex_if_le, ex_ic_le, ex_switch, ex_ireturn, ex_ireturn_z, ex_ireturn_b, ex_ireturn_c, ex_areturn, ex_freturn, ex_dreturn, ex_return, ex_is0, ex_is1, ex_is2, ex_is3, ex_is4, ex_is5, ex_is6, ex_is7, ex_iv1, ex_iv2, ex_iv3, ex_iv4, ex_iv5, ex_iv6, ex_iv7, ex_ip1, ex_ip2, ex_ip3, ex_ip4, ex_ip5, ex_ip6, ex_ip7, ex_iu1, ex_iu2, ex_iu3, ex_iu4, ex_iu5, ex_iu6, ex_iu7, List.getD_cons_zero, List.getD_cons_succ, List.set_cons_zero, List.set_cons_succ, isI_i, isA_r, isD_d, isF_f, GInc, ko_v, ko_n, cat_i2, cat_r2, cat_n2, cat_f2, cat_d2, cat_l2, Nat.zero_le, Nat.zero_add, Nat.le_refl, Nat.reduceAdd, Nat.reduceLeDiff, ne_eq, not_false_eq_true, Nat.reduceEqDiff, sI_mk, wI_mk, wCp_mk, Option.toList, List.nil_append, List.cons_append, kd_20, kd_21, kd_22, kd_23, kd_24, kd_25, kd_26, kd_27, kd_28, kd_29, kd_30, kd_31, kd_32, kd_33, kd_34, kd_35, kd_36, kd_37, kd_38, kd_39, kd_40, kd_41, kd_42, kd_43, kd_44, kd_45, kd_46, kd_47, kd_48, kd_49, kd_50, kd_51, kd_52, kd_53, kd_54]
end Hist
