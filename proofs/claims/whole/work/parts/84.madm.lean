/-! the model made -/
def tgM (t : Nat) : Bool := decide (t = 11) || (decide (43 ≤ t) && decide (t ≤ 52))
def CtM (f : SF) (r : SR) (f' : SF) (r' : SR) : Prop := (r'.1 11 0 0 = vr 43 0 ∧ r'.1 11 0 1 = vr 44 0 ∧ r'.1 11 0 2 = vr 45 0 ∧ r'.1 11 0 3 = vr 46 0 ∧ r'.1 11 0 4 = vr 47 0 ∧ r'.1 11 0 5 = vr 48 0 ∧ r'.1 11 0 15 = vr 49 0 ∧ r'.1 11 0 17 = vr 50 0 ∧ r'.1 11 0 18 = vr 51 0 ∧ r'.1 11 0 19 = vr 52 0) ∧ (r'.2.2.2.1 43 0 = 304 ∧ r'.2.2.2.1 44 0 = 304 ∧ r'.2.2.2.1 45 0 = 304 ∧ r'.2.2.2.1 46 0 = 2432 ∧ r'.2.2.2.1 47 0 = 10 ∧ r'.2.2.2.1 48 0 = 84 ∧ r'.2.2.2.1 49 0 = 120 ∧ r'.2.2.2.1 50 0 = 60 ∧ r'.2.2.2.1 51 0 = 32 ∧ r'.2.2.2.1 52 0 = 128) ∧ (f' 11 0 6 = 0 ∧ f' 11 0 7 = 0 ∧ f' 11 0 8 = -1 ∧ f' 11 0 9 = 0 ∧ f' 11 0 10 = 0 ∧ f' 11 0 11 = 0 ∧ f' 11 0 14 = 0 ∧ f' 11 0 16 = 0 ∧ f' 11 0 20 = 0) ∧ RowM (f' 43 0) D0 ∧ FrN tgM 10 3778 f r f' r'
section Madm
variable {d : Nat} {f : SF} {r : SR} {s : St} {Q : Ot → St → Prop}
theorem prm_lp (h1 : r.1 11 0 0 = vr 43 0) (h2 : r.2.2.2.1 43 0 = 304) : ∀ (n k : Nat) (f : SF), k + n = 12 → (∀ f', (∀ j, k ≤ j → j < 12 → f' 43 0 (12 + j) = 10) → (∀ t b j, ¬ (t = 43 ∧ b = 0 ∧ 12 + k ≤ j ∧ j < 24) → f' t b j = f t b j) → Q (.inl none) (f', r)) → Jx d 178 1 [vr 11 0, vi (ik k)] [] (f, r) Q := by
  intro n
  induction n with
  | zero =>
    intro k f hk hq
    have : k = 12 := by omega
    subst this
    have hc : (12 : Int32) ≤ ik 12 := by decide
    rw [jb178_1]
    simp only [B178_1, ex_iconst, ex_bipush, ex_sipush, ex_ldc, ex_ldcs, ex_fconst, ex_dconst, ex_iload_n, ex_iload, ex_aload_n, ex_aload, ex_dload_n, ex_dload, ex_fload, ex_istore_n, ex_istore, ex_fstore, ex_dstore_n, ex_dstore, ex_astore_n, ex_astore, ex_iinc, ex_ginc, ex_pop_i, ex_pop_r, ex_dup_i, ex_dup_r, ex_dup_x1, ex_dup2, ex_iadd, ex_isub, ex_imul, ex_iand, ex_ior, ex_ixor, ex_ishl, ex_ishr, ex_idiv, ex_irem, ex_ineg, ex_i2l, ex_i2c, ex_i2b, ex_i2f, ex_i2d, ex_f2d, ex_fdiv, ex_ddiv, ex_lcmp, ex_dcmp, ex_getI, ex_getR, ex_putI, ex_putB, ex_putZ, ex_putR, ex_getsI, ex_getsR, ex_iald, ex_cald, ex_iast, ex_cast, ex_aast, ex_alen, ex_copy1, ex_copy2, ex_throw, ex_goto, ex_fall, ex_if_eq, ex_ic_eq, ex_if_ne, ex_ic_ne, ex_if_lt, ex_ic_lt, ex_if_ge, ex_ic_ge, ex_if_gt, ex_ic_gt, ex_if_le, ex_ic_le, ex_switch, ex_ireturn, ex_ireturn_z, ex_ireturn_b, ex_ireturn_c, ex_areturn, ex_freturn, ex_dreturn, ex_return, ex_is0, ex_is1, ex_is2, ex_is3, ex_is4, ex_is5, ex_is6, ex_is7, ex_iv1, ex_iv2, ex_iv3, ex_iv4, ex_iv5, ex_iv6, ex_iv7, ex_ip1, ex_ip2, ex_ip3, ex_ip4, ex_ip5, ex_ip6, ex_ip7, ex_iu1, ex_iu2, ex_iu3, ex_iu4, ex_iu5, ex_iu6, ex_iu7, List.getD_cons_zero, List.getD_cons_succ, List.set_cons_zero, List.set_cons_succ, isI_i, isA_r, isD_d, isF_f, GInc, ko_v, ko_n, cat_i2, cat_r2, cat_n2, cat_f2, cat_d2, cat_l2, Nat.zero_le, Nat.zero_add, Nat.le_refl, Nat.reduceAdd, Nat.reduceLeDiff, ne_eq, not_false_eq_true, Nat.reduceEqDiff, sI_mk, wI_mk, wCp_mk, Option.toList, List.nil_append, List.cons_append, kd_20, kd_21, kd_22, kd_23, kd_24, kd_25, kd_26, kd_27, kd_28, kd_29, kd_30, kd_31, kd_32, kd_33, kd_34, kd_35, kd_36, kd_37, kd_38, kd_39, kd_40, kd_41, kd_42, kd_43, kd_44, kd_45, kd_46, kd_47, kd_48, kd_49, kd_50, kd_51, kd_52, kd_53, kd_54, hc, if_true, jb178_2, B178_2]
    exact hq f (fun j a b => by omega) (fun _ _ _ _ => rfl)
  | succ n ih =>
    intro k f hk hq
    have hc : ¬ (12 : Int32) ≤ ik k := by rw [show (12 : Int32) = ik 12 from rfl, ik_le (by decide) (by omega)]; omega
    have e1 : sR (f, r) 11 0 0 = vr 43 0 := h1
    have e2 : sL (f, r) 43 0 = 304 := h2
    have ea : (12 : Int32) + ik k = ik (12 + k) := ik_add (a := 12)
    have i1 : inb (ik (12 + k)) 304 := (inb_ik (by omega)).mpr (by omega)
    have x1 : ix (ik (12 + k)) = 12 + k := ix_ik (by omega)
    rw [jb178_1]
    simp only [B178_1, ex_iconst, ex_bipush, ex_sipush, ex_ldc, ex_ldcs, ex_fconst, ex_dconst, ex_iload_n, ex_iload, ex_aload_n, ex_aload, ex_dload_n, ex_dload, ex_fload, ex_istore_n, ex_istore, ex_fstore, ex_dstore_n, ex_dstore, ex_astore_n, ex_astore, ex_iinc, ex_ginc, ex_pop_i, ex_pop_r, ex_dup_i, ex_dup_r, ex_dup_x1, ex_dup2, ex_iadd, ex_isub, ex_imul, ex_iand, ex_ior, ex_ixor, ex_ishl, ex_ishr, ex_idiv, ex_irem, ex_ineg, ex_i2l, ex_i2c, ex_i2b, ex_i2f, ex_i2d, ex_f2d, ex_fdiv, ex_ddiv, ex_lcmp, ex_dcmp, ex_getI, ex_getR, ex_putI, ex_putB, ex_putZ, ex_putR, ex_getsI, ex_getsR, ex_iald, ex_cald, ex_iast, ex_cast, ex_aast, ex_alen, ex_copy1, ex_copy2, ex_throw, ex_goto, ex_fall, ex_if_eq, ex_ic_eq, ex_if_ne, ex_ic_ne, ex_if_lt, ex_ic_lt, ex_if_ge, ex_ic_ge, ex_if_gt, ex_ic_gt, ex_if_le, ex_ic_le, ex_switch, ex_ireturn, ex_ireturn_z, ex_ireturn_b, ex_ireturn_c, ex_areturn, ex_freturn, ex_dreturn, ex_return, ex_is0, ex_is1, ex_is2, ex_is3, ex_is4, ex_is5, ex_is6, ex_is7, ex_iv1, ex_iv2, ex_iv3, ex_iv4, ex_iv5, ex_iv6, ex_iv7, ex_ip1, ex_ip2, ex_ip3, ex_ip4, ex_ip5, ex_ip6, ex_ip7, ex_iu1, ex_iu2, ex_iu3, ex_iu4, ex_iu5, ex_iu6, ex_iu7, List.getD_cons_zero, List.getD_cons_succ, List.set_cons_zero, List.set_cons_succ, isI_i, isA_r, isD_d, isF_f, GInc, ko_v, ko_n, cat_i2, cat_r2, cat_n2, cat_f2, cat_d2, cat_l2, Nat.zero_le, Nat.zero_add, Nat.le_refl, Nat.reduceAdd, Nat.reduceLeDiff, ne_eq, not_false_eq_true, Nat.reduceEqDiff, sI_mk, wI_mk, wCp_mk, Option.toList, List.nil_append, List.cons_append, kd_20, kd_21, kd_22, kd_23, kd_24, kd_25, kd_26, kd_27, kd_28, kd_29, kd_30, kd_31, kd_32, kd_33, kd_34, kd_35, kd_36, kd_37, kd_38, kd_39, kd_40, kd_41, kd_42, kd_43, kd_44, kd_45, kd_46, kd_47, kd_48, kd_49, kd_50, kd_51, kd_52, kd_53, kd_54, hc, if_false, e1, e2, ea, i1, x1, ik_succ]
    refine ih (k + 1) _ (by omega) (fun f' a b => hq f' (fun j h1 h2 => ?_) (fun t c j hn => ?_))
    · by_cases hj : j = k
      · rw [b _ _ _ (by omega), up3_at, if_pos ⟨rfl, rfl, by omega⟩]
      · exact a j (by omega) h2
    · rw [b _ _ _ (by omega), up3_at, if_neg (by omega)]
theorem rowM0 {N : Nat → Int32} (h : ∀ j, j < 12 → N (12 + j) = 10) (h2 : ∀ i, ¬ (12 ≤ i ∧ i < 24) → i < 304 → N i = 0) : RowM N D0 := by
  refine ⟨h2 _ (by decide) (by decide), Nat.zero_le _, h2 _ (by decide) (by decide), h2 _ (by decide) (by decide), fun k hk => h2 _ (by omega) (by omega), fun k hk => h k hk, fun b hb => ⟨h2 _ (by omega) (by omega), h2 _ (by omega) (by omega), h2 _ (by omega) (by omega), h2 _ (by omega) (by omega)⟩, fun b hb => ⟨h2 _ (by omega) (by omega), Nat.zero_le _, fun j x hj => absurd hj (by show ¬ (fB b [])[j]? = some x; simp [fB])⟩⟩
set_option maxHeartbeats 2000000 in
theorem ct178 (hc : ∀ t, tgM t = true → t ≠ 11 → r.2.2.2.2.1 t = 0) (h11 : ∀ k, f 11 0 k = 0) (hq : ∀ f' r', CtM f r f' r' → Q (.inl none) (f', r')) : Cl (d + 1) 178 [vr 11 0] (f, r) Q := by
  have k43 := hc 43 rfl (by decide)
  have k44 := hc 44 rfl (by decide)
  have k45 := hc 45 rfl (by decide)
  have k46 := hc 46 rfl (by decide)
  have k47 := hc 47 rfl (by decide)
  have k48 := hc 48 rfl (by decide)
  have k49 := hc 49 rfl (by decide)
  have k50 := hc 50 rfl (by decide)
  have k51 := hc 51 rfl (by decide)
  have k52 := hc 52 rfl (by decide)
  rw [en178]
  simp only [B178_0, ex_iconst, ex_bipush, ex_sipush, ex_ldc, ex_ldcs, ex_fconst, ex_dconst, ex_iload_n, ex_iload, ex_aload_n, ex_aload, ex_dload_n, ex_dload, ex_fload, ex_istore_n, ex_istore, ex_fstore, ex_dstore_n, ex_dstore, ex_astore_n, ex_astore, ex_iinc, ex_ginc, ex_pop_i, ex_pop_r, ex_dup_i, ex_dup_r, ex_dup_x1, ex_dup2, ex_iadd, ex_isub, ex_imul, ex_iand, ex_ior, ex_ixor, ex_ishl, ex_ishr, ex_idiv, ex_irem, ex_ineg, ex_i2l, ex_i2c, ex_i2b, ex_i2f, ex_i2d, ex_f2d, ex_fdiv, ex_ddiv, ex_lcmp, ex_dcmp, ex_getI, ex_getR, ex_putI, ex_putB, ex_putZ, ex_putR, ex_getsI, ex_getsR, ex_iald, ex_cald, ex_iast, ex_cast, ex_aast, ex_alen, ex_copy1, ex_copy2, ex_throw, ex_goto, ex_fall, ex_if_eq, ex_ic_eq, ex_if_ne, ex_ic_ne, ex_if_lt, ex_ic_lt, ex_if_ge, ex_ic_ge, ex_if_gt, ex_ic_gt, ex_if_le, ex_ic_le, ex_switch, ex_ireturn, ex_ireturn_z, ex_ireturn_b, ex_ireturn_c, ex_areturn, ex_freturn, ex_dreturn, ex_return, ex_is0, ex_is1, ex_is2, ex_is3, ex_is4, ex_is5, ex_is6, ex_is7, ex_iv1, ex_iv2, ex_iv3, ex_iv4, ex_iv5, ex_iv6, ex_iv7, ex_ip1, ex_ip2, ex_ip3, ex_ip4, ex_ip5, ex_ip6, ex_ip7, ex_iu1, ex_iu2, ex_iu3, ex_iu4, ex_iu5, ex_iu6, ex_iu7, List.getD_cons_zero, List.getD_cons_succ, List.set_cons_zero, List.set_cons_succ, isI_i, isA_r, isD_d, isF_f, GInc, ko_v, ko_n, cat_i2, cat_r2, cat_n2, cat_f2, cat_d2, cat_l2, Nat.zero_le, Nat.zero_add, Nat.le_refl, Nat.reduceAdd, Nat.reduceLeDiff, ne_eq, not_false_eq_true, Nat.reduceEqDiff, sI_mk, wI_mk, wCp_mk, Option.toList, List.nil_append, List.cons_append, kd_20, kd_21, kd_22, kd_23, kd_24, kd_25, kd_26, kd_27, kd_28, kd_29, kd_30, kd_31, kd_32, kd_33, kd_34, kd_35, kd_36, kd_37, kd_38, kd_39, kd_40, kd_41, kd_42, kd_43, kd_44, kd_45, kd_46, kd_47, kd_48, kd_49, kd_50, kd_51, kd_52, kd_53, kd_54, ob1, wRS_mk, naL (x := 304) (n := 304) rfl (by decide), naL (x := 2432) (n := 2432) rfl (by decide), naL (x := 10) (n := 10) rfl (by decide), naL (x := 84) (n := 84) rfl (by decide), naL (x := 120) (n := 120) rfl (by decide), naL (x := 60) (n := 60) rfl (by decide), naL (x := 32) (n := 32) rfl (by decide), naL (x := 128) (n := 128) rfl (by decide), nwS_c, wRS_2, Nat.reduceEqDiff, if_false, k43, k44, k45, k46, k47, k48, k49, k50, k51, k52]
  refine (ex_putZ (Or.inl rfl)).mpr ?_
  simp only [ex_iconst, ex_bipush, ex_sipush, ex_ldc, ex_ldcs, ex_fconst, ex_dconst, ex_iload_n, ex_iload, ex_aload_n, ex_aload, ex_dload_n, ex_dload, ex_fload, ex_istore_n, ex_istore, ex_fstore, ex_dstore_n, ex_dstore, ex_astore_n, ex_astore, ex_iinc, ex_ginc, ex_pop_i, ex_pop_r, ex_dup_i, ex_dup_r, ex_dup_x1, ex_dup2, ex_iadd, ex_isub, ex_imul, ex_iand, ex_ior, ex_ixor, ex_ishl, ex_ishr, ex_idiv, ex_irem, ex_ineg, ex_i2l, ex_i2c, ex_i2b, ex_i2f, ex_i2d, ex_f2d, ex_fdiv, ex_ddiv, ex_lcmp, ex_dcmp, ex_getI, ex_getR, ex_putI, ex_putB, ex_putZ, ex_putR, ex_getsI, ex_getsR, ex_iald, ex_cald, ex_iast, ex_cast, ex_aast, ex_alen, ex_copy1, ex_copy2, ex_throw, ex_goto, ex_fall, ex_if_eq, ex_ic_eq, ex_if_ne, ex_ic_ne, ex_if_lt, ex_ic_lt, ex_if_ge, ex_ic_ge, ex_if_gt, ex_ic_gt, ex_if_le, ex_ic_le, ex_switch, ex_ireturn, ex_ireturn_z, ex_ireturn_b, ex_ireturn_c, ex_areturn, ex_freturn, ex_dreturn, ex_return, ex_is0, ex_is1, ex_is2, ex_is3, ex_is4, ex_is5, ex_is6, ex_is7, ex_iv1, ex_iv2, ex_iv3, ex_iv4, ex_iv5, ex_iv6, ex_iv7, ex_ip1, ex_ip2, ex_ip3, ex_ip4, ex_ip5, ex_ip6, ex_ip7, ex_iu1, ex_iu2, ex_iu3, ex_iu4, ex_iu5, ex_iu6, ex_iu7, List.getD_cons_zero, List.getD_cons_succ, List.set_cons_zero, List.set_cons_succ, isI_i, isA_r, isD_d, isF_f, GInc, ko_v, ko_n, cat_i2, cat_r2, cat_n2, cat_f2, cat_d2, cat_l2, Nat.zero_le, Nat.zero_add, Nat.le_refl, Nat.reduceAdd, Nat.reduceLeDiff, ne_eq, not_false_eq_true, Nat.reduceEqDiff, sI_mk, wI_mk, wCp_mk, Option.toList, List.nil_append, List.cons_append, kd_20, kd_21, kd_22, kd_23, kd_24, kd_25, kd_26, kd_27, kd_28, kd_29, kd_30, kd_31, kd_32, kd_33, kd_34, kd_35, kd_36, kd_37, kd_38, kd_39, kd_40, kd_41, kd_42, kd_43, kd_44, kd_45, kd_46, kd_47, kd_48, kd_49, kd_50, kd_51, kd_52, kd_53, kd_54, ob1, wRS_mk, naL (x := 304) (n := 304) rfl (by decide), naL (x := 2432) (n := 2432) rfl (by decide), naL (x := 10) (n := 10) rfl (by decide), naL (x := 84) (n := 84) rfl (by decide), naL (x := 120) (n := 120) rfl (by decide), naL (x := 60) (n := 60) rfl (by decide), naL (x := 32) (n := 32) rfl (by decide), naL (x := 128) (n := 128) rfl (by decide), nwS_c, wRS_2, Nat.reduceEqDiff, if_false, k43, k44, k45, k46, k47, k48, k49, k50, k51, k52]
  refine (ex_putZ (Or.inl rfl)).mpr ?_
  simp only [ex_iconst, ex_bipush, ex_sipush, ex_ldc, ex_ldcs, ex_fconst, ex_dconst, ex_iload_n, ex_iload, ex_aload_n, ex_aload, ex_dload_n, ex_dload, ex_fload, ex_istore_n, ex_istore, ex_fstore, ex_dstore_n, ex_dstore, ex_astore_n, ex_astore, ex_iinc, ex_ginc, ex_pop_i, ex_pop_r, ex_dup_i, ex_dup_r, ex_dup_x1, ex_dup2, ex_iadd, ex_isub, ex_imul, ex_iand, ex_ior, ex_ixor, ex_ishl, ex_ishr, ex_idiv, ex_irem, ex_ineg, ex_i2l, ex_i2c, ex_i2b, ex_i2f, ex_i2d, ex_f2d, ex_fdiv, ex_ddiv, ex_lcmp, ex_dcmp, ex_getI, ex_getR, ex_putI, ex_putB, ex_putZ, ex_putR, ex_getsI, ex_getsR, ex_iald, ex_cald, ex_iast, ex_cast, ex_aast, ex_alen, ex_copy1, ex_copy2, ex_throw, ex_goto, ex_fall, ex_if_eq, ex_ic_eq, ex_if_ne, ex_ic_ne, ex_if_lt, ex_ic_lt, ex_if_ge, ex_ic_ge, ex_if_gt, ex_ic_gt, ex_if_le, ex_ic_le, ex_switch, ex_ireturn, ex_ireturn_z, ex_ireturn_b, ex_ireturn_c, ex_areturn, ex_freturn, ex_dreturn, ex_return, ex_is0, ex_is1, ex_is2, ex_is3, ex_is4, ex_is5, ex_is6, ex_is7, ex_iv1, ex_iv2, ex_iv3, ex_iv4, ex_iv5, ex_iv6, ex_iv7, ex_ip1, ex_ip2, ex_ip3, ex_ip4, ex_ip5, ex_ip6, ex_ip7, ex_iu1, ex_iu2, ex_iu3, ex_iu4, ex_iu5, ex_iu6, ex_iu7, List.getD_cons_zero, List.getD_cons_succ, List.set_cons_zero, List.set_cons_succ, isI_i, isA_r, isD_d, isF_f, GInc, ko_v, ko_n, cat_i2, cat_r2, cat_n2, cat_f2, cat_d2, cat_l2, Nat.zero_le, Nat.zero_add, Nat.le_refl, Nat.reduceAdd, Nat.reduceLeDiff, ne_eq, not_false_eq_true, Nat.reduceEqDiff, sI_mk, wI_mk, wCp_mk, Option.toList, List.nil_append, List.cons_append, kd_20, kd_21, kd_22, kd_23, kd_24, kd_25, kd_26, kd_27, kd_28, kd_29, kd_30, kd_31, kd_32, kd_33, kd_34, kd_35, kd_36, kd_37, kd_38, kd_39, kd_40, kd_41, kd_42, kd_43, kd_44, kd_45, kd_46, kd_47, kd_48, kd_49, kd_50, kd_51, kd_52, kd_53, kd_54]
  refine prm_lp ?_ ?_ 12 0 _ rfl (fun f' a b => hq f' _ ⟨?_, ?_, ?_, rowM0 (fun j hj => a j (Nat.zero_le _) hj) (fun i hi hi2 => ?_), fun t j k h => ?_, fun t j k h => ?_, fun t j h => ?_, fun t h => ?_, ?_, ?_⟩)
  · simp only [wRS_1, wRS_2, nwS_1, nwS_l, nwS_c, up3_at, clr_at, up3_at, Nat.reduceEqDiff, false_and, and_false, and_true, true_and, and_self, eq_self, reduceIte, if_true, if_false, k43, k44, k45, k46, k47, k48, k49, k50, k51, k52]
  · simp only [wRS_1, wRS_2, nwS_1, nwS_l, nwS_c, up3_at, clr_at, up3_at, Nat.reduceEqDiff, false_and, and_false, and_true, true_and, and_self, eq_self, reduceIte, if_true, if_false, k43, k44, k45, k46, k47, k48, k49, k50, k51, k52]
  · simp only [wRS_1, wRS_2, nwS_1, nwS_l, nwS_c, up3_at, clr_at, up3_at, Nat.reduceEqDiff, false_and, and_false, and_true, true_and, and_self, eq_self, reduceIte, if_true, if_false, k43, k44, k45, k46, k47, k48, k49, k50, k51, k52]
  · simp only [wRS_1, wRS_2, nwS_1, nwS_l, nwS_c, up3_at, clr_at, up3_at, Nat.reduceEqDiff, false_and, and_false, and_true, true_and, and_self, eq_self, reduceIte, if_true, if_false, k43, k44, k45, k46, k47, k48, k49, k50, k51, k52]
  · refine ⟨?_, ?_, ?_, ?_, ?_, ?_, ?_, ?_, ?_⟩ <;> rw [b _ _ _ (by omega)] <;> simp only [wRS_1, wRS_2, nwS_1, nwS_l, nwS_c, up3_at, clr_at, up3_at, Nat.reduceEqDiff, false_and, and_false, and_true, true_and, and_self, eq_self, reduceIte, if_true, if_false, h11]
  · rw [b _ _ _ (by omega)]
    simp only [wRS_1, wRS_2, nwS_1, nwS_l, nwS_c, up3_at, clr_at, up3_at, Nat.reduceEqDiff, false_and, and_false, and_true, true_and, and_self, eq_self, reduceIte, if_true, if_false]
  · have n43 : ¬ t = 43 := by rintro rfl; cases h
    rw [b _ _ _ (fun z => n43 z.1)]
    have n11 : ¬ t = 11 := by rintro rfl; cases h
    have n43 : ¬ t = 43 := by rintro rfl; cases h
    have n44 : ¬ t = 44 := by rintro rfl; cases h
    have n45 : ¬ t = 45 := by rintro rfl; cases h
    have n46 : ¬ t = 46 := by rintro rfl; cases h
    have n47 : ¬ t = 47 := by rintro rfl; cases h
    have n48 : ¬ t = 48 := by rintro rfl; cases h
    have n49 : ¬ t = 49 := by rintro rfl; cases h
    have n50 : ¬ t = 50 := by rintro rfl; cases h
    have n51 : ¬ t = 51 := by rintro rfl; cases h
    have n52 : ¬ t = 52 := by rintro rfl; cases h
    simp only [up3_at, clr_at, n11, n43, n44, n45, n46, n47, n48, n49, n50, n51, n52, false_and, if_false]
  · skip
    have n11 : ¬ t = 11 := by rintro rfl; cases h
    have n43 : ¬ t = 43 := by rintro rfl; cases h
    have n44 : ¬ t = 44 := by rintro rfl; cases h
    have n45 : ¬ t = 45 := by rintro rfl; cases h
    have n46 : ¬ t = 46 := by rintro rfl; cases h
    have n47 : ¬ t = 47 := by rintro rfl; cases h
    have n48 : ¬ t = 48 := by rintro rfl; cases h
    have n49 : ¬ t = 49 := by rintro rfl; cases h
    have n50 : ¬ t = 50 := by rintro rfl; cases h
    have n51 : ¬ t = 51 := by rintro rfl; cases h
    have n52 : ¬ t = 52 := by rintro rfl; cases h
    simp only [wRS_1, wRS_2, nwS_1, n11, n43, n44, n45, n46, n47, n48, n49, n50, n51, n52, false_and, if_false]
  · skip
    have n11 : ¬ t = 11 := by rintro rfl; cases h
    have n43 : ¬ t = 43 := by rintro rfl; cases h
    have n44 : ¬ t = 44 := by rintro rfl; cases h
    have n45 : ¬ t = 45 := by rintro rfl; cases h
    have n46 : ¬ t = 46 := by rintro rfl; cases h
    have n47 : ¬ t = 47 := by rintro rfl; cases h
    have n48 : ¬ t = 48 := by rintro rfl; cases h
    have n49 : ¬ t = 49 := by rintro rfl; cases h
    have n50 : ¬ t = 50 := by rintro rfl; cases h
    have n51 : ¬ t = 51 := by rintro rfl; cases h
    have n52 : ¬ t = 52 := by rintro rfl; cases h
    simp only [wRS_2, nwS_l, n11, n43, n44, n45, n46, n47, n48, n49, n50, n51, n52, false_and, if_false]
  · skip
    have n11 : ¬ t = 11 := by rintro rfl; cases h
    have n43 : ¬ t = 43 := by rintro rfl; cases h
    have n44 : ¬ t = 44 := by rintro rfl; cases h
    have n45 : ¬ t = 45 := by rintro rfl; cases h
    have n46 : ¬ t = 46 := by rintro rfl; cases h
    have n47 : ¬ t = 47 := by rintro rfl; cases h
    have n48 : ¬ t = 48 := by rintro rfl; cases h
    have n49 : ¬ t = 49 := by rintro rfl; cases h
    have n50 : ¬ t = 50 := by rintro rfl; cases h
    have n51 : ¬ t = 51 := by rintro rfl; cases h
    have n52 : ¬ t = 52 := by rintro rfl; cases h
    simp only [wRS_2, nwS_c, n11, n43, n44, n45, n46, n47, n48, n49, n50, n51, n52, if_false]
  · simp only [wRS_2, nwS_N]
  · simp only [wRS_2, nwS_M]
end Madm
