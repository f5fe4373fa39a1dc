/-! sacks: what the loops over the slots answer -/
abbrev Sk : Type := Int32 × Int32 × Int32 × Int32 × Int32 × Int32
abbrev kId (x : Sk) : Int32 := x.1
abbrev kW (x : Sk) : Int32 := x.2.1
abbrev kP (x : Sk) : Int32 := x.2.2.1
abbrev kG (x : Sk) : Int32 := x.2.2.2.1
abbrev kT (x : Sk) : Int32 := x.2.2.2.2.1
abbrev kB (x : Sk) : Int32 := x.2.2.2.2.2
/-- the sacks xs lie in the slots of the data i -/
def LayS (f : SF) (i : Nat) (xs : List Sk) : Prop := f 3 i 6 = ik xs.length ∧ xs.length ≤ 50 ∧ ∀ k x, xs[k]? = some x → f 24 i k = kId x ∧ f 25 i k = kW x ∧ f 26 i k = kP x ∧ f 27 i k = kG x ∧ f 28 i k = kT x ∧ f 29 i k = kB x
def numL (p : Int32) (xs : List Sk) (a : Int32) : Int32 := xs.foldl (fun a x => if kB x = p then a + 1 else a) a
def kgL (p : Int32) (xs : List Sk) (a : Int32) : Int32 := xs.foldl (fun a x => if kB x = p then a + kW x else a) a
def woL (p : Int32) (xs : List Sk) (a : Int32) : Int32 := xs.foldl (fun a x => if kB x = p then a + kW x * kP x else a) a
section Sacks
variable {d i : Nat} {f : SF} {r : SR} {Q : Ot → St → Prop}
theorem mid_at {α : Type} {pre post : List α} {x : α} : (pre ++ x :: post)[pre.length]? = some x := by simp
theorem app_one {α : Type} {pre post : List α} {x : α} : pre ++ x :: post = (pre ++ [x]) ++ post := by simp
theorem len_one {α : Type} {pre : List α} {x : α} : (pre ++ [x]).length = pre.length + 1 := by simp
theorem num_lp (hD : StD r i) {p : Int32} : ∀ (post pre : List Sk) (a : Int32), LayS f i (pre ++ post) → (Jx d 39 1 [vr 3 i, vi p, vi a, vi (ik pre.length)] [] (f, r) Q ↔ Q (.inl (some (vi (numL p post a)))) (f, r)) := by
  intro post
  induction post with
  | nil =>
    intro pre a h
    rw [List.append_nil] at h
    have e1 := h.1
    have hc : ik pre.length ≤ ik pre.length := by rw [Int32.le_iff_toInt_le]; exact Int.le_refl _
    rw [jb39_1]
    simp only [B39_1, B39_3, jb39_3, ex_iconst, ex_bipush, ex_sipush, ex_ldc, ex_ldcs, ex_fconst, ex_dconst, ex_iload_n, ex_iload, ex_aload_n, ex_aload, ex_dload_n, ex_dload, ex_fload, ex_istore_n, ex_istore, ex_fstore, ex_dstore_n, ex_dstore, ex_astore_n, ex_astore, ex_iinc, ex_ginc, ex_pop_i, ex_pop_r, ex_dup_i, ex_dup_r, ex_dup_x1, ex_dup2, ex_iadd, ex_isub, ex_imul, ex_iand, ex_ior, ex_ixor, ex_ishl, ex_ishr, ex_idiv, ex_irem, ex_ineg, ex_i2l, ex_i2c, ex_i2b, ex_i2f, ex_i2d, ex_f2d, ex_fdiv, ex_ddiv, ex_lcmp, ex_dcmp, ex_getI, ex_getR, ex_putI, ex_putB, ex_putZ, ex_putR, ex_getsI, ex_getsR, ex_iald, ex_cald, ex_iast, ex_cast, ex_aast, ex_alen, ex_copy1, ex_copy2, ex_throw, ex_goto, ex_fall, ex_if_eq, ex_ic_eq, ex_if_ne, ex_ic_ne, ex_if_lt, ex_ic_lt, ex_if_ge, ex_ic_ge, ex_if_gt, ex_ic_gt, ex_if_le, ex_ic_le, ex_switch, ex_ireturn, ex_ireturn_z, ex_ireturn_b, ex_ireturn_c, ex_areturn, ex_freturn, ex_dreturn, ex_return, ex_is0, ex_is1, ex_is2, ex_is3, ex_is4, ex_is5, ex_is6, ex_is7, ex_iv1, ex_iv2, ex_iv3, ex_iv4, ex_iv5, ex_iv6, ex_iv7, ex_ip1, ex_ip2, ex_ip3, ex_ip4, ex_ip5, ex_ip6, ex_ip7, ex_iu1, ex_iu2, ex_iu3, ex_iu4, ex_iu5, ex_iu6, ex_iu7, List.getD_cons_zero, List.getD_cons_succ, List.set_cons_zero, List.set_cons_succ, isI_i, isA_r, isD_d, isF_f, GInc, ko_v, ko_n, cat_i, cat_r, cat_n, Nat.reduceAdd, Nat.reduceLeDiff, ne_eq, not_false_eq_true, Nat.reduceEqDiff, sI_mk, wI_mk, Option.toList, List.nil_append, List.cons_append, kd_20, kd_21, kd_22, kd_23, kd_24, kd_25, kd_26, kd_27, kd_28, kd_29, kd_30, kd_31, kd_32, kd_33, kd_34, kd_35, kd_36, kd_37, kd_38, kd_39, kd_40, kd_41, kd_42, kd_43, kd_44, kd_45, kd_46, kd_47, kd_48, kd_49, kd_50, kd_51, kd_52, kd_53, kd_54, e1, hc, if_true]
    rfl
  | cons x post ih =>
    intro pre a h
    have e1 := h.1
    have hl := h.2.1
    obtain ⟨-, -, -, -, -, e6⟩ := h.2.2 _ _ mid_at
    rw [List.length_append, List.length_cons] at hl
    have hn : ¬ ik (pre ++ x :: post).length ≤ ik pre.length := by
      rw [ik_le (by simp; omega) (by omega)]
      simp
    have hi : inb (ik pre.length) 50 := (inb_ik (by omega)).mpr (by omega)
    have hx : ix (ik pre.length) = pre.length := ix_ik (by omega)
    have ih2 := fun a => ih (pre ++ [x]) a (by rw [← app_one]; exact h)
    rw [len_one] at ih2
    rw [jb39_1]
    simp only [B39_1, ex_iconst, ex_bipush, ex_sipush, ex_ldc, ex_ldcs, ex_fconst, ex_dconst, ex_iload_n, ex_iload, ex_aload_n, ex_aload, ex_dload_n, ex_dload, ex_fload, ex_istore_n, ex_istore, ex_fstore, ex_dstore_n, ex_dstore, ex_astore_n, ex_astore, ex_iinc, ex_ginc, ex_pop_i, ex_pop_r, ex_dup_i, ex_dup_r, ex_dup_x1, ex_dup2, ex_iadd, ex_isub, ex_imul, ex_iand, ex_ior, ex_ixor, ex_ishl, ex_ishr, ex_idiv, ex_irem, ex_ineg, ex_i2l, ex_i2c, ex_i2b, ex_i2f, ex_i2d, ex_f2d, ex_fdiv, ex_ddiv, ex_lcmp, ex_dcmp, ex_getI, ex_getR, ex_putI, ex_putB, ex_putZ, ex_putR, ex_getsI, ex_getsR, ex_iald, ex_cald, ex_iast, ex_cast, ex_aast, ex_alen, ex_copy1, ex_copy2, ex_throw, ex_goto, ex_fall, ex_if_eq, ex_ic_eq, ex_if_ne, ex_ic_ne, ex_if_lt, ex_ic_lt, ex_if_ge, ex_ic_ge, ex_if_gt, ex_ic_gt, ex_if_le, ex_ic_le, ex_switch, ex_ireturn, ex_ireturn_z, ex_ireturn_b, ex_ireturn_c, ex_areturn, ex_freturn, ex_dreturn, ex_return, ex_is0, ex_is1, ex_is2, ex_is3, ex_is4, ex_is5, ex_is6, ex_is7, ex_iv1, ex_iv2, ex_iv3, ex_iv4, ex_iv5, ex_iv6, ex_iv7, ex_ip1, ex_ip2, ex_ip3, ex_ip4, ex_ip5, ex_ip6, ex_ip7, ex_iu1, ex_iu2, ex_iu3, ex_iu4, ex_iu5, ex_iu6, ex_iu7, List.getD_cons_zero, List.getD_cons_succ, List.set_cons_zero, List.set_cons_succ, isI_i, isA_r, isD_d, isF_f, GInc, ko_v, ko_n, cat_i, cat_r, cat_n, Nat.reduceAdd, Nat.reduceLeDiff, ne_eq, not_false_eq_true, Nat.reduceEqDiff, sI_mk, wI_mk, Option.toList, List.nil_append, List.cons_append, kd_20, kd_21, kd_22, kd_23, kd_24, kd_25, kd_26, kd_27, kd_28, kd_29, kd_30, kd_31, kd_32, kd_33, kd_34, kd_35, kd_36, kd_37, kd_38, kd_39, kd_40, kd_41, kd_42, kd_43, kd_44, kd_45, kd_46, kd_47, kd_48, kd_49, kd_50, kd_51, kd_52, kd_53, kd_54, e1, hn, if_false, rr1_0 hD, rr1_1 hD, rr1_2 hD, rr1_3 hD, rr1_5 hD, rr2_0 hD, rr2_1 hD, rr2_2 hD, rr2_3 hD, rr3_0 hD, rr3_1 hD, rr3_2 hD, rr3_3 hD, rr3_4 hD, rr3_5 hD, rr5_0 hD, rl20 hD, rl21 hD, rl22 hD, rl23 hD, rl24 hD, rl25 hD, rl26 hD, rl27 hD, rl28 hD, rl29 hD, rl30 hD, rl31 hD, hi, hx, e6, B39_2, jb39_2, ik_succ, ih2]
    unfold numL
    rw [List.foldl_cons]
    by_cases hb : kB x = p
    · simp [hb]
    · simp [hb]
end Sacks
