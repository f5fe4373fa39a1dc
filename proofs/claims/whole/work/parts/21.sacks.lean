/-! sacks: what the loops over the slots answer and do -/
abbrev Sk : Type := Int32 × Int32 × Int32 × Int32 × Int32 × Int32
abbrev kId (x : Sk) : Int32 := x.1
abbrev kW (x : Sk) : Int32 := x.2.1
abbrev kP (x : Sk) : Int32 := x.2.2.1
abbrev kG (x : Sk) : Int32 := x.2.2.2.1
abbrev kT (x : Sk) : Int32 := x.2.2.2.2.1
abbrev kB (x : Sk) : Int32 := x.2.2.2.2.2
/-- the sack x lies in the slot k of the data i -/
def AtS (f : SF) (i k : Nat) (x : Sk) : Prop := f 24 i k = kId x ∧ f 25 i k = kW x ∧ f 26 i k = kP x ∧ f 27 i k = kG x ∧ f 28 i k = kT x ∧ f 29 i k = kB x
/-- the sacks xs lie in the slots of the data i -/
def LayS (f : SF) (i : Nat) (xs : List Sk) : Prop := f 3 i 6 = ik xs.length ∧ xs.length ≤ 50 ∧ ∀ k x, xs[k]? = some x → AtS f i k x
def numL (p : Int32) (xs : List Sk) (a : Int32) : Int32 := xs.foldl (fun a x => if kB x = p then a + 1 else a) a
def kgL (p : Int32) (xs : List Sk) (a : Int32) : Int32 := xs.foldl (fun a x => if kB x = p then a + kW x else a) a
def woL (p : Int32) (xs : List Sk) (a : Int32) : Int32 := xs.foldl (fun a x => if kB x = p then a + kW x * kP x else a) a
/-- where the sack of that id lies, from the place k on -/
def slL (z : Int32) : List Sk → Nat → Int32
  | [], _ => -1
  | x :: xs, k => if kId x = z then ik k else slL z xs (k + 1)
theorem slL_c {z : Int32} {x : Sk} {xs : List Sk} {k : Nat} : slL z (x :: xs) k = if kId x = z then ik k else slL z xs (k + 1) := rfl
/-- the cells of the tags P of the number i may have changed, no others -/
def Fr (P : Nat → Bool) (i : Nat) (f f' : SF) : Prop := ∀ t j k, (P t = false ∨ j ≠ i) → f' t j k = f t j k
theorem Fr.rf {P : Nat → Bool} {i : Nat} {f : SF} : Fr P i f f := fun _ _ _ _ => rfl
theorem Fr.tr {P : Nat → Bool} {i : Nat} {f g h : SF} (a : Fr P i f g) (b : Fr P i g h) : Fr P i f h := fun t j k q => (b t j k q).trans (a t j k q)
theorem Fr.wk {P P2 : Nat → Bool} {i : Nat} {f g : SF} (a : Fr P i f g) (h : ∀ t, P t = true → P2 t = true) : Fr P2 i f g := fun t j k q => a t j k (by
  rcases q with q | q
  · left
    cases hp : P t with
    | false => rfl
    | true => rw [h t hp] at q; cases q
  · exact Or.inr q)
theorem Fr.up {P : Nat → Bool} {i t k : Nat} {v : Int32} {f : SF} (h : P t = true) : Fr P i f (up3 f t i k v) := fun a j n q => by
  unfold up3
  rw [if_neg]
  rintro ⟨rfl, rfl, -⟩
  rcases q with q | q
  · rw [h] at q; cases q
  · exact q rfl
def tgS (t : Nat) : Bool := decide (t = 3) || (decide (24 ≤ t) && decide (t ≤ 29))
def imin (a b : Int32) : Int32 := if a ≤ b then a else b
section Lists
theorem mid_at {α : Type} {pre post : List α} {x : α} : (pre ++ x :: post)[pre.length]? = some x := by simp
theorem app_one {α : Type} {pre post : List α} {x : α} : pre ++ x :: post = (pre ++ [x]) ++ post := by simp
theorem len_one {α : Type} {pre : List α} {x : α} : (pre ++ [x]).length = pre.length + 1 := by simp
theorem le_self_i {a : Int32} : a ≤ a := by rw [Int32.le_iff_toInt_le]; exact Int.le_refl _
theorem len_gt {α : Type} {pre post : List α} {x : α} (h : (pre ++ x :: post).length ≤ 1000000) : ¬ ik (pre ++ x :: post).length ≤ ik pre.length := by
  rw [ik_le (by omega) (by simp at h; omega)]
  simp
theorem LayS.mid {f : SF} {i : Nat} {pre post : List Sk} {x : Sk} (h : LayS f i (pre ++ x :: post)) : AtS f i pre.length x ∧ pre.length < 50 ∧ inb (ik pre.length) 50 ∧ ix (ik pre.length) = pre.length ∧ ¬ ik (pre ++ x :: post).length ≤ ik pre.length := by
  obtain ⟨h1, h2, h3⟩ := h
  have h4 := h2
  rw [List.length_append, List.length_cons] at h4
  exact ⟨h3 _ _ mid_at, by omega, (inb_ik (by omega)).mpr (by omega), ix_ik (by omega), len_gt (by omega)⟩
end Lists
section Sacks
variable {d i : Nat} {f : SF} {r : SR} {Q : Ot → St → Prop}
theorem num_lp (hD : StD r i) {p : Int32} : ∀ (post pre : List Sk) (a : Int32), LayS f i (pre ++ post) → (Jx d 39 1 [vr 3 i, vi p, vi a, vi (ik pre.length)] [] (f, r) Q ↔ Q (.inl (some (vi (numL p post a)))) (f, r)) := by
  intro post
  induction post with
  | nil =>
    intro pre a h
    rw [List.append_nil] at h
    have e1 := h.1
    have hc := le_self_i (a := ik pre.length)
    rw [jb39_1]
    simp only [B39_1, B39_3, jb39_3, ex_iconst, ex_bipush, ex_sipush, ex_ldc, ex_ldcs, ex_fconst, ex_dconst, ex_iload_n, ex_iload, ex_aload_n, ex_aload, ex_dload_n, ex_dload, ex_fload, ex_istore_n, ex_istore, ex_fstore, ex_dstore_n, ex_dstore, ex_astore_n, ex_astore, ex_iinc, ex_ginc, ex_pop_i, ex_pop_r, ex_dup_i, ex_dup_r, ex_dup_x1, ex_dup2, ex_iadd, ex_isub, ex_imul, ex_iand, ex_ior, ex_ixor, ex_ishl, ex_ishr, ex_idiv, ex_irem, ex_ineg, ex_i2l, ex_i2c, ex_i2b, ex_i2f, ex_i2d, ex_f2d, ex_fdiv, ex_ddiv, ex_lcmp, ex_dcmp, ex_getI, ex_getR, ex_putI, ex_putB, ex_putZ, ex_putR, ex_getsI, ex_getsR, ex_iald, ex_cald, ex_iast, ex_cast, ex_aast, ex_alen, ex_copy1, ex_copy2, ex_throw, ex_goto, ex_fall, ex_if_eq, ex_ic_eq, ex_if_ne, ex_ic_ne, ex_if_lt, ex_ic_lt, ex_if_ge, ex_ic_ge, ex_if_gt, ex_ic_gt, ex_if_le, ex_ic_le, ex_switch, ex_ireturn, ex_ireturn_z, ex_ireturn_b, ex_ireturn_c, ex_areturn, ex_freturn, ex_dreturn, ex_return, ex_is0, ex_is1, ex_is2, ex_is3, ex_is4, ex_is5, ex_is6, ex_is7, ex_iv1, ex_iv2, ex_iv3, ex_iv4, ex_iv5, ex_iv6, ex_iv7, ex_ip1, ex_ip2, ex_ip3, ex_ip4, ex_ip5, ex_ip6, ex_ip7, ex_iu1, ex_iu2, ex_iu3, ex_iu4, ex_iu5, ex_iu6, ex_iu7, List.getD_cons_zero, List.getD_cons_succ, List.set_cons_zero, List.set_cons_succ, isI_i, isA_r, isD_d, isF_f, GInc, ko_v, ko_n, cat_i2, cat_r2, cat_n2, cat_f2, cat_d2, cat_l2, Nat.zero_le, Nat.zero_add, Nat.le_refl, Nat.reduceAdd, Nat.reduceLeDiff, ne_eq, not_false_eq_true, Nat.reduceEqDiff, sI_mk, wI_mk, wCp_mk, Option.toList, List.nil_append, List.cons_append, kd_20, kd_21, kd_22, kd_23, kd_24, kd_25, kd_26, kd_27, kd_28, kd_29, kd_30, kd_31, kd_32, kd_33, kd_34, kd_35, kd_36, kd_37, kd_38, kd_39, kd_40, kd_41, kd_42, kd_43, kd_44, kd_45, kd_46, kd_47, kd_48, kd_49, kd_50, kd_51, kd_52, kd_53, kd_54, e1, hc, if_true]
    rfl
  | cons x post ih =>
    intro pre a h
    have e1 := h.1
    obtain ⟨⟨-, -, -, -, -, e6⟩, hl, hi, hx, hn⟩ := h.mid
    have ih2 := fun a => ih (pre ++ [x]) a (by rw [← app_one]; exact h)
    rw [len_one] at ih2
    rw [jb39_1]
    simp only [B39_1, ex_iconst, ex_bipush, ex_sipush, ex_ldc, ex_ldcs, ex_fconst, ex_dconst, ex_iload_n, ex_iload, ex_aload_n, ex_aload, ex_dload_n, ex_dload, ex_fload, ex_istore_n, ex_istore, ex_fstore, ex_dstore_n, ex_dstore, ex_astore_n, ex_astore, ex_iinc, ex_ginc, ex_pop_i, ex_pop_r, ex_dup_i, ex_dup_r, ex_dup_x1, ex_dup2, ex_iadd, ex_isub, ex_imul, ex_iand, ex_ior, ex_ixor, ex_ishl, ex_ishr, ex_idiv, ex_irem, ex_ineg, ex_i2l, ex_i2c, ex_i2b, ex_i2f, ex_i2d, ex_f2d, ex_fdiv, ex_ddiv, ex_lcmp, ex_dcmp, ex_getI, ex_getR, ex_putI, ex_putB, ex_putZ, ex_putR, ex_getsI, ex_getsR, ex_iald, ex_cald, ex_iast, ex_cast, ex_aast, ex_alen, ex_copy1, ex_copy2, ex_throw, ex_goto, ex_fall, ex_if_eq, ex_ic_eq, ex_if_ne, ex_ic_ne, ex_if_lt, ex_ic_lt, ex_if_ge, ex_ic_ge, ex_if_gt, ex_ic_gt, ex_if_le, ex_ic_le, ex_switch, ex_ireturn, ex_ireturn_z, ex_ireturn_b, ex_ireturn_c, ex_areturn, ex_freturn, ex_dreturn, ex_return, ex_is0, ex_is1, ex_is2, ex_is3, ex_is4, ex_is5, ex_is6, ex_is7, ex_iv1, ex_iv2, ex_iv3, ex_iv4, ex_iv5, ex_iv6, ex_iv7, ex_ip1, ex_ip2, ex_ip3, ex_ip4, ex_ip5, ex_ip6, ex_ip7, ex_iu1, ex_iu2, ex_iu3, ex_iu4, ex_iu5, ex_iu6, ex_iu7, List.getD_cons_zero, List.getD_cons_succ, List.set_cons_zero, List.set_cons_succ, isI_i, isA_r, isD_d, isF_f, GInc, ko_v, ko_n, cat_i2, cat_r2, cat_n2, cat_f2, cat_d2, cat_l2, Nat.zero_le, Nat.zero_add, Nat.le_refl, Nat.reduceAdd, Nat.reduceLeDiff, ne_eq, not_false_eq_true, Nat.reduceEqDiff, sI_mk, wI_mk, wCp_mk, Option.toList, List.nil_append, List.cons_append, kd_20, kd_21, kd_22, kd_23, kd_24, kd_25, kd_26, kd_27, kd_28, kd_29, kd_30, kd_31, kd_32, kd_33, kd_34, kd_35, kd_36, kd_37, kd_38, kd_39, kd_40, kd_41, kd_42, kd_43, kd_44, kd_45, kd_46, kd_47, kd_48, kd_49, kd_50, kd_51, kd_52, kd_53, kd_54, e1, hn, if_false, rr1_0 hD, rr1_1 hD, rr1_2 hD, rr1_3 hD, rr1_5 hD, rr2_0 hD, rr2_1 hD, rr2_2 hD, rr2_3 hD, rr3_0 hD, rr3_1 hD, rr3_2 hD, rr3_3 hD, rr3_4 hD, rr3_5 hD, rr5_0 hD, rl20 hD, rl21 hD, rl22 hD, rl23 hD, rl24 hD, rl25 hD, rl26 hD, rl27 hD, rl28 hD, rl29 hD, rl30 hD, rl31 hD, hi, hx, e6, B39_2, jb39_2, ik_succ, ih2]
    unfold numL
    rw [List.foldl_cons]
    by_cases hb : kB x = p <;> simp [hb]
theorem num_ok (hD : StD r i) {p : Int32} {xs : List Sk} (h : LayS f i xs) : Cl (d + 1) 39 [vr 3 i, vi p] (f, r) Q ↔ Q (.inl (some (vi (numL p xs 0)))) (f, r) := by
  rw [en39]
  simp only [B39_0, ex_iconst, ex_bipush, ex_sipush, ex_ldc, ex_ldcs, ex_fconst, ex_dconst, ex_iload_n, ex_iload, ex_aload_n, ex_aload, ex_dload_n, ex_dload, ex_fload, ex_istore_n, ex_istore, ex_fstore, ex_dstore_n, ex_dstore, ex_astore_n, ex_astore, ex_iinc, ex_ginc, ex_pop_i, ex_pop_r, ex_dup_i, ex_dup_r, ex_dup_x1, ex_dup2, ex_iadd, ex_isub, ex_imul, ex_iand, ex_ior, ex_ixor, ex_ishl, ex_ishr, ex_idiv, ex_irem, ex_ineg, ex_i2l, ex_i2c, ex_i2b, ex_i2f, ex_i2d, ex_f2d, ex_fdiv, ex_ddiv, ex_lcmp, ex_dcmp, ex_getI, ex_getR, ex_putI, ex_putB, ex_putZ, ex_putR, ex_getsI, ex_getsR, ex_iald, ex_cald, ex_iast, ex_cast, ex_aast, ex_alen, ex_copy1, ex_copy2, ex_throw, ex_goto, ex_fall, ex_if_eq, ex_ic_eq, ex_if_ne, ex_ic_ne, ex_if_lt, ex_ic_lt, ex_if_ge, ex_ic_ge, ex_if_gt, ex_ic_gt, ex_if_le, ex_ic_le, ex_switch, ex_ireturn, ex_ireturn_z, ex_ireturn_b, ex_ireturn_c, ex_areturn, ex_freturn, ex_dreturn, ex_return, ex_is0, ex_is1, ex_is2, ex_is3, ex_is4, ex_is5, ex_is6, ex_is7, ex_iv1, ex_iv2, ex_iv3, ex_iv4, ex_iv5, ex_iv6, ex_iv7, ex_ip1, ex_ip2, ex_ip3, ex_ip4, ex_ip5, ex_ip6, ex_ip7, ex_iu1, ex_iu2, ex_iu3, ex_iu4, ex_iu5, ex_iu6, ex_iu7, List.getD_cons_zero, List.getD_cons_succ, List.set_cons_zero, List.set_cons_succ, isI_i, isA_r, isD_d, isF_f, GInc, ko_v, ko_n, cat_i2, cat_r2, cat_n2, cat_f2, cat_d2, cat_l2, Nat.zero_le, Nat.zero_add, Nat.le_refl, Nat.reduceAdd, Nat.reduceLeDiff, ne_eq, not_false_eq_true, Nat.reduceEqDiff, sI_mk, wI_mk, wCp_mk, Option.toList, List.nil_append, List.cons_append, kd_20, kd_21, kd_22, kd_23, kd_24, kd_25, kd_26, kd_27, kd_28, kd_29, kd_30, kd_31, kd_32, kd_33, kd_34, kd_35, kd_36, kd_37, kd_38, kd_39, kd_40, kd_41, kd_42, kd_43, kd_44, kd_45, kd_46, kd_47, kd_48, kd_49, kd_50, kd_51, kd_52, kd_53, kd_54]
  exact num_lp hD xs [] 0 h
theorem kg_lp (hD : StD r i) {p : Int32} : ∀ (post pre : List Sk) (a : Int32), LayS f i (pre ++ post) → (Jx d 40 1 [vr 3 i, vi p, vi a, vi (ik pre.length)] [] (f, r) Q ↔ Q (.inl (some (vi (kgL p post a)))) (f, r)) := by
  intro post
  induction post with
  | nil =>
    intro pre a h
    rw [List.append_nil] at h
    have e1 := h.1
    have hc := le_self_i (a := ik pre.length)
    rw [jb40_1]
    simp only [B40_1, B40_3, jb40_3, ex_iconst, ex_bipush, ex_sipush, ex_ldc, ex_ldcs, ex_fconst, ex_dconst, ex_iload_n, ex_iload, ex_aload_n, ex_aload, ex_dload_n, ex_dload, ex_fload, ex_istore_n, ex_istore, ex_fstore, ex_dstore_n, ex_dstore, ex_astore_n, ex_astore, ex_iinc, ex_ginc, ex_pop_i, ex_pop_r, ex_dup_i, ex_dup_r, ex_dup_x1, ex_dup2, ex_iadd, ex_isub, ex_imul, ex_iand, ex_ior, ex_ixor, ex_ishl, ex_ishr, ex_idiv, ex_irem, ex_ineg, ex_i2l, ex_i2c, ex_i2b, ex_i2f, ex_i2d, ex_f2d, ex_fdiv, ex_ddiv, ex_lcmp, ex_dcmp, ex_getI, ex_getR, ex_putI, ex_putB, ex_putZ, ex_putR, ex_getsI, ex_getsR, ex_iald, ex_cald, ex_iast, ex_cast, ex_aast, ex_alen, ex_copy1, ex_copy2, ex_throw, ex_goto, ex_fall, ex_if_eq, ex_ic_eq, ex_if_ne, ex_ic_ne, ex_if_lt, ex_ic_lt, ex_if_ge, ex_ic_ge, ex_if_gt, ex_ic_gt, ex_if_le, ex_ic_le, ex_switch, ex_ireturn, ex_ireturn_z, ex_ireturn_b, ex_ireturn_c, ex_areturn, ex_freturn, ex_dreturn, ex_return, ex_is0, ex_is1, ex_is2, ex_is3, ex_is4, ex_is5, ex_is6, ex_is7, ex_iv1, ex_iv2, ex_iv3, ex_iv4, ex_iv5, ex_iv6, ex_iv7, ex_ip1, ex_ip2, ex_ip3, ex_ip4, ex_ip5, ex_ip6, ex_ip7, ex_iu1, ex_iu2, ex_iu3, ex_iu4, ex_iu5, ex_iu6, ex_iu7, List.getD_cons_zero, List.getD_cons_succ, List.set_cons_zero, List.set_cons_succ, isI_i, isA_r, isD_d, isF_f, GInc, ko_v, ko_n, cat_i2, cat_r2, cat_n2, cat_f2, cat_d2, cat_l2, Nat.zero_le, Nat.zero_add, Nat.le_refl, Nat.reduceAdd, Nat.reduceLeDiff, ne_eq, not_false_eq_true, Nat.reduceEqDiff, sI_mk, wI_mk, wCp_mk, Option.toList, List.nil_append, List.cons_append, kd_20, kd_21, kd_22, kd_23, kd_24, kd_25, kd_26, kd_27, kd_28, kd_29, kd_30, kd_31, kd_32, kd_33, kd_34, kd_35, kd_36, kd_37, kd_38, kd_39, kd_40, kd_41, kd_42, kd_43, kd_44, kd_45, kd_46, kd_47, kd_48, kd_49, kd_50, kd_51, kd_52, kd_53, kd_54, e1, hc, if_true]
    rfl
  | cons x post ih =>
    intro pre a h
    have e1 := h.1
    obtain ⟨⟨-, e2, -, -, -, e6⟩, hl, hi, hx, hn⟩ := h.mid
    have ih2 := fun a => ih (pre ++ [x]) a (by rw [← app_one]; exact h)
    rw [len_one] at ih2
    rw [jb40_1]
    simp only [B40_1, ex_iconst, ex_bipush, ex_sipush, ex_ldc, ex_ldcs, ex_fconst, ex_dconst, ex_iload_n, ex_iload, ex_aload_n, ex_aload, ex_dload_n, ex_dload, ex_fload, ex_istore_n, ex_istore, ex_fstore, ex_dstore_n, ex_dstore, ex_astore_n, ex_astore, ex_iinc, ex_ginc, ex_pop_i, ex_pop_r, ex_dup_i, ex_dup_r, ex_dup_x1, ex_dup2, ex_iadd, ex_isub, ex_imul, ex_iand, ex_ior, ex_ixor, ex_ishl, ex_ishr, ex_idiv, ex_irem, ex_ineg, ex_i2l, ex_i2c, ex_i2b, ex_i2f, ex_i2d, ex_f2d, ex_fdiv, ex_ddiv, ex_lcmp, ex_dcmp, ex_getI, ex_getR, ex_putI, ex_putB, ex_putZ, ex_putR, ex_getsI, ex_getsR, ex_iald, ex_cald, ex_iast, ex_cast, ex_aast, ex_alen, ex_copy1, ex_copy2, ex_throw, ex_goto, ex_fall, ex_if_eq, ex_ic_eq, ex_if_ne, ex_ic_ne, ex_if_lt, ex_ic_lt, ex_if_ge, ex_ic_ge, ex_if_gt, ex_ic_gt, ex_if_le, ex_ic_le, ex_switch, ex_ireturn, ex_ireturn_z, ex_ireturn_b, ex_ireturn_c, ex_areturn, ex_freturn, ex_dreturn, ex_return, ex_is0, ex_is1, ex_is2, ex_is3, ex_is4, ex_is5, ex_is6, ex_is7, ex_iv1, ex_iv2, ex_iv3, ex_iv4, ex_iv5, ex_iv6, ex_iv7, ex_ip1, ex_ip2, ex_ip3, ex_ip4, ex_ip5, ex_ip6, ex_ip7, ex_iu1, ex_iu2, ex_iu3, ex_iu4, ex_iu5, ex_iu6, ex_iu7, List.getD_cons_zero, List.getD_cons_succ, List.set_cons_zero, List.set_cons_succ, isI_i, isA_r, isD_d, isF_f, GInc, ko_v, ko_n, cat_i2, cat_r2, cat_n2, cat_f2, cat_d2, cat_l2, Nat.zero_le, Nat.zero_add, Nat.le_refl, Nat.reduceAdd, Nat.reduceLeDiff, ne_eq, not_false_eq_true, Nat.reduceEqDiff, sI_mk, wI_mk, wCp_mk, Option.toList, List.nil_append, List.cons_append, kd_20, kd_21, kd_22, kd_23, kd_24, kd_25, kd_26, kd_27, kd_28, kd_29, kd_30, kd_31, kd_32, kd_33, kd_34, kd_35, kd_36, kd_37, kd_38, kd_39, kd_40, kd_41, kd_42, kd_43, kd_44, kd_45, kd_46, kd_47, kd_48, kd_49, kd_50, kd_51, kd_52, kd_53, kd_54, e1, hn, if_false, rr1_0 hD, rr1_1 hD, rr1_2 hD, rr1_3 hD, rr1_5 hD, rr2_0 hD, rr2_1 hD, rr2_2 hD, rr2_3 hD, rr3_0 hD, rr3_1 hD, rr3_2 hD, rr3_3 hD, rr3_4 hD, rr3_5 hD, rr5_0 hD, rl20 hD, rl21 hD, rl22 hD, rl23 hD, rl24 hD, rl25 hD, rl26 hD, rl27 hD, rl28 hD, rl29 hD, rl30 hD, rl31 hD, hi, hx, e2, e6, B40_2, jb40_2, ik_succ, ih2]
    unfold kgL
    rw [List.foldl_cons]
    by_cases hb : kB x = p <;> simp [hb]
theorem kg_ok (hD : StD r i) {p : Int32} {xs : List Sk} (h : LayS f i xs) : Cl (d + 1) 40 [vr 3 i, vi p] (f, r) Q ↔ Q (.inl (some (vi (kgL p xs 0)))) (f, r) := by
  rw [en40]
  simp only [B40_0, ex_iconst, ex_bipush, ex_sipush, ex_ldc, ex_ldcs, ex_fconst, ex_dconst, ex_iload_n, ex_iload, ex_aload_n, ex_aload, ex_dload_n, ex_dload, ex_fload, ex_istore_n, ex_istore, ex_fstore, ex_dstore_n, ex_dstore, ex_astore_n, ex_astore, ex_iinc, ex_ginc, ex_pop_i, ex_pop_r, ex_dup_i, ex_dup_r, ex_dup_x1, ex_dup2, ex_iadd, ex_isub, ex_imul, ex_iand, ex_ior, ex_ixor, ex_ishl, ex_ishr, ex_idiv, ex_irem, ex_ineg, ex_i2l, ex_i2c, ex_i2b, ex_i2f, ex_i2d, ex_f2d, ex_fdiv, ex_ddiv, ex_lcmp, ex_dcmp, ex_getI, ex_getR, ex_putI, ex_putB, ex_putZ, ex_putR, ex_getsI, ex_getsR, ex_iald, ex_cald, ex_iast, ex_cast, ex_aast, ex_alen, ex_copy1, ex_copy2, ex_throw, ex_goto, ex_fall, ex_if_eq, ex_ic_eq, ex_if_ne, ex_ic_ne, ex_if_lt, ex_ic_lt, ex_if_ge, ex_ic_ge, ex_if_gt, ex_ic_gt, ex_if_le, ex_ic_le, ex_switch, ex_ireturn, ex_ireturn_z, ex_ireturn_b, ex_ireturn_c, ex_areturn, ex_freturn, ex_dreturn, ex_return, ex_is0, ex_is1, ex_is2, ex_is3, ex_is4, ex_is5, ex_is6, ex_is7, ex_iv1, ex_iv2, ex_iv3, ex_iv4, ex_iv5, ex_iv6, ex_iv7, ex_ip1, ex_ip2, ex_ip3, ex_ip4, ex_ip5, ex_ip6, ex_ip7, ex_iu1, ex_iu2, ex_iu3, ex_iu4, ex_iu5, ex_iu6, ex_iu7, List.getD_cons_zero, List.getD_cons_succ, List.set_cons_zero, List.set_cons_succ, isI_i, isA_r, isD_d, isF_f, GInc, ko_v, ko_n, cat_i2, cat_r2, cat_n2, cat_f2, cat_d2, cat_l2, Nat.zero_le, Nat.zero_add, Nat.le_refl, Nat.reduceAdd, Nat.reduceLeDiff, ne_eq, not_false_eq_true, Nat.reduceEqDiff, sI_mk, wI_mk, wCp_mk, Option.toList, List.nil_append, List.cons_append, kd_20, kd_21, kd_22, kd_23, kd_24, kd_25, kd_26, kd_27, kd_28, kd_29, kd_30, kd_31, kd_32, kd_33, kd_34, kd_35, kd_36, kd_37, kd_38, kd_39, kd_40, kd_41, kd_42, kd_43, kd_44, kd_45, kd_46, kd_47, kd_48, kd_49, kd_50, kd_51, kd_52, kd_53, kd_54]
  exact kg_lp hD xs [] 0 h
theorem wo_lp (hD : StD r i) {p : Int32} : ∀ (post pre : List Sk) (a : Int32), LayS f i (pre ++ post) → (Jx d 46 1 [vr 3 i, vi p, vi a, vi (ik pre.length)] [] (f, r) Q ↔ Q (.inl (some (vi (woL p post a)))) (f, r)) := by
  intro post
  induction post with
  | nil =>
    intro pre a h
    rw [List.append_nil] at h
    have e1 := h.1
    have hc := le_self_i (a := ik pre.length)
    rw [jb46_1]
    simp only [B46_1, B46_3, jb46_3, ex_iconst, ex_bipush, ex_sipush, ex_ldc, ex_ldcs, ex_fconst, ex_dconst, ex_iload_n, ex_iload, ex_aload_n, ex_aload, ex_dload_n, ex_dload, ex_fload, ex_istore_n, ex_istore, ex_fstore, ex_dstore_n, ex_dstore, ex_astore_n, ex_astore, ex_iinc, ex_ginc, ex_pop_i, ex_pop_r, ex_dup_i, ex_dup_r, ex_dup_x1, ex_dup2, ex_iadd, ex_isub, ex_imul, ex_iand, ex_ior, ex_ixor, ex_ishl, ex_ishr, ex_idiv, ex_irem, ex_ineg, ex_i2l, ex_i2c, ex_i2b, ex_i2f, ex_i2d, ex_f2d, ex_fdiv, ex_ddiv, ex_lcmp, ex_dcmp, ex_getI, ex_getR, ex_putI, ex_putB, ex_putZ, ex_putR, ex_getsI, ex_getsR, ex_iald, ex_cald, ex_iast, ex_cast, ex_aast, ex_alen, ex_copy1, ex_copy2, ex_throw, ex_goto, ex_fall, ex_if_eq, ex_ic_eq, ex_if_ne, ex_ic_ne, ex_if_lt, ex_ic_lt, ex_if_ge, ex_ic_ge, ex_if_gt, ex_ic_gt, ex_if_le, ex_ic_le, ex_switch, ex_ireturn, ex_ireturn_z, ex_ireturn_b, ex_ireturn_c, ex_areturn, ex_freturn, ex_dreturn, ex_return, ex_is0, ex_is1, ex_is2, ex_is3, ex_is4, ex_is5, ex_is6, ex_is7, ex_iv1, ex_iv2, ex_iv3, ex_iv4, ex_iv5, ex_iv6, ex_iv7, ex_ip1, ex_ip2, ex_ip3, ex_ip4, ex_ip5, ex_ip6, ex_ip7, ex_iu1, ex_iu2, ex_iu3, ex_iu4, ex_iu5, ex_iu6, ex_iu7, List.getD_cons_zero, List.getD_cons_succ, List.set_cons_zero, List.set_cons_succ, isI_i, isA_r, isD_d, isF_f, GInc, ko_v, ko_n, cat_i2, cat_r2, cat_n2, cat_f2, cat_d2, cat_l2, Nat.zero_le, Nat.zero_add, Nat.le_refl, Nat.reduceAdd, Nat.reduceLeDiff, ne_eq, not_false_eq_true, Nat.reduceEqDiff, sI_mk, wI_mk, wCp_mk, Option.toList, List.nil_append, List.cons_append, kd_20, kd_21, kd_22, kd_23, kd_24, kd_25, kd_26, kd_27, kd_28, kd_29, kd_30, kd_31, kd_32, kd_33, kd_34, kd_35, kd_36, kd_37, kd_38, kd_39, kd_40, kd_41, kd_42, kd_43, kd_44, kd_45, kd_46, kd_47, kd_48, kd_49, kd_50, kd_51, kd_52, kd_53, kd_54, e1, hc, if_true]
    rfl
  | cons x post ih =>
    intro pre a h
    have e1 := h.1
    obtain ⟨⟨-, e2, e3, -, -, e6⟩, hl, hi, hx, hn⟩ := h.mid
    have ih2 := fun a => ih (pre ++ [x]) a (by rw [← app_one]; exact h)
    rw [len_one] at ih2
    rw [jb46_1]
    simp only [B46_1, ex_iconst, ex_bipush, ex_sipush, ex_ldc, ex_ldcs, ex_fconst, ex_dconst, ex_iload_n, ex_iload, ex_aload_n, ex_aload, ex_dload_n, ex_dload, ex_fload, ex_istore_n, ex_istore, ex_fstore, ex_dstore_n, ex_dstore, ex_astore_n, ex_astore, ex_iinc, ex_ginc, ex_pop_i, ex_pop_r, ex_dup_i, ex_dup_r, ex_dup_x1, ex_dup2, ex_iadd, ex_isub, ex_imul, ex_iand, ex_ior, ex_ixor, ex_ishl, ex_ishr, ex_idiv, ex_irem, ex_ineg, ex_i2l, ex_i2c, ex_i2b, ex_i2f, ex_i2d, ex_f2d, ex_fdiv, ex_ddiv, ex_lcmp, ex_dcmp, ex_getI, ex_getR, ex_putI, ex_putB, ex_putZ, ex_putR, ex_getsI, ex_getsR, ex_iald, ex_cald, ex_iast, ex_cast, ex_aast, ex_alen, ex_copy1, ex_copy2, ex_throw, ex_goto, ex_fall, ex_if_eq, ex_ic_eq, ex_if_ne, ex_ic_ne, ex_if_lt, ex_ic_lt, ex_if_ge, ex_ic_ge, ex_if_gt, ex_ic_gt, ex_if_le, ex_ic_le, ex_switch, ex_ireturn, ex_ireturn_z, ex_ireturn_b, ex_ireturn_c, ex_areturn, ex_freturn, ex_dreturn, ex_return, ex_is0, ex_is1, ex_is2, ex_is3, ex_is4, ex_is5, ex_is6, ex_is7, ex_iv1, ex_iv2, ex_iv3, ex_iv4, ex_iv5, ex_iv6, ex_iv7, ex_ip1, ex_ip2, ex_ip3, ex_ip4, ex_ip5, ex_ip6, ex_ip7, ex_iu1, ex_iu2, ex_iu3, ex_iu4, ex_iu5, ex_iu6, ex_iu7, List.getD_cons_zero, List.getD_cons_succ, List.set_cons_zero, List.set_cons_succ, isI_i, isA_r, isD_d, isF_f, GInc, ko_v, ko_n, cat_i2, cat_r2, cat_n2, cat_f2, cat_d2, cat_l2, Nat.zero_le, Nat.zero_add, Nat.le_refl, Nat.reduceAdd, Nat.reduceLeDiff, ne_eq, not_false_eq_true, Nat.reduceEqDiff, sI_mk, wI_mk, wCp_mk, Option.toList, List.nil_append, List.cons_append, kd_20, kd_21, kd_22, kd_23, kd_24, kd_25, kd_26, kd_27, kd_28, kd_29, kd_30, kd_31, kd_32, kd_33, kd_34, kd_35, kd_36, kd_37, kd_38, kd_39, kd_40, kd_41, kd_42, kd_43, kd_44, kd_45, kd_46, kd_47, kd_48, kd_49, kd_50, kd_51, kd_52, kd_53, kd_54, e1, hn, if_false, rr1_0 hD, rr1_1 hD, rr1_2 hD, rr1_3 hD, rr1_5 hD, rr2_0 hD, rr2_1 hD, rr2_2 hD, rr2_3 hD, rr3_0 hD, rr3_1 hD, rr3_2 hD, rr3_3 hD, rr3_4 hD, rr3_5 hD, rr5_0 hD, rl20 hD, rl21 hD, rl22 hD, rl23 hD, rl24 hD, rl25 hD, rl26 hD, rl27 hD, rl28 hD, rl29 hD, rl30 hD, rl31 hD, hi, hx, e2, e3, e6, B46_2, jb46_2, ik_succ, ih2]
    unfold woL
    rw [List.foldl_cons]
    by_cases hb : kB x = p <;> simp [hb]
theorem wo_ok (hD : StD r i) {p : Int32} {xs : List Sk} (h : LayS f i xs) : Cl (d + 1) 46 [vr 3 i, vi p] (f, r) Q ↔ Q (.inl (some (vi (woL p xs 0)))) (f, r) := by
  rw [en46]
  simp only [B46_0, ex_iconst, ex_bipush, ex_sipush, ex_ldc, ex_ldcs, ex_fconst, ex_dconst, ex_iload_n, ex_iload, ex_aload_n, ex_aload, ex_dload_n, ex_dload, ex_fload, ex_istore_n, ex_istore, ex_fstore, ex_dstore_n, ex_dstore, ex_astore_n, ex_astore, ex_iinc, ex_ginc, ex_pop_i, ex_pop_r, ex_dup_i, ex_dup_r, ex_dup_x1, ex_dup2, ex_iadd, ex_isub, ex_imul, ex_iand, ex_ior, ex_ixor, ex_ishl, ex_ishr, ex_idiv, ex_irem, ex_ineg, ex_i2l, ex_i2c, ex_i2b, ex_i2f, ex_i2d, ex_f2d, ex_fdiv, ex_ddiv, ex_lcmp, ex_dcmp, ex_getI, ex_getR, ex_putI, ex_putB, ex_putZ, ex_putR, ex_getsI, ex_getsR, ex_iald, ex_cald, ex_iast, ex_cast, ex_aast, ex_alen, ex_copy1, ex_copy2, ex_throw, ex_goto, ex_fall, ex_if_eq, ex_ic_eq, ex_if_ne, ex_ic_ne, ex_if_lt, ex_ic_lt, ex_if_ge, ex_ic_ge, ex_if_gt, ex_ic_gt, ex_if_le, ex_ic_le, ex_switch, ex_ireturn, ex_ireturn_z, ex_ireturn_b, ex_ireturn_c, ex_areturn, ex_freturn, ex_dreturn, ex_return, ex_is0, ex_is1, ex_is2, ex_is3, ex_is4, ex_is5, ex_is6, ex_is7, ex_iv1, ex_iv2, ex_iv3, ex_iv4, ex_iv5, ex_iv6, ex_iv7, ex_ip1, ex_ip2, ex_ip3, ex_ip4, ex_ip5, ex_ip6, ex_ip7, ex_iu1, ex_iu2, ex_iu3, ex_iu4, ex_iu5, ex_iu6, ex_iu7, List.getD_cons_zero, List.getD_cons_succ, List.set_cons_zero, List.set_cons_succ, isI_i, isA_r, isD_d, isF_f, GInc, ko_v, ko_n, cat_i2, cat_r2, cat_n2, cat_f2, cat_d2, cat_l2, Nat.zero_le, Nat.zero_add, Nat.le_refl, Nat.reduceAdd, Nat.reduceLeDiff, ne_eq, not_false_eq_true, Nat.reduceEqDiff, sI_mk, wI_mk, wCp_mk, Option.toList, List.nil_append, List.cons_append, kd_20, kd_21, kd_22, kd_23, kd_24, kd_25, kd_26, kd_27, kd_28, kd_29, kd_30, kd_31, kd_32, kd_33, kd_34, kd_35, kd_36, kd_37, kd_38, kd_39, kd_40, kd_41, kd_42, kd_43, kd_44, kd_45, kd_46, kd_47, kd_48, kd_49, kd_50, kd_51, kd_52, kd_53, kd_54]
  exact wo_lp hD xs [] 0 h
theorem sl_lp (hD : StD r i) {z : Int32} : ∀ (post pre : List Sk), LayS f i (pre ++ post) → (Jx d 41 1 [vr 3 i, vi z, vi (ik pre.length)] [] (f, r) Q ↔ Q (.inl (some (vi (slL z post pre.length)))) (f, r)) := by
  intro post
  induction post with
  | nil =>
    intro pre h
    rw [List.append_nil] at h
    have e1 := h.1
    have hc := le_self_i (a := ik pre.length)
    rw [jb41_1]
    simp only [B41_1, B41_3, jb41_3, ex_iconst, ex_bipush, ex_sipush, ex_ldc, ex_ldcs, ex_fconst, ex_dconst, ex_iload_n, ex_iload, ex_aload_n, ex_aload, ex_dload_n, ex_dload, ex_fload, ex_istore_n, ex_istore, ex_fstore, ex_dstore_n, ex_dstore, ex_astore_n, ex_astore, ex_iinc, ex_ginc, ex_pop_i, ex_pop_r, ex_dup_i, ex_dup_r, ex_dup_x1, ex_dup2, ex_iadd, ex_isub, ex_imul, ex_iand, ex_ior, ex_ixor, ex_ishl, ex_ishr, ex_idiv, ex_irem, ex_ineg, ex_i2l, ex_i2c, ex_i2b, ex_i2f, ex_i2d, ex_f2d, ex_fdiv, ex_ddiv, ex_lcmp, ex_dcmp, ex_getI, ex_getR, ex_putI, ex_putB, ex_putZ, ex_putR, ex_getsI, ex_getsR, ex_iald, ex_cald, ex_iast, ex_cast, ex_aast, ex_alen, ex_copy1, ex_copy2, ex_throw, ex_goto, ex_fall, ex_if_eq, ex_ic_eq, ex_if_ne, ex_ic_ne, ex_if_lt, ex_ic_lt, ex_if_ge, ex_ic_ge, ex_if_gt, ex_ic_gt, ex_if_le, ex_ic_le, ex_switch, ex_ireturn, ex_ireturn_z, ex_ireturn_b, ex_ireturn_c, ex_areturn, ex_freturn, ex_dreturn, ex_return, ex_is0, ex_is1, ex_is2, ex_is3, ex_is4, ex_is5, ex_is6, ex_is7, ex_iv1, ex_iv2, ex_iv3, ex_iv4, ex_iv5, ex_iv6, ex_iv7, ex_ip1, ex_ip2, ex_ip3, ex_ip4, ex_ip5, ex_ip6, ex_ip7, ex_iu1, ex_iu2, ex_iu3, ex_iu4, ex_iu5, ex_iu6, ex_iu7, List.getD_cons_zero, List.getD_cons_succ, List.set_cons_zero, List.set_cons_succ, isI_i, isA_r, isD_d, isF_f, GInc, ko_v, ko_n, cat_i2, cat_r2, cat_n2, cat_f2, cat_d2, cat_l2, Nat.zero_le, Nat.zero_add, Nat.le_refl, Nat.reduceAdd, Nat.reduceLeDiff, ne_eq, not_false_eq_true, Nat.reduceEqDiff, sI_mk, wI_mk, wCp_mk, Option.toList, List.nil_append, List.cons_append, kd_20, kd_21, kd_22, kd_23, kd_24, kd_25, kd_26, kd_27, kd_28, kd_29, kd_30, kd_31, kd_32, kd_33, kd_34, kd_35, kd_36, kd_37, kd_38, kd_39, kd_40, kd_41, kd_42, kd_43, kd_44, kd_45, kd_46, kd_47, kd_48, kd_49, kd_50, kd_51, kd_52, kd_53, kd_54, e1, hc, if_true]
    rfl
  | cons x post ih =>
    intro pre h
    have e1 := h.1
    obtain ⟨⟨e2, -, -, -, -, -⟩, hl, hi, hx, hn⟩ := h.mid
    have ih2 := ih (pre ++ [x]) (by rw [← app_one]; exact h)
    rw [len_one] at ih2
    rw [jb41_1]
    simp only [B41_1, ex_iconst, ex_bipush, ex_sipush, ex_ldc, ex_ldcs, ex_fconst, ex_dconst, ex_iload_n, ex_iload, ex_aload_n, ex_aload, ex_dload_n, ex_dload, ex_fload, ex_istore_n, ex_istore, ex_fstore, ex_dstore_n, ex_dstore, ex_astore_n, ex_astore, ex_iinc, ex_ginc, ex_pop_i, ex_pop_r, ex_dup_i, ex_dup_r, ex_dup_x1, ex_dup2, ex_iadd, ex_isub, ex_imul, ex_iand, ex_ior, ex_ixor, ex_ishl, ex_ishr, ex_idiv, ex_irem, ex_ineg, ex_i2l, ex_i2c, ex_i2b, ex_i2f, ex_i2d, ex_f2d, ex_fdiv, ex_ddiv, ex_lcmp, ex_dcmp, ex_getI, ex_getR, ex_putI, ex_putB, ex_putZ, ex_putR, ex_getsI, ex_getsR, ex_iald, ex_cald, ex_iast, ex_cast, ex_aast, ex_alen, ex_copy1, ex_copy2, ex_throw, ex_goto, ex_fall, ex_if_eq, ex_ic_eq, ex_if_ne, ex_ic_ne, ex_if_lt, ex_ic_lt, ex_if_ge, ex_ic_ge, ex_if_gt, ex_ic_gt, ex_if_le, ex_ic_le, ex_switch, ex_ireturn, ex_ireturn_z, ex_ireturn_b, ex_ireturn_c, ex_areturn, ex_freturn, ex_dreturn, ex_return, ex_is0, ex_is1, ex_is2, ex_is3, ex_is4, ex_is5, ex_is6, ex_is7, ex_iv1, ex_iv2, ex_iv3, ex_iv4, ex_iv5, ex_iv6, ex_iv7, ex_ip1, ex_ip2, ex_ip3, ex_ip4, ex_ip5, ex_ip6, ex_ip7, ex_iu1, ex_iu2, ex_iu3, ex_iu4, ex_iu5, ex_iu6, ex_iu7, List.getD_cons_zero, List.getD_cons_succ, List.set_cons_zero, List.set_cons_succ, isI_i, isA_r, isD_d, isF_f, GInc, ko_v, ko_n, cat_i2, cat_r2, cat_n2, cat_f2, cat_d2, cat_l2, Nat.zero_le, Nat.zero_add, Nat.le_refl, Nat.reduceAdd, Nat.reduceLeDiff, ne_eq, not_false_eq_true, Nat.reduceEqDiff, sI_mk, wI_mk, wCp_mk, Option.toList, List.nil_append, List.cons_append, kd_20, kd_21, kd_22, kd_23, kd_24, kd_25, kd_26, kd_27, kd_28, kd_29, kd_30, kd_31, kd_32, kd_33, kd_34, kd_35, kd_36, kd_37, kd_38, kd_39, kd_40, kd_41, kd_42, kd_43, kd_44, kd_45, kd_46, kd_47, kd_48, kd_49, kd_50, kd_51, kd_52, kd_53, kd_54, e1, hn, if_false, rr1_0 hD, rr1_1 hD, rr1_2 hD, rr1_3 hD, rr1_5 hD, rr2_0 hD, rr2_1 hD, rr2_2 hD, rr2_3 hD, rr3_0 hD, rr3_1 hD, rr3_2 hD, rr3_3 hD, rr3_4 hD, rr3_5 hD, rr5_0 hD, rl20 hD, rl21 hD, rl22 hD, rl23 hD, rl24 hD, rl25 hD, rl26 hD, rl27 hD, rl28 hD, rl29 hD, rl30 hD, rl31 hD, hi, hx, e2, B41_2, jb41_2, ik_succ, ih2]
    rw [slL_c]
    by_cases hb : kId x = z <;> simp [hb]
theorem sl_ok (hD : StD r i) {z : Int32} {xs : List Sk} (h : LayS f i xs) : Cl (d + 1) 41 [vr 3 i, vi z] (f, r) Q ↔ Q (.inl (some (vi (slL z xs 0)))) (f, r) := by
  rw [en41]
  simp only [B41_0, ex_iconst, ex_bipush, ex_sipush, ex_ldc, ex_ldcs, ex_fconst, ex_dconst, ex_iload_n, ex_iload, ex_aload_n, ex_aload, ex_dload_n, ex_dload, ex_fload, ex_istore_n, ex_istore, ex_fstore, ex_dstore_n, ex_dstore, ex_astore_n, ex_astore, ex_iinc, ex_ginc, ex_pop_i, ex_pop_r, ex_dup_i, ex_dup_r, ex_dup_x1, ex_dup2, ex_iadd, ex_isub, ex_imul, ex_iand, ex_ior, ex_ixor, ex_ishl, ex_ishr, ex_idiv, ex_irem, ex_ineg, ex_i2l, ex_i2c, ex_i2b, ex_i2f, ex_i2d, ex_f2d, ex_fdiv, ex_ddiv, ex_lcmp, ex_dcmp, ex_getI, ex_getR, ex_putI, ex_putB, ex_putZ, ex_putR, ex_getsI, ex_getsR, ex_iald, ex_cald, ex_iast, ex_cast, ex_aast, ex_alen, ex_copy1, ex_copy2, ex_throw, ex_goto, ex_fall, ex_if_eq, ex_ic_eq, ex_if_ne, ex_ic_ne, ex_if_lt, ex_ic_lt, ex_if_ge, ex_ic_ge, ex_if_gt, ex_ic_gt, ex_if_le, ex_ic_le, ex_switch, ex_ireturn, ex_ireturn_z, ex_ireturn_b, ex_ireturn_c, ex_areturn, ex_freturn, ex_dreturn, ex_return, ex_is0, ex_is1, ex_is2, ex_is3, ex_is4, ex_is5, ex_is6, ex_is7, ex_iv1, ex_iv2, ex_iv3, ex_iv4, ex_iv5, ex_iv6, ex_iv7, ex_ip1, ex_ip2, ex_ip3, ex_ip4, ex_ip5, ex_ip6, ex_ip7, ex_iu1, ex_iu2, ex_iu3, ex_iu4, ex_iu5, ex_iu6, ex_iu7, List.getD_cons_zero, List.getD_cons_succ, List.set_cons_zero, List.set_cons_succ, isI_i, isA_r, isD_d, isF_f, GInc, ko_v, ko_n, cat_i2, cat_r2, cat_n2, cat_f2, cat_d2, cat_l2, Nat.zero_le, Nat.zero_add, Nat.le_refl, Nat.reduceAdd, Nat.reduceLeDiff, ne_eq, not_false_eq_true, Nat.reduceEqDiff, sI_mk, wI_mk, wCp_mk, Option.toList, List.nil_append, List.cons_append, kd_20, kd_21, kd_22, kd_23, kd_24, kd_25, kd_26, kd_27, kd_28, kd_29, kd_30, kd_31, kd_32, kd_33, kd_34, kd_35, kd_36, kd_37, kd_38, kd_39, kd_40, kd_41, kd_42, kd_43, kd_44, kd_45, kd_46, kd_47, kd_48, kd_49, kd_50, kd_51, kd_52, kd_53, kd_54]
  exact sl_lp hD xs [] h
theorem take_ok (hD : StD r i) {k : Nat} {a : Int32} (hk : k < 50) : Cl (d + 1) 43 [vr 3 i, vi (ik k), vi a] (f, r) Q ↔ Q (.inl (some (vi (a * f 26 i k)))) (up3 f 25 i k (f 25 i k - a), r) := by
  have hi : inb (ik k) 50 := (inb_ik (by omega)).mpr hk
  have hx : ix (ik k) = k := ix_ik (by omega)
  rw [en43]
  simp only [B43_0, ex_iconst, ex_bipush, ex_sipush, ex_ldc, ex_ldcs, ex_fconst, ex_dconst, ex_iload_n, ex_iload, ex_aload_n, ex_aload, ex_dload_n, ex_dload, ex_fload, ex_istore_n, ex_istore, ex_fstore, ex_dstore_n, ex_dstore, ex_astore_n, ex_astore, ex_iinc, ex_ginc, ex_pop_i, ex_pop_r, ex_dup_i, ex_dup_r, ex_dup_x1, ex_dup2, ex_iadd, ex_isub, ex_imul, ex_iand, ex_ior, ex_ixor, ex_ishl, ex_ishr, ex_idiv, ex_irem, ex_ineg, ex_i2l, ex_i2c, ex_i2b, ex_i2f, ex_i2d, ex_f2d, ex_fdiv, ex_ddiv, ex_lcmp, ex_dcmp, ex_getI, ex_getR, ex_putI, ex_putB, ex_putZ, ex_putR, ex_getsI, ex_getsR, ex_iald, ex_cald, ex_iast, ex_cast, ex_aast, ex_alen, ex_copy1, ex_copy2, ex_throw, ex_goto, ex_fall, ex_if_eq, ex_ic_eq, ex_if_ne, ex_ic_ne, ex_if_lt, ex_ic_lt, ex_if_ge, ex_ic_ge, ex_if_gt, ex_ic_gt, ex_if_le, ex_ic_le, ex_switch, ex_ireturn, ex_ireturn_z, ex_ireturn_b, ex_ireturn_c, ex_areturn, ex_freturn, ex_dreturn, ex_return, ex_is0, ex_is1, ex_is2, ex_is3, ex_is4, ex_is5, ex_is6, ex_is7, ex_iv1, ex_iv2, ex_iv3, ex_iv4, ex_iv5, ex_iv6, ex_iv7, ex_ip1, ex_ip2, ex_ip3, ex_ip4, ex_ip5, ex_ip6, ex_ip7, ex_iu1, ex_iu2, ex_iu3, ex_iu4, ex_iu5, ex_iu6, ex_iu7, List.getD_cons_zero, List.getD_cons_succ, List.set_cons_zero, List.set_cons_succ, isI_i, isA_r, isD_d, isF_f, GInc, ko_v, ko_n, cat_i2, cat_r2, cat_n2, cat_f2, cat_d2, cat_l2, Nat.zero_le, Nat.zero_add, Nat.le_refl, Nat.reduceAdd, Nat.reduceLeDiff, ne_eq, not_false_eq_true, Nat.reduceEqDiff, sI_mk, wI_mk, wCp_mk, Option.toList, List.nil_append, List.cons_append, kd_20, kd_21, kd_22, kd_23, kd_24, kd_25, kd_26, kd_27, kd_28, kd_29, kd_30, kd_31, kd_32, kd_33, kd_34, kd_35, kd_36, kd_37, kd_38, kd_39, kd_40, kd_41, kd_42, kd_43, kd_44, kd_45, kd_46, kd_47, kd_48, kd_49, kd_50, kd_51, kd_52, kd_53, kd_54, rr1_0 hD, rr1_1 hD, rr1_2 hD, rr1_3 hD, rr1_5 hD, rr2_0 hD, rr2_1 hD, rr2_2 hD, rr2_3 hD, rr3_0 hD, rr3_1 hD, rr3_2 hD, rr3_3 hD, rr3_4 hD, rr3_5 hD, rr5_0 hD, rl20 hD, rl21 hD, rl22 hD, rl23 hD, rl24 hD, rl25 hD, rl26 hD, rl27 hD, rl28 hD, rl29 hD, rl30 hD, rl31 hD, hi, hx, up3_at]
  simp
theorem cps_ok (hD : StD r i) {k n : Nat} (hk : k < 50) (hn : n < 50) : Cl (d + 1) 45 [vr 3 i, vi (ik k), vi (ik n)] (f, r) Q ↔
    Q (.inl none) (up3 (up3 (up3 (up3 (up3 (up3 f 24 i n (f 24 i k)) 25 i n (f 25 i k)) 26 i n (f 26 i k)) 27 i n (f 27 i k)) 28 i n (f 28 i k)) 29 i n (f 29 i k), r) := by
  have hi : inb (ik k) 50 := (inb_ik (by omega)).mpr hk
  have hx : ix (ik k) = k := ix_ik (by omega)
  have hi2 : inb (ik n) 50 := (inb_ik (by omega)).mpr hn
  have hx2 : ix (ik n) = n := ix_ik (by omega)
  rw [en45]
  simp only [B45_0, ex_iconst, ex_bipush, ex_sipush, ex_ldc, ex_ldcs, ex_fconst, ex_dconst, ex_iload_n, ex_iload, ex_aload_n, ex_aload, ex_dload_n, ex_dload, ex_fload, ex_istore_n, ex_istore, ex_fstore, ex_dstore_n, ex_dstore, ex_astore_n, ex_astore, ex_iinc, ex_ginc, ex_pop_i, ex_pop_r, ex_dup_i, ex_dup_r, ex_dup_x1, ex_dup2, ex_iadd, ex_isub, ex_imul, ex_iand, ex_ior, ex_ixor, ex_ishl, ex_ishr, ex_idiv, ex_irem, ex_ineg, ex_i2l, ex_i2c, ex_i2b, ex_i2f, ex_i2d, ex_f2d, ex_fdiv, ex_ddiv, ex_lcmp, ex_dcmp, ex_getI, ex_getR, ex_putI, ex_putB, ex_putZ, ex_putR, ex_getsI, ex_getsR, ex_iald, ex_cald, ex_iast, ex_cast, ex_aast, ex_alen, ex_copy1, ex_copy2, ex_throw, ex_goto, ex_fall, ex_if_eq, ex_ic_eq, ex_if_ne, ex_ic_ne, ex_if_lt, ex_ic_lt, ex_if_ge, ex_ic_ge, ex_if_gt, ex_ic_gt, ex_if_le, ex_ic_le, ex_switch, ex_ireturn, ex_ireturn_z, ex_ireturn_b, ex_ireturn_c, ex_areturn, ex_freturn, ex_dreturn, ex_return, ex_is0, ex_is1, ex_is2, ex_is3, ex_is4, ex_is5, ex_is6, ex_is7, ex_iv1, ex_iv2, ex_iv3, ex_iv4, ex_iv5, ex_iv6, ex_iv7, ex_ip1, ex_ip2, ex_ip3, ex_ip4, ex_ip5, ex_ip6, ex_ip7, ex_iu1, ex_iu2, ex_iu3, ex_iu4, ex_iu5, ex_iu6, ex_iu7, List.getD_cons_zero, List.getD_cons_succ, List.set_cons_zero, List.set_cons_succ, isI_i, isA_r, isD_d, isF_f, GInc, ko_v, ko_n, cat_i2, cat_r2, cat_n2, cat_f2, cat_d2, cat_l2, Nat.zero_le, Nat.zero_add, Nat.le_refl, Nat.reduceAdd, Nat.reduceLeDiff, ne_eq, not_false_eq_true, Nat.reduceEqDiff, sI_mk, wI_mk, wCp_mk, Option.toList, List.nil_append, List.cons_append, kd_20, kd_21, kd_22, kd_23, kd_24, kd_25, kd_26, kd_27, kd_28, kd_29, kd_30, kd_31, kd_32, kd_33, kd_34, kd_35, kd_36, kd_37, kd_38, kd_39, kd_40, kd_41, kd_42, kd_43, kd_44, kd_45, kd_46, kd_47, kd_48, kd_49, kd_50, kd_51, kd_52, kd_53, kd_54, rr1_0 hD, rr1_1 hD, rr1_2 hD, rr1_3 hD, rr1_5 hD, rr2_0 hD, rr2_1 hD, rr2_2 hD, rr2_3 hD, rr3_0 hD, rr3_1 hD, rr3_2 hD, rr3_3 hD, rr3_4 hD, rr3_5 hD, rr5_0 hD, rl20 hD, rl21 hD, rl22 hD, rl23 hD, rl24 hD, rl25 hD, rl26 hD, rl27 hD, rl28 hD, rl29 hD, rl30 hD, rl31 hD, hi, hx, hi2, hx2, up3_at]
  simp
/-- the slots from o on hold l -/
def MemS (f : SF) (i o : Nat) (l : List Sk) : Prop := ∀ k x, l[k]? = some x → AtS f i (o + k) x
theorem drop_lp (hD : StD r i) {n : Nat} (hn : n ≤ 50) : ∀ (post : List Sk) (f : SF) (kl : List Sk) (o : Nat), o + post.length = n → kl.length ≤ o → f 3 i 6 = ik n → MemS f i 0 kl → MemS f i o post →
    (∀ f', LayS f' i (kl ++ post.filter (fun x => decide (0 < kW x))) → Fr tgS i f f' → f' 3 i 7 = f 3 i 7 → Q (.inl none) (f', r)) → Jx (d + 1) 44 1 [vr 3 i, vi (ik kl.length), vi (ik o)] [] (f, r) Q := by
  intro post
  induction post with
  | nil =>
    intro f kl o ho hkl e1 hm hp hq
    have hon : o = n := by simpa using ho
    subst hon
    have hc := le_self_i (a := ik o)
    rw [jb44_1]
    simp only [B44_1, B44_3, jb44_3, ex_iconst, ex_bipush, ex_sipush, ex_ldc, ex_ldcs, ex_fconst, ex_dconst, ex_iload_n, ex_iload, ex_aload_n, ex_aload, ex_dload_n, ex_dload, ex_fload, ex_istore_n, ex_istore, ex_fstore, ex_dstore_n, ex_dstore, ex_astore_n, ex_astore, ex_iinc, ex_ginc, ex_pop_i, ex_pop_r, ex_dup_i, ex_dup_r, ex_dup_x1, ex_dup2, ex_iadd, ex_isub, ex_imul, ex_iand, ex_ior, ex_ixor, ex_ishl, ex_ishr, ex_idiv, ex_irem, ex_ineg, ex_i2l, ex_i2c, ex_i2b, ex_i2f, ex_i2d, ex_f2d, ex_fdiv, ex_ddiv, ex_lcmp, ex_dcmp, ex_getI, ex_getR, ex_putI, ex_putB, ex_putZ, ex_putR, ex_getsI, ex_getsR, ex_iald, ex_cald, ex_iast, ex_cast, ex_aast, ex_alen, ex_copy1, ex_copy2, ex_throw, ex_goto, ex_fall, ex_if_eq, ex_ic_eq, ex_if_ne, ex_ic_ne, ex_if_lt, ex_ic_lt, ex_if_ge, ex_ic_ge, ex_if_gt, ex_ic_gt, ex_if_le, ex_ic_le, ex_switch, ex_ireturn, ex_ireturn_z, ex_ireturn_b, ex_ireturn_c, ex_areturn, ex_freturn, ex_dreturn, ex_return, ex_is0, ex_is1, ex_is2, ex_is3, ex_is4, ex_is5, ex_is6, ex_is7, ex_iv1, ex_iv2, ex_iv3, ex_iv4, ex_iv5, ex_iv6, ex_iv7, ex_ip1, ex_ip2, ex_ip3, ex_ip4, ex_ip5, ex_ip6, ex_ip7, ex_iu1, ex_iu2, ex_iu3, ex_iu4, ex_iu5, ex_iu6, ex_iu7, List.getD_cons_zero, List.getD_cons_succ, List.set_cons_zero, List.set_cons_succ, isI_i, isA_r, isD_d, isF_f, GInc, ko_v, ko_n, cat_i2, cat_r2, cat_n2, cat_f2, cat_d2, cat_l2, Nat.zero_le, Nat.zero_add, Nat.le_refl, Nat.reduceAdd, Nat.reduceLeDiff, ne_eq, not_false_eq_true, Nat.reduceEqDiff, sI_mk, wI_mk, wCp_mk, Option.toList, List.nil_append, List.cons_append, kd_20, kd_21, kd_22, kd_23, kd_24, kd_25, kd_26, kd_27, kd_28, kd_29, kd_30, kd_31, kd_32, kd_33, kd_34, kd_35, kd_36, kd_37, kd_38, kd_39, kd_40, kd_41, kd_42, kd_43, kd_44, kd_45, kd_46, kd_47, kd_48, kd_49, kd_50, kd_51, kd_52, kd_53, kd_54, e1, hc, if_true]
    refine hq _ ⟨?_, by simp; omega, fun k x hx => ?_⟩ (Fr.up rfl) ?_
    · simp [up3]
    · have := hm k x (by simpa using hx)
      simp only [AtS, Nat.zero_add] at this
      simp only [AtS, up3]
      simpa using this
    · simp [up3]
  | cons x post ih =>
    intro f kl o ho hkl e1 hm hp hq
    simp only [List.length_cons] at ho
    obtain ⟨h1, h2, h3, h4, h5, h6⟩ := hp 0 x rfl
    simp only [Nat.add_zero] at h1 h2 h3 h4 h5 h6
    have hc : ¬ ik n ≤ ik o := by rw [ik_le (by omega) (by omega)]; omega
    have hi : inb (ik o) 50 := (inb_ik (by omega)).mpr (by omega)
    have hx : ix (ik o) = o := ix_ik (by omega)
    have hp2 : MemS f i (o + 1) post := fun k y hy => by
      have := hp (k + 1) y (by simpa using hy)
      rw [show o + (k + 1) = o + 1 + k by omega] at this
      exact this
    rw [jb44_1]
    simp only [B44_1, ex_iconst, ex_bipush, ex_sipush, ex_ldc, ex_ldcs, ex_fconst, ex_dconst, ex_iload_n, ex_iload, ex_aload_n, ex_aload, ex_dload_n, ex_dload, ex_fload, ex_istore_n, ex_istore, ex_fstore, ex_dstore_n, ex_dstore, ex_astore_n, ex_astore, ex_iinc, ex_ginc, ex_pop_i, ex_pop_r, ex_dup_i, ex_dup_r, ex_dup_x1, ex_dup2, ex_iadd, ex_isub, ex_imul, ex_iand, ex_ior, ex_ixor, ex_ishl, ex_ishr, ex_idiv, ex_irem, ex_ineg, ex_i2l, ex_i2c, ex_i2b, ex_i2f, ex_i2d, ex_f2d, ex_fdiv, ex_ddiv, ex_lcmp, ex_dcmp, ex_getI, ex_getR, ex_putI, ex_putB, ex_putZ, ex_putR, ex_getsI, ex_getsR, ex_iald, ex_cald, ex_iast, ex_cast, ex_aast, ex_alen, ex_copy1, ex_copy2, ex_throw, ex_goto, ex_fall, ex_if_eq, ex_ic_eq, ex_if_ne, ex_ic_ne, ex_if_lt, ex_ic_lt, ex_if_ge, ex_ic_ge, ex_if_gt, ex_ic_gt, ex_if_le, ex_ic_le, ex_switch, ex_ireturn, ex_ireturn_z, ex_ireturn_b, ex_ireturn_c, ex_areturn, ex_freturn, ex_dreturn, ex_return, ex_is0, ex_is1, ex_is2, ex_is3, ex_is4, ex_is5, ex_is6, ex_is7, ex_iv1, ex_iv2, ex_iv3, ex_iv4, ex_iv5, ex_iv6, ex_iv7, ex_ip1, ex_ip2, ex_ip3, ex_ip4, ex_ip5, ex_ip6, ex_ip7, ex_iu1, ex_iu2, ex_iu3, ex_iu4, ex_iu5, ex_iu6, ex_iu7, List.getD_cons_zero, List.getD_cons_succ, List.set_cons_zero, List.set_cons_succ, isI_i, isA_r, isD_d, isF_f, GInc, ko_v, ko_n, cat_i2, cat_r2, cat_n2, cat_f2, cat_d2, cat_l2, Nat.zero_le, Nat.zero_add, Nat.le_refl, Nat.reduceAdd, Nat.reduceLeDiff, ne_eq, not_false_eq_true, Nat.reduceEqDiff, sI_mk, wI_mk, wCp_mk, Option.toList, List.nil_append, List.cons_append, kd_20, kd_21, kd_22, kd_23, kd_24, kd_25, kd_26, kd_27, kd_28, kd_29, kd_30, kd_31, kd_32, kd_33, kd_34, kd_35, kd_36, kd_37, kd_38, kd_39, kd_40, kd_41, kd_42, kd_43, kd_44, kd_45, kd_46, kd_47, kd_48, kd_49, kd_50, kd_51, kd_52, kd_53, kd_54, e1, hc, if_false, rr1_0 hD, rr1_1 hD, rr1_2 hD, rr1_3 hD, rr1_5 hD, rr2_0 hD, rr2_1 hD, rr2_2 hD, rr2_3 hD, rr3_0 hD, rr3_1 hD, rr3_2 hD, rr3_3 hD, rr3_4 hD, rr3_5 hD, rr5_0 hD, rl20 hD, rl21 hD, rl22 hD, rl23 hD, rl24 hD, rl25 hD, rl26 hD, rl27 hD, rl28 hD, rl29 hD, rl30 hD, rl31 hD, hi, hx, h2]
    by_cases hw : kW x ≤ 0
    · simp only [hw, if_true, B44_2, jb44_2, ex_iconst, ex_bipush, ex_sipush, ex_ldc, ex_ldcs, ex_fconst, ex_dconst, ex_iload_n, ex_iload, ex_aload_n, ex_aload, ex_dload_n, ex_dload, ex_fload, ex_istore_n, ex_istore, ex_fstore, ex_dstore_n, ex_dstore, ex_astore_n, ex_astore, ex_iinc, ex_ginc, ex_pop_i, ex_pop_r, ex_dup_i, ex_dup_r, ex_dup_x1, ex_dup2, ex_iadd, ex_isub, ex_imul, ex_iand, ex_ior, ex_ixor, ex_ishl, ex_ishr, ex_idiv, ex_irem, ex_ineg, ex_i2l, ex_i2c, ex_i2b, ex_i2f, ex_i2d, ex_f2d, ex_fdiv, ex_ddiv, ex_lcmp, ex_dcmp, ex_getI, ex_getR, ex_putI, ex_putB, ex_putZ, ex_putR, ex_getsI, ex_getsR, ex_iald, ex_cald, ex_iast, ex_cast, ex_aast, ex_alen, ex_copy1, ex_copy2, ex_throw, ex_goto, ex_fall, ex_if_eq, ex_ic_eq, ex_if_ne, ex_ic_ne, ex_if_lt, ex_ic_lt, ex_if_ge, ex_ic_ge, ex_if_gt, ex_ic_gt, ex_if_le, ex_ic_le, ex_switch, ex_ireturn, ex_ireturn_z, ex_ireturn_b, ex_ireturn_c, ex_areturn, ex_freturn, ex_dreturn, ex_return, ex_is0, ex_is1, ex_is2, ex_is3, ex_is4, ex_is5, ex_is6, ex_is7, ex_iv1, ex_iv2, ex_iv3, ex_iv4, ex_iv5, ex_iv6, ex_iv7, ex_ip1, ex_ip2, ex_ip3, ex_ip4, ex_ip5, ex_ip6, ex_ip7, ex_iu1, ex_iu2, ex_iu3, ex_iu4, ex_iu5, ex_iu6, ex_iu7, List.getD_cons_zero, List.getD_cons_succ, List.set_cons_zero, List.set_cons_succ, isI_i, isA_r, isD_d, isF_f, GInc, ko_v, ko_n, cat_i2, cat_r2, cat_n2, cat_f2, cat_d2, cat_l2, Nat.zero_le, Nat.zero_add, Nat.le_refl, Nat.reduceAdd, Nat.reduceLeDiff, ne_eq, not_false_eq_true, Nat.reduceEqDiff, sI_mk, wI_mk, wCp_mk, Option.toList, List.nil_append, List.cons_append, kd_20, kd_21, kd_22, kd_23, kd_24, kd_25, kd_26, kd_27, kd_28, kd_29, kd_30, kd_31, kd_32, kd_33, kd_34, kd_35, kd_36, kd_37, kd_38, kd_39, kd_40, kd_41, kd_42, kd_43, kd_44, kd_45, kd_46, kd_47, kd_48, kd_49, kd_50, kd_51, kd_52, kd_53, kd_54, ik_succ]
      refine ih f kl (o + 1) (by omega) (by omega) e1 hm hp2 (fun f' a b c => hq f' ?_ b c)
      rw [List.filter_cons, if_neg (by simp only [decide_eq_true_eq]; rw [← le_lt_i] ; exact fun z => z hw)]
      exact a
    · simp only [hw, if_false]
      refine (cps_ok (k := o) (n := kl.length) hD (by omega) (by omega)).mpr ?_
      simp only [ex_iconst, ex_bipush, ex_sipush, ex_ldc, ex_ldcs, ex_fconst, ex_dconst, ex_iload_n, ex_iload, ex_aload_n, ex_aload, ex_dload_n, ex_dload, ex_fload, ex_istore_n, ex_istore, ex_fstore, ex_dstore_n, ex_dstore, ex_astore_n, ex_astore, ex_iinc, ex_ginc, ex_pop_i, ex_pop_r, ex_dup_i, ex_dup_r, ex_dup_x1, ex_dup2, ex_iadd, ex_isub, ex_imul, ex_iand, ex_ior, ex_ixor, ex_ishl, ex_ishr, ex_idiv, ex_irem, ex_ineg, ex_i2l, ex_i2c, ex_i2b, ex_i2f, ex_i2d, ex_f2d, ex_fdiv, ex_ddiv, ex_lcmp, ex_dcmp, ex_getI, ex_getR, ex_putI, ex_putB, ex_putZ, ex_putR, ex_getsI, ex_getsR, ex_iald, ex_cald, ex_iast, ex_cast, ex_aast, ex_alen, ex_copy1, ex_copy2, ex_throw, ex_goto, ex_fall, ex_if_eq, ex_ic_eq, ex_if_ne, ex_ic_ne, ex_if_lt, ex_ic_lt, ex_if_ge, ex_ic_ge, ex_if_gt, ex_ic_gt, ex_if_le, ex_ic_le, ex_switch, ex_ireturn, ex_ireturn_z, ex_ireturn_b, ex_ireturn_c, ex_areturn, ex_freturn, ex_dreturn, ex_return, ex_is0, ex_is1, ex_is2, ex_is3, ex_is4, ex_is5, ex_is6, ex_is7, ex_iv1, ex_iv2, ex_iv3, ex_iv4, ex_iv5, ex_iv6, ex_iv7, ex_ip1, ex_ip2, ex_ip3, ex_ip4, ex_ip5, ex_ip6, ex_ip7, ex_iu1, ex_iu2, ex_iu3, ex_iu4, ex_iu5, ex_iu6, ex_iu7, List.getD_cons_zero, List.getD_cons_succ, List.set_cons_zero, List.set_cons_succ, isI_i, isA_r, isD_d, isF_f, GInc, ko_v, ko_n, cat_i2, cat_r2, cat_n2, cat_f2, cat_d2, cat_l2, Nat.zero_le, Nat.zero_add, Nat.le_refl, Nat.reduceAdd, Nat.reduceLeDiff, ne_eq, not_false_eq_true, Nat.reduceEqDiff, sI_mk, wI_mk, wCp_mk, Option.toList, List.nil_append, List.cons_append, kd_20, kd_21, kd_22, kd_23, kd_24, kd_25, kd_26, kd_27, kd_28, kd_29, kd_30, kd_31, kd_32, kd_33, kd_34, kd_35, kd_36, kd_37, kd_38, kd_39, kd_40, kd_41, kd_42, kd_43, kd_44, kd_45, kd_46, kd_47, kd_48, kd_49, kd_50, kd_51, kd_52, kd_53, kd_54, B44_2, jb44_2, ik_succ]
      have hw2 : 0 < kW x := le_lt_i.mp hw
      rw [show kl.length + 1 = (kl ++ [x]).length from len_one.symm]
      refine ih _ (kl ++ [x]) (o + 1) (by omega) (by simp; omega) ?_ ?_ ?_ (fun f' a b c => hq f' ?_ (Fr.tr ?_ b) (c.trans ?_))
      · simp [up3]; exact e1
      · intro k y hy
        rw [Nat.zero_add]
        by_cases hk : k = kl.length
        · subst hk
          have hy2 : x = y := by simpa using hy
          subst hy2
          simp only [AtS, up3]
          simp [h1, h2, h3, h4, h5, h6]
        · have hlt : k < (kl ++ [x]).length := (List.getElem?_eq_some_iff.mp hy).1
          rw [len_one] at hlt
          rw [List.getElem?_append_left (by omega)] at hy
          have := hm k y hy
          simp only [AtS, Nat.zero_add] at this
          simp only [AtS, up3]
          simp [hk]
          exact this
      · intro k y hy
        have := hp2 k y hy
        have hne : ¬ o + 1 + k = kl.length := by omega
        simp only [AtS] at this
        simp only [AtS, up3]
        simp [hne]
        exact this
      · rw [List.filter_cons, if_pos (by simpa using hw2)]
        rw [List.append_assoc] at a
        exact a
      · exact Fr.tr (Fr.tr (Fr.tr (Fr.tr (Fr.tr (Fr.up rfl) (Fr.up rfl)) (Fr.up rfl)) (Fr.up rfl)) (Fr.up rfl)) (Fr.up rfl)
      · simp [up3]
theorem drop_ok (hD : StD r i) {xs : List Sk} (h : LayS f i xs) (hq : ∀ f', LayS f' i (xs.filter (fun x => decide (0 < kW x))) → Fr tgS i f f' → f' 3 i 7 = f 3 i 7 → Q (.inl none) (f', r)) : Cl (d + 2) 44 [vr 3 i] (f, r) Q := by
  rw [en44]
  simp only [B44_0, ex_iconst, ex_bipush, ex_sipush, ex_ldc, ex_ldcs, ex_fconst, ex_dconst, ex_iload_n, ex_iload, ex_aload_n, ex_aload, ex_dload_n, ex_dload, ex_fload, ex_istore_n, ex_istore, ex_fstore, ex_dstore_n, ex_dstore, ex_astore_n, ex_astore, ex_iinc, ex_ginc, ex_pop_i, ex_pop_r, ex_dup_i, ex_dup_r, ex_dup_x1, ex_dup2, ex_iadd, ex_isub, ex_imul, ex_iand, ex_ior, ex_ixor, ex_ishl, ex_ishr, ex_idiv, ex_irem, ex_ineg, ex_i2l, ex_i2c, ex_i2b, ex_i2f, ex_i2d, ex_f2d, ex_fdiv, ex_ddiv, ex_lcmp, ex_dcmp, ex_getI, ex_getR, ex_putI, ex_putB, ex_putZ, ex_putR, ex_getsI, ex_getsR, ex_iald, ex_cald, ex_iast, ex_cast, ex_aast, ex_alen, ex_copy1, ex_copy2, ex_throw, ex_goto, ex_fall, ex_if_eq, ex_ic_eq, ex_if_ne, ex_ic_ne, ex_if_lt, ex_ic_lt, ex_if_ge, ex_ic_ge, ex_if_gt, ex_ic_gt, ex_if_le, ex_ic_le, ex_switch, ex_ireturn, ex_ireturn_z, ex_ireturn_b, ex_ireturn_c, ex_areturn, ex_freturn, ex_dreturn, ex_return, ex_is0, ex_is1, ex_is2, ex_is3, ex_is4, ex_is5, ex_is6, ex_is7, ex_iv1, ex_iv2, ex_iv3, ex_iv4, ex_iv5, ex_iv6, ex_iv7, ex_ip1, ex_ip2, ex_ip3, ex_ip4, ex_ip5, ex_ip6, ex_ip7, ex_iu1, ex_iu2, ex_iu3, ex_iu4, ex_iu5, ex_iu6, ex_iu7, List.getD_cons_zero, List.getD_cons_succ, List.set_cons_zero, List.set_cons_succ, isI_i, isA_r, isD_d, isF_f, GInc, ko_v, ko_n, cat_i2, cat_r2, cat_n2, cat_f2, cat_d2, cat_l2, Nat.zero_le, Nat.zero_add, Nat.le_refl, Nat.reduceAdd, Nat.reduceLeDiff, ne_eq, not_false_eq_true, Nat.reduceEqDiff, sI_mk, wI_mk, wCp_mk, Option.toList, List.nil_append, List.cons_append, kd_20, kd_21, kd_22, kd_23, kd_24, kd_25, kd_26, kd_27, kd_28, kd_29, kd_30, kd_31, kd_32, kd_33, kd_34, kd_35, kd_36, kd_37, kd_38, kd_39, kd_40, kd_41, kd_42, kd_43, kd_44, kd_45, kd_46, kd_47, kd_48, kd_49, kd_50, kd_51, kd_52, kd_53, kd_54]
  exact drop_lp hD h.2.1 xs f [] 0 (by simp) (Nat.le_refl _) h.1 (fun k x hx => by simp at hx) (fun k x hx => by rw [Nat.zero_add]; exact h.2.2 k x hx) hq
theorem put_ok (hD : StD r i) {xs : List Sk} {b w p g m z : Int32} (h : LayS f i xs) (hl : xs.length < 50) (hz : f 3 i 7 = z) (hq : ∀ f', LayS f' i (xs ++ [(z, w, p, g, m, b)]) → Fr tgS i f f' → f' 3 i 7 = z + 1 → Q (.inl (some (vi z))) (f', r)) :
    Cl (d + 1) 42 [vr 3 i, vi b, vi w, vi p, vi g, vi m] (f, r) Q := by
  have e1 := h.1
  have hi : inb (ik xs.length) 50 := (inb_ik (by omega)).mpr hl
  have hx : ix (ik xs.length) = xs.length := ix_ik (by omega)
  rw [en42]
  simp only [B42_0, ex_iconst, ex_bipush, ex_sipush, ex_ldc, ex_ldcs, ex_fconst, ex_dconst, ex_iload_n, ex_iload, ex_aload_n, ex_aload, ex_dload_n, ex_dload, ex_fload, ex_istore_n, ex_istore, ex_fstore, ex_dstore_n, ex_dstore, ex_astore_n, ex_astore, ex_iinc, ex_ginc, ex_pop_i, ex_pop_r, ex_dup_i, ex_dup_r, ex_dup_x1, ex_dup2, ex_iadd, ex_isub, ex_imul, ex_iand, ex_ior, ex_ixor, ex_ishl, ex_ishr, ex_idiv, ex_irem, ex_ineg, ex_i2l, ex_i2c, ex_i2b, ex_i2f, ex_i2d, ex_f2d, ex_fdiv, ex_ddiv, ex_lcmp, ex_dcmp, ex_getI, ex_getR, ex_putI, ex_putB, ex_putZ, ex_putR, ex_getsI, ex_getsR, ex_iald, ex_cald, ex_iast, ex_cast, ex_aast, ex_alen, ex_copy1, ex_copy2, ex_throw, ex_goto, ex_fall, ex_if_eq, ex_ic_eq, ex_if_ne, ex_ic_ne, ex_if_lt, ex_ic_lt, ex_if_ge, ex_ic_ge, ex_if_gt, ex_ic_gt, ex_if_le, ex_ic_le, ex_switch, ex_ireturn, ex_ireturn_z, ex_ireturn_b, ex_ireturn_c, ex_areturn, ex_freturn, ex_dreturn, ex_return, ex_is0, ex_is1, ex_is2, ex_is3, ex_is4, ex_is5, ex_is6, ex_is7, ex_iv1, ex_iv2, ex_iv3, ex_iv4, ex_iv5, ex_iv6, ex_iv7, ex_ip1, ex_ip2, ex_ip3, ex_ip4, ex_ip5, ex_ip6, ex_ip7, ex_iu1, ex_iu2, ex_iu3, ex_iu4, ex_iu5, ex_iu6, ex_iu7, List.getD_cons_zero, List.getD_cons_succ, List.set_cons_zero, List.set_cons_succ, isI_i, isA_r, isD_d, isF_f, GInc, ko_v, ko_n, cat_i2, cat_r2, cat_n2, cat_f2, cat_d2, cat_l2, Nat.zero_le, Nat.zero_add, Nat.le_refl, Nat.reduceAdd, Nat.reduceLeDiff, ne_eq, not_false_eq_true, Nat.reduceEqDiff, sI_mk, wI_mk, wCp_mk, Option.toList, List.nil_append, List.cons_append, kd_20, kd_21, kd_22, kd_23, kd_24, kd_25, kd_26, kd_27, kd_28, kd_29, kd_30, kd_31, kd_32, kd_33, kd_34, kd_35, kd_36, kd_37, kd_38, kd_39, kd_40, kd_41, kd_42, kd_43, kd_44, kd_45, kd_46, kd_47, kd_48, kd_49, kd_50, kd_51, kd_52, kd_53, kd_54, rr1_0 hD, rr1_1 hD, rr1_2 hD, rr1_3 hD, rr1_5 hD, rr2_0 hD, rr2_1 hD, rr2_2 hD, rr2_3 hD, rr3_0 hD, rr3_1 hD, rr3_2 hD, rr3_3 hD, rr3_4 hD, rr3_5 hD, rr5_0 hD, rl20 hD, rl21 hD, rl22 hD, rl23 hD, rl24 hD, rl25 hD, rl26 hD, rl27 hD, rl28 hD, rl29 hD, rl30 hD, rl31 hD, e1, hi, hx, hz, up3_at, Nat.reduceEqDiff, false_and, and_false, and_true, true_and, and_self, eq_self, reduceIte, if_true, if_false, ik_succ]
  refine hq _ ⟨?_, by simp; omega, fun k x hk => ?_⟩ (Fr.tr (Fr.tr (Fr.tr (Fr.tr (Fr.tr (Fr.tr (Fr.tr (Fr.up rfl) (Fr.up rfl)) (Fr.up rfl)) (Fr.up rfl)) (Fr.up rfl)) (Fr.up rfl)) (Fr.up rfl)) (Fr.up rfl)) ?_
  · simp [up3]
  · have hlt : k < (xs ++ [(z, w, p, g, m, b)]).length := (List.getElem?_eq_some_iff.mp hk).1
    rw [len_one] at hlt
    by_cases hk2 : k = xs.length
    · subst hk2
      have : (z, w, p, g, m, b) = x := by simpa using hk
      subst this
      simp [AtS, up3]
    · rw [List.getElem?_append_left (by omega)] at hk
      have := h.2.2 k x hk
      simp only [AtS] at this
      simp only [AtS, up3]
      simp [hk2]
      exact this
  · simp [up3]
end Sacks
