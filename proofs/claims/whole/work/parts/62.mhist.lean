/-! the model's history, and its public changes -/
/-- a row's part laid anew -/
def st2 (f : SF) (t o n : Nat) (M : Nat → Int32) : SF := fun a i k => if a = t ∧ i = 0 ∧ o ≤ k ∧ k < o + n then M (k - o) else f a i k
theorem st2_ne {f : SF} {t o n a i k : Nat} {M : Nat → Int32} (h : a ≠ t ∨ i ≠ 0 ∨ k < o ∨ o + n ≤ k) : st2 f t o n M a i k = f a i k := by
  unfold st2
  rw [if_neg (by omega)]
theorem st2_at {f : SF} {t o n k : Nat} {M : Nat → Int32} (h : k < n) : st2 f t o n M t 0 (o + k) = M k := by
  unfold st2
  rw [if_pos ⟨rfl, rfl, by omega, by omega⟩, Nat.add_sub_cancel_left]
theorem st2_s {f : SF} {t o n : Nat} {M : Nat → Int32} : up3 (st2 f t o n M) t 0 (o + n) (M n) = st2 f t o (n + 1) M := by
  funext a i k
  unfold up3 st2
  by_cases h : a = t ∧ i = 0 ∧ k = o + n
  · obtain ⟨rfl, rfl, rfl⟩ := h
    rw [if_pos ⟨rfl, rfl, rfl⟩, if_pos ⟨rfl, rfl, by omega, by omega⟩, Nat.add_sub_cancel_left]
  · rw [if_neg h]
    by_cases h2 : a = t ∧ i = 0 ∧ o ≤ k ∧ k < o + n
    · rw [if_pos h2, if_pos (by omega)]
    · rw [if_neg h2, if_neg (by omega)]
theorem st2_0 {f : SF} {t o : Nat} {M : Nat → Int32} : st2 f t o 0 M = f := by
  funext a i k
  exact st2_ne (by omega)
theorem st2_cg {f : SF} {t o n : Nat} {M M' : Nat → Int32} (h : ∀ k, k < n → M k = M' k) : st2 f t o n M = st2 f t o n M' := by
  funext a i k
  unfold st2
  by_cases h2 : a = t ∧ i = 0 ∧ o ≤ k ∧ k < o + n
  · rw [if_pos h2, if_pos h2, h _ (by omega)]
  · rw [if_neg h2, if_neg h2]
theorem pr_st2 {f : SF} {N : Nat → Int32} {t o n : Nat} {M : Nat → Int32} (h : t ≠ 43) : st2 (pr f N) t o n M = pr (st2 f t o n M) N := by
  funext a i k
  unfold st2 pr
  by_cases h1 : a = 43 ∧ i = 0
  · rw [if_neg (by omega), if_pos h1, if_pos h1]
  · rw [if_neg h1, if_neg h1]
theorem pr_st43 {f : SF} {N : Nat → Int32} {n : Nat} {M : Nat → Int32} : st2 (pr f N) 43 0 n M = pr f (fun k => if k < n then M k else N k) := by
  funext a i k
  unfold st2 pr
  by_cases h1 : a = 43 ∧ i = 0
  · by_cases h2 : k < n
    · rw [if_pos ⟨h1.1, h1.2, by omega, by omega⟩, if_pos h1]
      show M k = if k < n then M k else N k
      rw [if_pos h2]
    · rw [if_neg (by omega), if_pos h1, if_pos h1]
      show N k = if k < n then M k else N k
      rw [if_neg h2]
  · rw [if_neg (by omega), if_neg h1, if_neg h1]
section Copy
variable {d : Nat} {f : SF} {r : SR} {s : St} {Q : Ot → St → Prop} {N : Nat → Int32}
theorem mcp_lp {t1 t2 a b n1 n2 : Nat} (hk1 : kd t1 = 1) (hk2 : kd t2 = 1) (hl1 : ∀ f, sL (f, r) t1 0 = n1) (hl2 : ∀ f, sL (f, r) t2 0 = n2) (h1 : a + 304 ≤ n1) (h2 : b + 304 ≤ n2) (hn1 : n1 < 10000) (hn2 : n2 < 10000) (hne : t1 ≠ t2 ∨ b ≤ a) : ∀ (m k : Nat), k + m = 304 →
    (Jx d 182 1 [vr t1 0, vi (ik a), vr t2 0, vi (ik b), vi (ik k)] [] (st2 f t2 b k (fun j => f t1 0 (a + j)), r) Q ↔ Q (.inl none) (st2 f t2 b 304 (fun j => f t1 0 (a + j)), r)) := by
  have ht1 : t1 ≠ 999 := by rintro rfl; exact absurd hk1 (by decide)
  have ht2 : t2 ≠ 999 := by rintro rfl; exact absurd hk2 (by decide)
  intro m
  induction m with
  | zero =>
    intro k hk
    have : k = 304 := by omega
    subst this
    have hc : (304 : Int32) ≤ ik 304 := by decide
    refine jb182_1.trans ?_
    simp only [B182_1, ex_iconst, ex_bipush, ex_sipush, ex_ldc, ex_ldcs, ex_fconst, ex_dconst, ex_iload_n, ex_iload, ex_aload_n, ex_aload, ex_dload_n, ex_dload, ex_fload, ex_istore_n, ex_istore, ex_fstore, ex_dstore_n, ex_dstore, ex_astore_n, ex_astore, ex_iinc, ex_ginc, ex_pop_i, ex_pop_r, ex_dup_i, ex_dup_r, ex_dup_x1, ex_dup2, ex_iadd, ex_isub, ex_imul, ex_iand, ex_ior, ex_ixor, ex_ishl, ex_ishr, ex_idiv, ex_irem, ex_ineg, ex_i2l, ex_i2c, ex_i2b, ex_i2f, ex_i2d, ex_f2d, ex_fdiv, ex_ddiv, ex_lcmp, ex_dcmp, ex_getI, ex_getR, ex_putI, ex_putB, ex_putZ, ex_putR, ex_getsI, ex_getsR, ex_iald, ex_cald, ex_iast, ex_cast, ex_aast, ex_alen, ex_copy1, ex_copy2, ex_throw, ex_goto, ex_fall, ex_if_eq, ex_ic_eq, ex_if_ne, ex_ic_ne, ex_if_lt, ex_ic_lt, ex_if_ge, ex_ic_ge, ex_if_gt, ex_ic_gt, ex_if_le, ex_ic_le, ex_switch, ex_ireturn, ex_ireturn_z, ex_ireturn_b, ex_ireturn_c, ex_areturn, ex_freturn, ex_dreturn, ex_return, ex_is0, ex_is1, ex_is2, ex_is3, ex_is4, ex_is5, ex_is6, ex_is7, ex_iv1, ex_iv2, ex_iv3, ex_iv4, ex_iv5, ex_iv6, ex_iv7, ex_ip1, ex_ip2, ex_ip3, ex_ip4, ex_ip5, ex_ip6, ex_ip7, ex_iu1, ex_iu2, ex_iu3, ex_iu4, ex_iu5, ex_iu6, ex_iu7, List.getD_cons_zero, List.getD_cons_succ, List.set_cons_zero, List.set_cons_succ, isI_i, isA_r, isD_d, isF_f, GInc, ko_v, ko_n, cat_i2, cat_r2, cat_n2, cat_f2, cat_d2, cat_l2, Nat.zero_le, Nat.zero_add, Nat.le_refl, Nat.reduceAdd, Nat.reduceLeDiff, ne_eq, not_false_eq_true, Nat.reduceEqDiff, sI_mk, wI_mk, wCp_mk, Option.toList, List.nil_append, List.cons_append, kd_20, kd_21, kd_22, kd_23, kd_24, kd_25, kd_26, kd_27, kd_28, kd_29, kd_30, kd_31, kd_32, kd_33, kd_34, kd_35, kd_36, kd_37, kd_38, kd_39, kd_40, kd_41, kd_42, kd_43, kd_44, kd_45, kd_46, kd_47, kd_48, kd_49, kd_50, kd_51, kd_52, kd_53, kd_54, hc, if_true, jb182_2, B182_2]
  | succ m ih =>
    intro k hk
    have hc : ¬ (304 : Int32) ≤ ik k := by rw [show (304 : Int32) = ik 304 from rfl, ik_le (by omega) (by omega)]; omega
    have i1 : inb (ik (a + k)) n1 := (inb_ik (by omega)).mpr (by omega)
    have x1 : ix (ik (a + k)) = a + k := ix_ik (by omega)
    have i2 : inb (ik (b + k)) n2 := (inb_ik (by omega)).mpr (by omega)
    have x2 : ix (ik (b + k)) = b + k := ix_ik (by omega)
    have e1 : st2 f t2 b k (fun j => f t1 0 (a + j)) t1 0 (a + k) = f t1 0 (a + k) := st2_ne (by omega)
    have e2 := st2_s (f := f) (t := t2) (o := b) (n := k) (M := fun j => f t1 0 (a + j))
    refine jb182_1.trans ?_
    simp only [B182_1, ex_iconst, ex_bipush, ex_sipush, ex_ldc, ex_ldcs, ex_fconst, ex_dconst, ex_iload_n, ex_iload, ex_aload_n, ex_aload, ex_dload_n, ex_dload, ex_fload, ex_istore_n, ex_istore, ex_fstore, ex_dstore_n, ex_dstore, ex_astore_n, ex_astore, ex_iinc, ex_ginc, ex_pop_i, ex_pop_r, ex_dup_i, ex_dup_r, ex_dup_x1, ex_dup2, ex_iadd, ex_isub, ex_imul, ex_iand, ex_ior, ex_ixor, ex_ishl, ex_ishr, ex_idiv, ex_irem, ex_ineg, ex_i2l, ex_i2c, ex_i2b, ex_i2f, ex_i2d, ex_f2d, ex_fdiv, ex_ddiv, ex_lcmp, ex_dcmp, ex_getI, ex_getR, ex_putI, ex_putB, ex_putZ, ex_putR, ex_getsI, ex_getsR, ex_iald, ex_cald, ex_iast, ex_cast, ex_aast, ex_alen, ex_copy1, ex_copy2, ex_throw, ex_goto, ex_fall, ex_if_eq, ex_ic_eq, ex_if_ne, ex_ic_ne, ex_if_lt, ex_ic_lt, ex_if_ge, ex_ic_ge, ex_if_gt, ex_ic_gt, ex_if_le, ex_ic_le, ex_switch, ex_ireturn, ex_ireturn_z, ex_ireturn_b, ex_ireturn_c, ex_areturn, ex_freturn, ex_dreturn, ex_return, ex_is0, ex_is1, ex_is2, ex_is3, ex_is4, ex_is5, ex_is6, ex_is7, ex_iv1, ex_iv2, ex_iv3, ex_iv4, ex_iv5, ex_iv6, ex_iv7, ex_ip1, ex_ip2, ex_ip3, ex_ip4, ex_ip5, ex_ip6, ex_ip7, ex_iu1, ex_iu2, ex_iu3, ex_iu4, ex_iu5, ex_iu6, ex_iu7, List.getD_cons_zero, List.getD_cons_succ, List.set_cons_zero, List.set_cons_succ, isI_i, isA_r, isD_d, isF_f, GInc, ko_v, ko_n, cat_i2, cat_r2, cat_n2, cat_f2, cat_d2, cat_l2, Nat.zero_le, Nat.zero_add, Nat.le_refl, Nat.reduceAdd, Nat.reduceLeDiff, ne_eq, not_false_eq_true, Nat.reduceEqDiff, sI_mk, wI_mk, wCp_mk, Option.toList, List.nil_append, List.cons_append, kd_20, kd_21, kd_22, kd_23, kd_24, kd_25, kd_26, kd_27, kd_28, kd_29, kd_30, kd_31, kd_32, kd_33, kd_34, kd_35, kd_36, kd_37, kd_38, kd_39, kd_40, kd_41, kd_42, kd_43, kd_44, kd_45, kd_46, kd_47, kd_48, kd_49, kd_50, kd_51, kd_52, kd_53, kd_54, hc, if_false, ht1, ht2, ik_add, hk1, hk2, hl1, hl2, i1, x1, i2, x2, e1, e2, ik_succ]
    exact ih (k + 1) (by omega)
theorem mcp_ok {t1 t2 a b n1 n2 : Nat} (hk1 : kd t1 = 1) (hk2 : kd t2 = 1) (hl1 : ∀ f, sL (f, r) t1 0 = n1) (hl2 : ∀ f, sL (f, r) t2 0 = n2) (h1 : a + 304 ≤ n1) (h2 : b + 304 ≤ n2) (hn1 : n1 < 10000) (hn2 : n2 < 10000) (hne : t1 ≠ t2 ∨ b ≤ a) :
    Cl (d + 1) 182 [vr t1 0, vi (ik a), vr t2 0, vi (ik b)] (f, r) Q ↔ Q (.inl none) (st2 f t2 b 304 (fun j => f t1 0 (a + j)), r) := by
  have := mcp_lp (d := d) (f := f) (r := r) (Q := Q) hk1 hk2 hl1 hl2 h1 h2 hn1 hn2 hne 304 0 rfl
  rw [st2_0] at this
  rw [en182]
  simp only [B182_0, ex_iconst, ex_bipush, ex_sipush, ex_ldc, ex_ldcs, ex_fconst, ex_dconst, ex_iload_n, ex_iload, ex_aload_n, ex_aload, ex_dload_n, ex_dload, ex_fload, ex_istore_n, ex_istore, ex_fstore, ex_dstore_n, ex_dstore, ex_astore_n, ex_astore, ex_iinc, ex_ginc, ex_pop_i, ex_pop_r, ex_dup_i, ex_dup_r, ex_dup_x1, ex_dup2, ex_iadd, ex_isub, ex_imul, ex_iand, ex_ior, ex_ixor, ex_ishl, ex_ishr, ex_idiv, ex_irem, ex_ineg, ex_i2l, ex_i2c, ex_i2b, ex_i2f, ex_i2d, ex_f2d, ex_fdiv, ex_ddiv, ex_lcmp, ex_dcmp, ex_getI, ex_getR, ex_putI, ex_putB, ex_putZ, ex_putR, ex_getsI, ex_getsR, ex_iald, ex_cald, ex_iast, ex_cast, ex_aast, ex_alen, ex_copy1, ex_copy2, ex_throw, ex_goto, ex_fall, ex_if_eq, ex_ic_eq, ex_if_ne, ex_ic_ne, ex_if_lt, ex_ic_lt, ex_if_ge, ex_ic_ge, ex_if_gt, ex_ic_gt, ex_if_le, ex_ic_le, ex_switch, ex_ireturn, ex_ireturn_z, ex_ireturn_b, ex_ireturn_c, ex_areturn, ex_freturn, ex_dreturn, ex_return, ex_is0, ex_is1, ex_is2, ex_is3, ex_is4, ex_is5, ex_is6, ex_is7, ex_iv1, ex_iv2, ex_iv3, ex_iv4, ex_iv5, ex_iv6, ex_iv7, ex_ip1, ex_ip2, ex_ip3, ex_ip4, ex_ip5, ex_ip6, ex_ip7, ex_iu1, ex_iu2, ex_iu3, ex_iu4, ex_iu5, ex_iu6, ex_iu7, List.getD_cons_zero, List.getD_cons_succ, List.set_cons_zero, List.set_cons_succ, isI_i, isA_r, isD_d, isF_f, GInc, ko_v, ko_n, cat_i2, cat_r2, cat_n2, cat_f2, cat_d2, cat_l2, Nat.zero_le, Nat.zero_add, Nat.le_refl, Nat.reduceAdd, Nat.reduceLeDiff, ne_eq, not_false_eq_true, Nat.reduceEqDiff, sI_mk, wI_mk, wCp_mk, Option.toList, List.nil_append, List.cons_append, kd_20, kd_21, kd_22, kd_23, kd_24, kd_25, kd_26, kd_27, kd_28, kd_29, kd_30, kd_31, kd_32, kd_33, kd_34, kd_35, kd_36, kd_37, kd_38, kd_39, kd_40, kd_41, kd_42, kd_43, kd_44, kd_45, kd_46, kd_47, kd_48, kd_49, kd_50, kd_51, kd_52, kd_53, kd_54]
  exact this
theorem beg_ok (hG : StG r) : Cl (d + 2) 181 [vr 11 0] (pr f N, r) Q ↔ Q (.inl none) (pr (st2 (up3 f 11 0 6 0) 44 0 304 N) N, r) := by
  have o := fun Q => mcp_ok (d := d) (f := pr (up3 f 11 0 6 0) N) (r := r) (Q := Q) (t1 := 43) (t2 := 44) (a := 0) (b := 0) kd_43 kd_44 (fun f => rl43 hG) (fun f => rl44 hG) (by decide) (by decide) (by decide) (by decide) (by decide)
  rw [show ik 0 = (0 : Int32) from rfl, pr_st2 (by decide)] at o
  have e : (fun j => pr (up3 f 11 0 6 0) N 43 0 (0 + j)) = N := by
    funext j
    rw [Nat.zero_add]
    rfl
  rw [e] at o
  rw [en181]
  simp only [B181_0, ex_iconst, ex_bipush, ex_sipush, ex_ldc, ex_ldcs, ex_fconst, ex_dconst, ex_iload_n, ex_iload, ex_aload_n, ex_aload, ex_dload_n, ex_dload, ex_fload, ex_istore_n, ex_istore, ex_fstore, ex_dstore_n, ex_dstore, ex_astore_n, ex_astore, ex_iinc, ex_ginc, ex_pop_i, ex_pop_r, ex_dup_i, ex_dup_r, ex_dup_x1, ex_dup2, ex_iadd, ex_isub, ex_imul, ex_iand, ex_ior, ex_ixor, ex_ishl, ex_ishr, ex_idiv, ex_irem, ex_ineg, ex_i2l, ex_i2c, ex_i2b, ex_i2f, ex_i2d, ex_f2d, ex_fdiv, ex_ddiv, ex_lcmp, ex_dcmp, ex_getI, ex_getR, ex_putI, ex_putB, ex_putZ, ex_putR, ex_getsI, ex_getsR, ex_iald, ex_cald, ex_iast, ex_cast, ex_aast, ex_alen, ex_copy1, ex_copy2, ex_throw, ex_goto, ex_fall, ex_if_eq, ex_ic_eq, ex_if_ne, ex_ic_ne, ex_if_lt, ex_ic_lt, ex_if_ge, ex_ic_ge, ex_if_gt, ex_ic_gt, ex_if_le, ex_ic_le, ex_switch, ex_ireturn, ex_ireturn_z, ex_ireturn_b, ex_ireturn_c, ex_areturn, ex_freturn, ex_dreturn, ex_return, ex_is0, ex_is1, ex_is2, ex_is3, ex_is4, ex_is5, ex_is6, ex_is7, ex_iv1, ex_iv2, ex_iv3, ex_iv4, ex_iv5, ex_iv6, ex_iv7, ex_ip1, ex_ip2, ex_ip3, ex_ip4, ex_ip5, ex_ip6, ex_ip7, ex_iu1, ex_iu2, ex_iu3, ex_iu4, ex_iu5, ex_iu6, ex_iu7, List.getD_cons_zero, List.getD_cons_succ, List.set_cons_zero, List.set_cons_succ, isI_i, isA_r, isD_d, isF_f, GInc, ko_v, ko_n, cat_i2, cat_r2, cat_n2, cat_f2, cat_d2, cat_l2, Nat.zero_le, Nat.zero_add, Nat.le_refl, Nat.reduceAdd, Nat.reduceLeDiff, ne_eq, not_false_eq_true, Nat.reduceEqDiff, sI_mk, wI_mk, wCp_mk, Option.toList, List.nil_append, List.cons_append, kd_20, kd_21, kd_22, kd_23, kd_24, kd_25, kd_26, kd_27, kd_28, kd_29, kd_30, kd_31, kd_32, kd_33, kd_34, kd_35, kd_36, kd_37, kd_38, kd_39, kd_40, kd_41, kd_42, kd_43, kd_44, kd_45, kd_46, kd_47, kd_48, kd_49, kd_50, kd_51, kd_52, kd_53, kd_54, rg0_0 hG, rg0_1 hG, rg0_2 hG, rg0_4 hG, rg0_5 hG, rg0_6 hG, rg0_7 hG, rg0_8 hG, rg6_0 hG, rg8_0 hG, rg8_1 hG, rg8_4 hG, rg8_5 hG, rg8_6 hG, rg8_7 hG, rg9_0 hG, rg9_2 hG, rg9_3 hG, rg11_0 hG, rg11_1 hG, rg11_2 hG, rg11_3 hG, rg11_4 hG, rg11_5 hG, rg11_15 hG, rg11_17 hG, rg11_18 hG, rg11_19 hG, rl32 hG, rl33 hG, rl34 hG, rl35 hG, rl36 hG, rl37 hG, rl38 hG, rl39 hG, rl40 hG, rl41 hG, rl43 hG, rl44 hG, rl45 hG, rl46 hG, rl47 hG, rl48 hG, rl49 hG, rl50 hG, rl51 hG, rl52 hG, pr_u11, o]
end Copy
/-- the history in the model's row: the newest behind the others -/
def HisM (f : SF) (hs : List Dt) : Prop := f 11 0 7 = ik hs.length ∧ hs.length ≤ 8 ∧ ∀ j D, hs[j]? = some D → RowM (fun k => f 46 0 (304 * (hs.length - 1 - j) + k)) D
theorem HisM.dep {f f' : SF} {hs : List Dt} (h : HisM f hs) (e7 : f' 11 0 7 = f 11 0 7) (e : ∀ k, f' 46 0 k = f 46 0 k) : HisM f' hs := ⟨e7.trans h.1, h.2.1, fun j D hj => (h.2.2 j D hj).cg (fun i _ => e _)⟩
def FrM (f f' : SF) : Prop := ∀ t j k, ¬ (t = 11 ∨ 43 ≤ t ∧ t ≤ 52) → f' t j k = f t j k
theorem FrM.rf {f : SF} : FrM f f := fun _ _ _ _ => rfl
theorem FrM.tr {f g h : SF} (a : FrM f g) (b : FrM g h) : FrM f h := fun t j k q => (b t j k q).trans (a t j k q)
theorem FrM.up {f : SF} {t i k : Nat} {v : Int32} (h : t = 11 ∨ 43 ≤ t ∧ t ≤ 52) : FrM f (up3 f t i k v) := fun a j n q => by
  rw [up3_at, if_neg (by rintro ⟨rfl, -⟩; exact q h)]
theorem FrM.st {f : SF} {t o n : Nat} {M : Nat → Int32} (h : t = 11 ∨ 43 ≤ t ∧ t ≤ 52) : FrM f (st2 f t o n M) := fun a j k q => st2_ne (by omega)
section Commit
variable {d : Nat} {f : SF} {r : SR} {s : St} {Q : Ot → St → Prop} {N : Nat → Int32}
theorem i304 {k : Nat} : (304 : Int32) * ik k = ik (304 * k) := by rw [show (304 : Int32) = ik 304 from rfl, ik_mul]
theorem msh_lp (hG : StG r) {v : Int32} {f0 : SF} : ∀ (m k : Nat) (f : SF), k + m = 8 → 1 ≤ k → (∀ p i, p < 8 → i < 304 → f 46 0 (304 * p + i) = if p + 1 < k then f0 46 0 (304 * (p + 1) + i) else f0 46 0 (304 * p + i)) → (∀ t j n, t ≠ 46 → f t j n = f0 t j n) →
    (∀ f', (∀ p i, p < 7 → i < 304 → f' 46 0 (304 * p + i) = f0 46 0 (304 * (p + 1) + i)) → (∀ t j n, t ≠ 46 → f' t j n = f0 t j n) → Jx (d + 1) 191 2 [vr 11 0, vi v, vi (ik 8)] [] (pr f' N, r) Q) → Jx (d + 1) 191 1 [vr 11 0, vi v, vi (ik k)] [] (pr f N, r) Q := by
  intro m
  induction m with
  | zero =>
    intro k f hk h1 hf hf2 hq
    have : k = 8 := by omega
    subst this
    have hc : (8 : Int32) ≤ ik 8 := by decide
    rw [jb191_1]
    simp only [B191_1, ex_iconst, ex_bipush, ex_sipush, ex_ldc, ex_ldcs, ex_fconst, ex_dconst, ex_iload_n, ex_iload, ex_aload_n, ex_aload, ex_dload_n, ex_dload, ex_fload, ex_istore_n, ex_istore, ex_fstore, ex_dstore_n, ex_dstore, ex_astore_n, ex_astore, ex_iinc, ex_ginc, ex_pop_i, ex_pop_r, ex_dup_i, ex_dup_r, ex_dup_x1, ex_dup2, ex_iadd, ex_isub, ex_imul, ex_iand, ex_ior, ex_ixor, ex_ishl, ex_ishr, ex_idiv, ex_irem, ex_ineg, ex_i2l, ex_i2c, ex_i2b, ex_i2f, ex_i2d, ex_f2d, ex_fdiv, ex_ddiv, ex_lcmp, ex_dcmp, ex_getI, ex_getR, ex_putI, ex_putB, ex_putZ, ex_putR, ex_getsI, ex_getsR, ex_iald, ex_cald, ex_iast, ex_cast, ex_aast, ex_alen, ex_copy1, ex_copy2, ex_throw, ex_goto, ex_fall, ex_if_eq, ex_ic_eq, ex_if_ne, ex_ic_ne, ex_if_lt, ex_ic_lt, ex_if_ge, ex_ic_ge, ex_if_gt, ex_ic_gt, ex_if_le, ex_ic_le, ex_switch, ex_ireturn, ex_ireturn_z, ex_ireturn_b, ex_ireturn_c, ex_areturn, ex_freturn, ex_dreturn, ex_return, ex_is0, ex_is1, ex_is2, ex_is3, ex_is4, ex_is5, ex_is6, ex_is7, ex_iv1, ex_iv2, ex_iv3, ex_iv4, ex_iv5, ex_iv6, ex_iv7, ex_ip1, ex_ip2, ex_ip3, ex_ip4, ex_ip5, ex_ip6, ex_ip7, ex_iu1, ex_iu2, ex_iu3, ex_iu4, ex_iu5, ex_iu6, ex_iu7, List.getD_cons_zero, List.getD_cons_succ, List.set_cons_zero, List.set_cons_succ, isI_i, isA_r, isD_d, isF_f, GInc, ko_v, ko_n, cat_i2, cat_r2, cat_n2, cat_f2, cat_d2, cat_l2, Nat.zero_le, Nat.zero_add, Nat.le_refl, Nat.reduceAdd, Nat.reduceLeDiff, ne_eq, not_false_eq_true, Nat.reduceEqDiff, sI_mk, wI_mk, wCp_mk, Option.toList, List.nil_append, List.cons_append, kd_20, kd_21, kd_22, kd_23, kd_24, kd_25, kd_26, kd_27, kd_28, kd_29, kd_30, kd_31, kd_32, kd_33, kd_34, kd_35, kd_36, kd_37, kd_38, kd_39, kd_40, kd_41, kd_42, kd_43, kd_44, kd_45, kd_46, kd_47, kd_48, kd_49, kd_50, kd_51, kd_52, kd_53, kd_54, hc, if_true]
    exact hq f (fun p i hp hi => by rw [hf p i (by omega) hi, if_pos (by omega)]) hf2
  | succ m ih =>
    intro k f hk h1 hf hf2 hq
    have hc : ¬ (8 : Int32) ≤ ik k := by rw [show (8 : Int32) = ik 8 from rfl, ik_le (by omega) (by omega)]; omega
    have e1 : ik k - 1 = ik (k - 1) := ik_pred h1
    have o := fun Q => mcp_ok (d := d) (f := pr f N) (r := r) (Q := Q) (t1 := 46) (t2 := 46) (a := 304 * k) (b := 304 * (k - 1)) kd_46 kd_46 (fun f => rl46 hG) (fun f => rl46 hG) (by omega) (by omega) (by decide) (by decide) (Or.inr (by omega))
    rw [pr_st2 (by decide)] at o
    rw [jb191_1]
    simp only [B191_1, ex_iconst, ex_bipush, ex_sipush, ex_ldc, ex_ldcs, ex_fconst, ex_dconst, ex_iload_n, ex_iload, ex_aload_n, ex_aload, ex_dload_n, ex_dload, ex_fload, ex_istore_n, ex_istore, ex_fstore, ex_dstore_n, ex_dstore, ex_astore_n, ex_astore, ex_iinc, ex_ginc, ex_pop_i, ex_pop_r, ex_dup_i, ex_dup_r, ex_dup_x1, ex_dup2, ex_iadd, ex_isub, ex_imul, ex_iand, ex_ior, ex_ixor, ex_ishl, ex_ishr, ex_idiv, ex_irem, ex_ineg, ex_i2l, ex_i2c, ex_i2b, ex_i2f, ex_i2d, ex_f2d, ex_fdiv, ex_ddiv, ex_lcmp, ex_dcmp, ex_getI, ex_getR, ex_putI, ex_putB, ex_putZ, ex_putR, ex_getsI, ex_getsR, ex_iald, ex_cald, ex_iast, ex_cast, ex_aast, ex_alen, ex_copy1, ex_copy2, ex_throw, ex_goto, ex_fall, ex_if_eq, ex_ic_eq, ex_if_ne, ex_ic_ne, ex_if_lt, ex_ic_lt, ex_if_ge, ex_ic_ge, ex_if_gt, ex_ic_gt, ex_if_le, ex_ic_le, ex_switch, ex_ireturn, ex_ireturn_z, ex_ireturn_b, ex_ireturn_c, ex_areturn, ex_freturn, ex_dreturn, ex_return, ex_is0, ex_is1, ex_is2, ex_is3, ex_is4, ex_is5, ex_is6, ex_is7, ex_iv1, ex_iv2, ex_iv3, ex_iv4, ex_iv5, ex_iv6, ex_iv7, ex_ip1, ex_ip2, ex_ip3, ex_ip4, ex_ip5, ex_ip6, ex_ip7, ex_iu1, ex_iu2, ex_iu3, ex_iu4, ex_iu5, ex_iu6, ex_iu7, List.getD_cons_zero, List.getD_cons_succ, List.set_cons_zero, List.set_cons_succ, isI_i, isA_r, isD_d, isF_f, GInc, ko_v, ko_n, cat_i2, cat_r2, cat_n2, cat_f2, cat_d2, cat_l2, Nat.zero_le, Nat.zero_add, Nat.le_refl, Nat.reduceAdd, Nat.reduceLeDiff, ne_eq, not_false_eq_true, Nat.reduceEqDiff, sI_mk, wI_mk, wCp_mk, Option.toList, List.nil_append, List.cons_append, kd_20, kd_21, kd_22, kd_23, kd_24, kd_25, kd_26, kd_27, kd_28, kd_29, kd_30, kd_31, kd_32, kd_33, kd_34, kd_35, kd_36, kd_37, kd_38, kd_39, kd_40, kd_41, kd_42, kd_43, kd_44, kd_45, kd_46, kd_47, kd_48, kd_49, kd_50, kd_51, kd_52, kd_53, kd_54, hc, if_false, rg0_0 hG, rg0_1 hG, rg0_2 hG, rg0_4 hG, rg0_5 hG, rg0_6 hG, rg0_7 hG, rg0_8 hG, rg6_0 hG, rg8_0 hG, rg8_1 hG, rg8_4 hG, rg8_5 hG, rg8_6 hG, rg8_7 hG, rg9_0 hG, rg9_2 hG, rg9_3 hG, rg11_0 hG, rg11_1 hG, rg11_2 hG, rg11_3 hG, rg11_4 hG, rg11_5 hG, rg11_15 hG, rg11_17 hG, rg11_18 hG, rg11_19 hG, rl32 hG, rl33 hG, rl34 hG, rl35 hG, rl36 hG, rl37 hG, rl38 hG, rl39 hG, rl40 hG, rl41 hG, rl43 hG, rl44 hG, rl45 hG, rl46 hG, rl47 hG, rl48 hG, rl49 hG, rl50 hG, rl51 hG, rl52 hG, e1, i304, o, ik_succ]
    refine ih (k + 1) _ (by omega) (by omega) (fun p i hp hi => ?_) (fun t j n ht => (st2_ne (Or.inl ht)).trans (hf2 t j n ht)) hq
    by_cases hpk : p = k - 1
    · subst hpk
      rw [st2_at hi, if_pos (by omega)]
      show pr f N 46 0 (304 * k + i) = _
      rw [pr_ne (by decide), hf k i (by omega) hi, if_neg (by omega), show k - 1 + 1 = k by omega]
    · rw [st2_ne (by omega), hf p i hp hi]
      by_cases h3 : p + 1 < k
      · rw [if_pos h3, if_pos (by omega)]
      · rw [if_neg h3, if_neg (by omega)]
/-- what was before is remembered -/
theorem com_ok (hG : StG r) {hs : List Dt} {D : Dt} {v : Int32} (hH : HisM f hs) (hb : RowM (f 44 0) D) (hq : ∀ f', HisM f' ((D :: hs).take 8) → (∀ t j k, ¬ (t = 46 ∨ t = 11 ∧ k = 7) → f' t j k = f t j k) → Q (.inl (some (vi v))) (pr f' N, r)) : Cl (d + 2) 191 [vr 11 0, vi v] (pr f N, r) Q := by
  obtain ⟨h1, h2, h3⟩ := hH
  have fin : ∀ (f2 : SF) (m : Nat) (u : AV), m < 8 → m ≤ hs.length → f2 11 0 7 = ik m → (∀ j D, j < m → hs[j]? = some D → RowM (fun k => f2 46 0 (304 * (m - 1 - j) + k)) D) → (m = hs.length ∨ m = 7 ∧ hs.length = 8) → (∀ t j k, ¬ (t = 46 ∨ t = 11 ∧ k = 7) → f2 t j k = f t j k) → Jx (d + 1) 191 3 [vr 11 0, vi v, u] [] (pr f2 N, r) Q := by
    intro f2 m u hm hmh e7 hr hmm hf2
    have o := fun Q => mcp_ok (d := d) (f := pr f2 N) (r := r) (Q := Q) (t1 := 44) (t2 := 46) (a := 0) (b := 304 * m) kd_44 kd_46 (fun f => rl44 hG) (fun f => rl46 hG) (by decide) (by omega) (by decide) (by decide) (Or.inl (by decide))
    rw [pr_st2 (by decide), show ik 0 = (0 : Int32) from rfl] at o
    simp only [Nat.zero_add] at o
    have e7' : st2 f2 46 (304 * m) 304 (fun j => pr f2 N 44 0 j) 11 0 7 = ik m := (st2_ne (Or.inl (by decide))).trans e7
    rw [jb191_3]
    simp only [B191_3, ex_iconst, ex_bipush, ex_sipush, ex_ldc, ex_ldcs, ex_fconst, ex_dconst, ex_iload_n, ex_iload, ex_aload_n, ex_aload, ex_dload_n, ex_dload, ex_fload, ex_istore_n, ex_istore, ex_fstore, ex_dstore_n, ex_dstore, ex_astore_n, ex_astore, ex_iinc, ex_ginc, ex_pop_i, ex_pop_r, ex_dup_i, ex_dup_r, ex_dup_x1, ex_dup2, ex_iadd, ex_isub, ex_imul, ex_iand, ex_ior, ex_ixor, ex_ishl, ex_ishr, ex_idiv, ex_irem, ex_ineg, ex_i2l, ex_i2c, ex_i2b, ex_i2f, ex_i2d, ex_f2d, ex_fdiv, ex_ddiv, ex_lcmp, ex_dcmp, ex_getI, ex_getR, ex_putI, ex_putB, ex_putZ, ex_putR, ex_getsI, ex_getsR, ex_iald, ex_cald, ex_iast, ex_cast, ex_aast, ex_alen, ex_copy1, ex_copy2, ex_throw, ex_goto, ex_fall, ex_if_eq, ex_ic_eq, ex_if_ne, ex_ic_ne, ex_if_lt, ex_ic_lt, ex_if_ge, ex_ic_ge, ex_if_gt, ex_ic_gt, ex_if_le, ex_ic_le, ex_switch, ex_ireturn, ex_ireturn_z, ex_ireturn_b, ex_ireturn_c, ex_areturn, ex_freturn, ex_dreturn, ex_return, ex_is0, ex_is1, ex_is2, ex_is3, ex_is4, ex_is5, ex_is6, ex_is7, ex_iv1, ex_iv2, ex_iv3, ex_iv4, ex_iv5, ex_iv6, ex_iv7, ex_ip1, ex_ip2, ex_ip3, ex_ip4, ex_ip5, ex_ip6, ex_ip7, ex_iu1, ex_iu2, ex_iu3, ex_iu4, ex_iu5, ex_iu6, ex_iu7, List.getD_cons_zero, List.getD_cons_succ, List.set_cons_zero, List.set_cons_succ, isI_i, isA_r, isD_d, isF_f, GInc, ko_v, ko_n, cat_i2, cat_r2, cat_n2, cat_f2, cat_d2, cat_l2, Nat.zero_le, Nat.zero_add, Nat.le_refl, Nat.reduceAdd, Nat.reduceLeDiff, ne_eq, not_false_eq_true, Nat.reduceEqDiff, sI_mk, wI_mk, wCp_mk, Option.toList, List.nil_append, List.cons_append, kd_20, kd_21, kd_22, kd_23, kd_24, kd_25, kd_26, kd_27, kd_28, kd_29, kd_30, kd_31, kd_32, kd_33, kd_34, kd_35, kd_36, kd_37, kd_38, kd_39, kd_40, kd_41, kd_42, kd_43, kd_44, kd_45, kd_46, kd_47, kd_48, kd_49, kd_50, kd_51, kd_52, kd_53, kd_54, rg0_0 hG, rg0_1 hG, rg0_2 hG, rg0_4 hG, rg0_5 hG, rg0_6 hG, rg0_7 hG, rg0_8 hG, rg6_0 hG, rg8_0 hG, rg8_1 hG, rg8_4 hG, rg8_5 hG, rg8_6 hG, rg8_7 hG, rg9_0 hG, rg9_2 hG, rg9_3 hG, rg11_0 hG, rg11_1 hG, rg11_2 hG, rg11_3 hG, rg11_4 hG, rg11_5 hG, rg11_15 hG, rg11_17 hG, rg11_18 hG, rg11_19 hG, rl32 hG, rl33 hG, rl34 hG, rl35 hG, rl36 hG, rl37 hG, rl38 hG, rl39 hG, rl40 hG, rl41 hG, rl43 hG, rl44 hG, rl45 hG, rl46 hG, rl47 hG, rl48 hG, rl49 hG, rl50 hG, rl51 hG, rl52 hG, pr_11, e7, i304, o, e7', ik_succ, pr_u11]
    refine hq _ ⟨?_, ?_, fun j E hj => ?_⟩ (fun t j k ht => ?_)
    · rw [up3_at, if_pos ⟨rfl, rfl, rfl⟩, List.length_take, List.length_cons]
      exact congrArg ik (by omega)
    · rw [List.length_take]; omega
    · have hlen : ((D :: hs).take 8).length = m + 1 := by rw [List.length_take, List.length_cons]; omega
      have hj8 := (List.getElem?_eq_some_iff.mp hj).1
      rw [hlen] at hj8 ⊢
      have hj2 : (D :: hs)[j]? = some E := by
        rw [List.getElem?_take, if_pos (by omega)] at hj
        exact hj
      cases j with
      | zero =>
        have : D = E := by simpa using hj2
        subst this
        refine hb.cg (fun i hi => ?_)
        show up3 _ 11 0 7 _ 46 0 (304 * (m + 1 - 1 - 0) + i) = _
        rw [up3_at, if_neg (by omega), show m + 1 - 1 - 0 = m by omega, st2_at hi]
        show pr f2 N 44 0 i = _
        rw [pr_ne (by decide)]
        exact hf2 44 0 i (by omega)
      | succ j =>
        have hj3 : hs[j]? = some E := by simpa using hj2
        refine (hr j E (by omega) hj3).cg (fun i hi => ?_)
        show up3 _ 11 0 7 _ 46 0 (304 * (m + 1 - 1 - (j + 1)) + i) = f2 46 0 (304 * (m - 1 - j) + i)
        rw [up3_at, if_neg (by omega), st2_ne (by omega)]
        exact congrArg (f2 46 0) (by omega)
    · rw [up3_at, if_neg (by omega), st2_ne (by omega)]
      exact hf2 t j k ht
  rw [en191]
  simp only [B191_0, ex_iconst, ex_bipush, ex_sipush, ex_ldc, ex_ldcs, ex_fconst, ex_dconst, ex_iload_n, ex_iload, ex_aload_n, ex_aload, ex_dload_n, ex_dload, ex_fload, ex_istore_n, ex_istore, ex_fstore, ex_dstore_n, ex_dstore, ex_astore_n, ex_astore, ex_iinc, ex_ginc, ex_pop_i, ex_pop_r, ex_dup_i, ex_dup_r, ex_dup_x1, ex_dup2, ex_iadd, ex_isub, ex_imul, ex_iand, ex_ior, ex_ixor, ex_ishl, ex_ishr, ex_idiv, ex_irem, ex_ineg, ex_i2l, ex_i2c, ex_i2b, ex_i2f, ex_i2d, ex_f2d, ex_fdiv, ex_ddiv, ex_lcmp, ex_dcmp, ex_getI, ex_getR, ex_putI, ex_putB, ex_putZ, ex_putR, ex_getsI, ex_getsR, ex_iald, ex_cald, ex_iast, ex_cast, ex_aast, ex_alen, ex_copy1, ex_copy2, ex_throw, ex_goto, ex_fall, ex_if_eq, ex_ic_eq, ex_if_ne, ex_ic_ne, ex_if_lt, ex_ic_lt, ex_if_ge, ex_ic_ge, ex_if_gt, ex_ic_gt, ex_if_le, ex_ic_le, ex_switch, ex_ireturn, ex_ireturn_z, ex_ireturn_b, ex_ireturn_c, ex_areturn, ex_freturn, ex_dreturn, ex_return, ex_is0, ex_is1, ex_is2, ex_is3, ex_is4, ex_is5, ex_is6, ex_is7, ex_iv1, ex_iv2, ex_iv3, ex_iv4, ex_iv5, ex_iv6, ex_iv7, ex_ip1, ex_ip2, ex_ip3, ex_ip4, ex_ip5, ex_ip6, ex_ip7, ex_iu1, ex_iu2, ex_iu3, ex_iu4, ex_iu5, ex_iu6, ex_iu7, List.getD_cons_zero, List.getD_cons_succ, List.set_cons_zero, List.set_cons_succ, isI_i, isA_r, isD_d, isF_f, GInc, ko_v, ko_n, cat_i2, cat_r2, cat_n2, cat_f2, cat_d2, cat_l2, Nat.zero_le, Nat.zero_add, Nat.le_refl, Nat.reduceAdd, Nat.reduceLeDiff, ne_eq, not_false_eq_true, Nat.reduceEqDiff, sI_mk, wI_mk, wCp_mk, Option.toList, List.nil_append, List.cons_append, kd_20, kd_21, kd_22, kd_23, kd_24, kd_25, kd_26, kd_27, kd_28, kd_29, kd_30, kd_31, kd_32, kd_33, kd_34, kd_35, kd_36, kd_37, kd_38, kd_39, kd_40, kd_41, kd_42, kd_43, kd_44, kd_45, kd_46, kd_47, kd_48, kd_49, kd_50, kd_51, kd_52, kd_53, kd_54, pr_11, h1]
  by_cases h8 : hs.length = 8
  · have e8 : ik hs.length = 8 := by rw [h8]; rfl
    simp only [e8, ne_eq, not_true_eq_false, if_false, ex_iconst, ex_bipush, ex_sipush, ex_ldc, ex_ldcs, ex_fconst, ex_dconst, ex_iload_n, ex_iload, ex_aload_n, ex_aload, ex_dload_n, ex_dload, ex_fload, ex_istore_n, ex_istore, ex_fstore, ex_dstore_n, ex_dstore, ex_astore_n, ex_astore, ex_iinc, ex_ginc, ex_pop_i, ex_pop_r, ex_dup_i, ex_dup_r, ex_dup_x1, ex_dup2, ex_iadd, ex_isub, ex_imul, ex_iand, ex_ior, ex_ixor, ex_ishl, ex_ishr, ex_idiv, ex_irem, ex_ineg, ex_i2l, ex_i2c, ex_i2b, ex_i2f, ex_i2d, ex_f2d, ex_fdiv, ex_ddiv, ex_lcmp, ex_dcmp, ex_getI, ex_getR, ex_putI, ex_putB, ex_putZ, ex_putR, ex_getsI, ex_getsR, ex_iald, ex_cald, ex_iast, ex_cast, ex_aast, ex_alen, ex_copy1, ex_copy2, ex_throw, ex_goto, ex_fall, ex_if_eq, ex_ic_eq, ex_if_ne, ex_ic_ne, ex_if_lt, ex_ic_lt, ex_if_ge, ex_ic_ge, ex_if_gt, ex_ic_gt, ex_if_le, ex_ic_le, ex_switch, ex_ireturn, ex_ireturn_z, ex_ireturn_b, ex_ireturn_c, ex_areturn, ex_freturn, ex_dreturn, ex_return, ex_is0, ex_is1, ex_is2, ex_is3, ex_is4, ex_is5, ex_is6, ex_is7, ex_iv1, ex_iv2, ex_iv3, ex_iv4, ex_iv5, ex_iv6, ex_iv7, ex_ip1, ex_ip2, ex_ip3, ex_ip4, ex_ip5, ex_ip6, ex_ip7, ex_iu1, ex_iu2, ex_iu3, ex_iu4, ex_iu5, ex_iu6, ex_iu7, List.getD_cons_zero, List.getD_cons_succ, List.set_cons_zero, List.set_cons_succ, isI_i, isA_r, isD_d, isF_f, GInc, ko_v, ko_n, cat_i2, cat_r2, cat_n2, cat_f2, cat_d2, cat_l2, Nat.zero_le, Nat.zero_add, Nat.le_refl, Nat.reduceAdd, Nat.reduceLeDiff, ne_eq, not_false_eq_true, Nat.reduceEqDiff, sI_mk, wI_mk, wCp_mk, Option.toList, List.nil_append, List.cons_append, kd_20, kd_21, kd_22, kd_23, kd_24, kd_25, kd_26, kd_27, kd_28, kd_29, kd_30, kd_31, kd_32, kd_33, kd_34, kd_35, kd_36, kd_37, kd_38, kd_39, kd_40, kd_41, kd_42, kd_43, kd_44, kd_45, kd_46, kd_47, kd_48, kd_49, kd_50, kd_51, kd_52, kd_53, kd_54]
    refine msh_lp hG (f0 := f) 7 1 f rfl (Nat.le_refl _) (fun p i _ _ => by rw [if_neg (by omega)]) (fun _ _ _ _ => rfl) (fun f1 a1 a2 => ?_)
    have e7 : f1 11 0 7 = 8 := (a2 _ _ _ (by decide)).trans (h1.trans e8)
    have e77 : (8 : Int32) - 1 = ik 7 := by decide
    rw [jb191_2]
    simp only [B191_2, ex_iconst, ex_bipush, ex_sipush, ex_ldc, ex_ldcs, ex_fconst, ex_dconst, ex_iload_n, ex_iload, ex_aload_n, ex_aload, ex_dload_n, ex_dload, ex_fload, ex_istore_n, ex_istore, ex_fstore, ex_dstore_n, ex_dstore, ex_astore_n, ex_astore, ex_iinc, ex_ginc, ex_pop_i, ex_pop_r, ex_dup_i, ex_dup_r, ex_dup_x1, ex_dup2, ex_iadd, ex_isub, ex_imul, ex_iand, ex_ior, ex_ixor, ex_ishl, ex_ishr, ex_idiv, ex_irem, ex_ineg, ex_i2l, ex_i2c, ex_i2b, ex_i2f, ex_i2d, ex_f2d, ex_fdiv, ex_ddiv, ex_lcmp, ex_dcmp, ex_getI, ex_getR, ex_putI, ex_putB, ex_putZ, ex_putR, ex_getsI, ex_getsR, ex_iald, ex_cald, ex_iast, ex_cast, ex_aast, ex_alen, ex_copy1, ex_copy2, ex_throw, ex_goto, ex_fall, ex_if_eq, ex_ic_eq, ex_if_ne, ex_ic_ne, ex_if_lt, ex_ic_lt, ex_if_ge, ex_ic_ge, ex_if_gt, ex_ic_gt, ex_if_le, ex_ic_le, ex_switch, ex_ireturn, ex_ireturn_z, ex_ireturn_b, ex_ireturn_c, ex_areturn, ex_freturn, ex_dreturn, ex_return, ex_is0, ex_is1, ex_is2, ex_is3, ex_is4, ex_is5, ex_is6, ex_is7, ex_iv1, ex_iv2, ex_iv3, ex_iv4, ex_iv5, ex_iv6, ex_iv7, ex_ip1, ex_ip2, ex_ip3, ex_ip4, ex_ip5, ex_ip6, ex_ip7, ex_iu1, ex_iu2, ex_iu3, ex_iu4, ex_iu5, ex_iu6, ex_iu7, List.getD_cons_zero, List.getD_cons_succ, List.set_cons_zero, List.set_cons_succ, isI_i, isA_r, isD_d, isF_f, GInc, ko_v, ko_n, cat_i2, cat_r2, cat_n2, cat_f2, cat_d2, cat_l2, Nat.zero_le, Nat.zero_add, Nat.le_refl, Nat.reduceAdd, Nat.reduceLeDiff, ne_eq, not_false_eq_true, Nat.reduceEqDiff, sI_mk, wI_mk, wCp_mk, Option.toList, List.nil_append, List.cons_append, kd_20, kd_21, kd_22, kd_23, kd_24, kd_25, kd_26, kd_27, kd_28, kd_29, kd_30, kd_31, kd_32, kd_33, kd_34, kd_35, kd_36, kd_37, kd_38, kd_39, kd_40, kd_41, kd_42, kd_43, kd_44, kd_45, kd_46, kd_47, kd_48, kd_49, kd_50, kd_51, kd_52, kd_53, kd_54, pr_11, e7, e77, pr_u11]
    refine fin _ 7 _ (by decide) (by omega) (by rw [up3_at, if_pos ⟨rfl, rfl, rfl⟩]) (fun j E hj7 hj => ?_) (Or.inr ⟨rfl, h8⟩) (fun t j k ht => ?_)
    · refine (h3 j E hj).cg (fun i hi => ?_)
      show up3 f1 11 0 7 _ 46 0 (304 * (7 - 1 - j) + i) = f 46 0 (304 * (hs.length - 1 - j) + i)
      rw [up3_at, if_neg (by omega), a1 (7 - 1 - j) i (by omega) hi]
      exact congrArg (f 46 0) (by omega)
    · rw [up3_at, if_neg (by omega)]
      exact a2 t j k (by omega)
  · have e8 : ¬ ik hs.length = 8 := by rw [show (8 : Int32) = ik 8 from rfl, ik_inj (by omega) (by decide)]; exact h8
    simp only [e8, ne_eq, not_false_eq_true, if_true]
    exact fin f hs.length _ (by omega) (Nat.le_refl _) h1 (fun j E _ hj => h3 j E hj) (Or.inl rfl) (fun _ _ _ _ => rfl)
end Commit
