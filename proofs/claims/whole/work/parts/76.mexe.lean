/-! the model carries the commands out -/
theorem rdT_len {T : List Int32} : ∀ {n p : Nat} {cm cm2 : List (Nat × List Int32)}, p ≤ T.length → 4 * cm.length ≤ p → rdT T n p cm = .inl cm2 → 4 * cm2.length ≤ T.length
  | 0, p, cm, cm2, hp, h, e => by cases e
  | n + 1, p, cm, cm2, hp, h, e => by
    rw [rdT_c, rc_cm] at e
    have hb := cm_b hp
    generalize cmT T p = z at hb e
    cases z with
    | inr q => cases e
    | inl z =>
      obtain ⟨k, as, e2⟩ := z
      obtain ⟨i1, i2, i3⟩ := hb
      dsimp only at e
      by_cases ht : e2 = T.length ∨ chT T e2 = 59
      · rw [if_pos ht] at e
        dsimp only at e
        by_cases he : e2 = T.length
        · rw [if_pos he] at e
          cases e
          rw [len_one]; omega
        · rw [if_neg he] at e
          exact rdT_len (by omega) (by rw [len_one]; omega) e
      · rw [if_neg ht] at e
        cases e
/-- the code of what is thrown -/
def cdE (a : An) : Int32 := match a with
  | .inl _ => 0
  | .inr e => if e = 2 then 1 else if e = 3 then 2 else 3
theorem lay_mk {f f' : SF} {N N' : Nat → Int32} {C : Cst} {D : Dt} {q : Int32 × Int32 × Int32 × Int32} (h : LayMo f N C) (K : ∀ t k, t = 45 ∨ t = 46 ∨ t = 49 ∨ t = 11 ∧ (k = 7 ∨ k = 14 ∨ k = 16) → f' t 0 k = f t 0 k) (e20 : f' 11 0 20 = 0) (hN : RowM N' D) (hR : LayMr f' q) : LayMo f' N' (D, cH C, cS C, q, [], cO C) := by
  obtain ⟨g1, g2, gs, g4, g5, g6⟩ := h
  exact ⟨hN, g2.dep (K _ _ (by decide)) (fun k => K _ _ (by omega)), gs.g (K _ _ (by decide)) (fun k => K _ _ (by omega)), hR, ⟨e20, fun k x hk => absurd hk (by show ¬ ([] : List Int32)[k]? = some x; simp)⟩, ⟨(K _ _ (by decide)).trans g6.1, g6.2.1, fun k x hk => (K _ _ (by omega)).trans (g6.2.2 k x hk)⟩⟩
/-- what the commands change -/
def FrL (f f' : SF) : Prop := ∀ t j n, t ≠ 47 → f' t j n = f t j n
theorem FrL.tr {f g h : SF} (a : FrL f g) (b : FrL g h) : FrL f h := fun t j n q => (b t j n q).trans (a t j n q)
section Mexe
variable {d : Nat} {f : SF} {r : SR} {s : St} {Q : Ot → St → Prop} {N : Nat → Int32} {C : Cst}
/-- what the model's execute leaves -/
def ExQ (Q : Ot → St → Prop) (r : SR) (f : SF) (C : Cst) : Prop := ∀ f' N' w, LayMo f' N' (execC C).2 → FrM f f' → f' 11 0 6 = cdE (execC C).1 → (∀ x, (execC C).1 = .inl x → w = x) → Q (.inl (some (vi w))) (pr f' N', r)
theorem exm_lp (hG : StG r) {cm : List (Nat × List Int32)} (hc : cm.length ≤ 30) (hok : ∀ q ∈ cm, okC q) : ∀ (post pre : List (Nat × List Int32)) (f : SF) (N : Nat → Int32) (D : Dt) (U l : Nat) (u2 : AV), cm = pre ++ post → RowM N D → Inv U D → U + post.length < 1000000 → LayKM f cm →
    ((runC post pre.length l D).2.2 = 0 → ∀ f' N' u2, RowM N' (runC post pre.length l D).1 → FrL f f' → Jx (d + 12) 293 6 [vr 11 0, vi (ik cm.length), u2] [] (pr f' N', r) Q) →
    (∀ v, (runC post pre.length l D).2.2 = v → v = -1 ∨ v = -2 ∨ v = -3 → ∀ f' N', FrL f f' → Jx (d + 12) 293 3 [vr 11 0, vi (ik (runC post pre.length l D).2.1), vi 2] [] (pr f' N', r) Q) →
    (∀ v t, (runC post pre.length l D).2.2 = v → v = 1 ∨ v = 2 ∨ v = 3 ∨ v = 4 ∨ v = 5 → ∀ f' N', FrL f f' → Jx (d + 12) 293 3 [vr 11 0, vi (ik (runC post pre.length l D).2.1), vi 1] [] (pr (rjM f' (v, some t)) N', r) Q) →
    Jx (d + 12) 293 2 [vr 11 0, vi (ik pre.length), u2] [] (pr f N, r) Q := by
  intro post
  induction post with
  | nil =>
    intro pre f N D U l u2 h hN hI hU hK q0 q1 q2
    rw [List.append_nil] at h
    have e4 := hK.1
    have hcc : ik cm.length ≤ ik pre.length := by rw [h]; exact le_self_i
    rw [jb293_2]
    simp only [B293_2, ex_iconst, ex_bipush, ex_sipush, ex_ldc, ex_ldcs, ex_fconst, ex_dconst, ex_iload_n, ex_iload, ex_aload_n, ex_aload, ex_dload_n, ex_dload, ex_fload, ex_istore_n, ex_istore, ex_fstore, ex_dstore_n, ex_dstore, ex_astore_n, ex_astore, ex_iinc, ex_ginc, ex_pop_i, ex_pop_r, ex_dup_i, ex_dup_r, ex_dup_x1, ex_dup2, ex_iadd, ex_isub, ex_imul, ex_iand, ex_ior, ex_ixor, ex_ishl, ex_ishr, ex_idiv, ex_irem, ex_ineg, ex_i2l, ex_i2c, ex_i2b, ex_i2f, ex_i2d, ex_f2d, ex_fdiv, ex_ddiv, ex_lcmp, ex_dcmp, ex_getI, ex_getR, ex_putI, ex_putB, ex_putZ, ex_putR, ex_getsI, ex_getsR, ex_iald, ex_cald, ex_iast, ex_cast, ex_aast, ex_alen, ex_copy1, ex_copy2, ex_throw, ex_goto, ex_fall, ex_if_eq, ex_ic_eq, ex_if_ne, ex_ic_ne, ex_if_lt, ex_ic_lt, ex_if_ge, ex_ic_ge, ex_if_gt, ex_ic_gt, ex_if_le, ex_ic_le, ex_switch, ex_ireturn, ex_ireturn_z, ex_ireturn_b, ex_ireturn_c, ex_areturn, ex_freturn, ex_dreturn, ex_return, ex_is0, ex_is1, ex_is2, ex_is3, ex_is4, ex_is5, ex_is6, ex_is7, ex_iv1, ex_iv2, ex_iv3, ex_iv4, ex_iv5, ex_iv6, ex_iv7, ex_ip1, ex_ip2, ex_ip3, ex_ip4, ex_ip5, ex_ip6, ex_ip7, ex_iu1, ex_iu2, ex_iu3, ex_iu4, ex_iu5, ex_iu6, ex_iu7, List.getD_cons_zero, List.getD_cons_succ, List.set_cons_zero, List.set_cons_succ, isI_i, isA_r, isD_d, isF_f, GInc, ko_v, ko_n, cat_i2, cat_r2, cat_n2, cat_f2, cat_d2, cat_l2, Nat.zero_le, Nat.zero_add, Nat.le_refl, Nat.reduceAdd, Nat.reduceLeDiff, ne_eq, not_false_eq_true, Nat.reduceEqDiff, sI_mk, wI_mk, wCp_mk, Option.toList, List.nil_append, List.cons_append, kd_20, kd_21, kd_22, kd_23, kd_24, kd_25, kd_26, kd_27, kd_28, kd_29, kd_30, kd_31, kd_32, kd_33, kd_34, kd_35, kd_36, kd_37, kd_38, kd_39, kd_40, kd_41, kd_42, kd_43, kd_44, kd_45, kd_46, kd_47, kd_48, kd_49, kd_50, kd_51, kd_52, kd_53, kd_54, pr_11, e4, hcc, if_true]
    have := q0 rfl f N u2 hN (fun _ _ _ _ => rfl)
    rw [h] at this
    exact this
  | cons q post ih =>
    intro pre f N D U l u2 h hN hI hU hK q0 q1 q2
    have e4 := hK.1
    have hpl : pre.length < cm.length := by rw [h]; simp
    have hn : ¬ ik cm.length ≤ ik pre.length := by rw [ik_le (by omega) (by omega)]; omega
    have hq : okC q := hok q (by rw [h]; simp)
    obtain ⟨e51, ha⟩ := hK.2 pre.length q (by rw [h]; exact mid_at)
    rw [List.length_cons] at hU
    have hjm := jdg_m (f := fun _ j n => f 52 j n) (c := pre.length) hq (fun i v hi hv => ha i v hi hv) D
    obtain ⟨hj, hd⟩ := hjm
    rw [runC_c] at q0 q1 q2
    have i0 : inb (ik pre.length) 32 := (inb_ik (by omega)).mpr (by omega)
    have x0 : ix (ik pre.length) = pre.length := ix_ik (by omega)
    have em : (4 : Int32) * ik pre.length = ik (4 * pre.length) := by rw [show (4 : Int32) = ik 4 from rfl, ik_mul]
    have ea1 : ik (4 * pre.length) + 1 = ik (4 * pre.length + 1) := ik_succ
    have ea2 : ik (4 * pre.length) + 2 = ik (4 * pre.length + 2) := ik_add (b := 2)
    have ea3 : ik (4 * pre.length) + 3 = ik (4 * pre.length + 3) := ik_add (b := 3)
    have ib : ∀ j, j < 4 → inb (ik (4 * pre.length + j)) 128 ∧ ix (ik (4 * pre.length + j)) = 4 * pre.length + j := fun j hj => ⟨(inb_ik (by omega)).mpr (by omega), ix_ik (by omega)⟩
    have b0 : inb (ik (4 * pre.length)) 128 := (ib 0 (by decide)).1
    have c0 : ix (ik (4 * pre.length)) = 4 * pre.length := (ib 0 (by decide)).2
    have e51p : pr f N 51 0 pre.length = ik q.1 := (pr_ne (by decide)).trans e51
    have e52p : ∀ n, pr f N 52 0 n = f 52 0 n := fun n => pr_ne (by decide)
    have hk10 : q.1 < 10 := hq.1
    rw [jb293_2]
    simp only [B293_2, ex_iconst, ex_bipush, ex_sipush, ex_ldc, ex_ldcs, ex_fconst, ex_dconst, ex_iload_n, ex_iload, ex_aload_n, ex_aload, ex_dload_n, ex_dload, ex_fload, ex_istore_n, ex_istore, ex_fstore, ex_dstore_n, ex_dstore, ex_astore_n, ex_astore, ex_iinc, ex_ginc, ex_pop_i, ex_pop_r, ex_dup_i, ex_dup_r, ex_dup_x1, ex_dup2, ex_iadd, ex_isub, ex_imul, ex_iand, ex_ior, ex_ixor, ex_ishl, ex_ishr, ex_idiv, ex_irem, ex_ineg, ex_i2l, ex_i2c, ex_i2b, ex_i2f, ex_i2d, ex_f2d, ex_fdiv, ex_ddiv, ex_lcmp, ex_dcmp, ex_getI, ex_getR, ex_putI, ex_putB, ex_putZ, ex_putR, ex_getsI, ex_getsR, ex_iald, ex_cald, ex_iast, ex_cast, ex_aast, ex_alen, ex_copy1, ex_copy2, ex_throw, ex_goto, ex_fall, ex_if_eq, ex_ic_eq, ex_if_ne, ex_ic_ne, ex_if_lt, ex_ic_lt, ex_if_ge, ex_ic_ge, ex_if_gt, ex_ic_gt, ex_if_le, ex_ic_le, ex_switch, ex_ireturn, ex_ireturn_z, ex_ireturn_b, ex_ireturn_c, ex_areturn, ex_freturn, ex_dreturn, ex_return, ex_is0, ex_is1, ex_is2, ex_is3, ex_is4, ex_is5, ex_is6, ex_is7, ex_iv1, ex_iv2, ex_iv3, ex_iv4, ex_iv5, ex_iv6, ex_iv7, ex_ip1, ex_ip2, ex_ip3, ex_ip4, ex_ip5, ex_ip6, ex_ip7, ex_iu1, ex_iu2, ex_iu3, ex_iu4, ex_iu5, ex_iu6, ex_iu7, List.getD_cons_zero, List.getD_cons_succ, List.set_cons_zero, List.set_cons_succ, isI_i, isA_r, isD_d, isF_f, GInc, ko_v, ko_n, cat_i2, cat_r2, cat_n2, cat_f2, cat_d2, cat_l2, Nat.zero_le, Nat.zero_add, Nat.le_refl, Nat.reduceAdd, Nat.reduceLeDiff, ne_eq, not_false_eq_true, Nat.reduceEqDiff, sI_mk, wI_mk, wCp_mk, Option.toList, List.nil_append, List.cons_append, kd_20, kd_21, kd_22, kd_23, kd_24, kd_25, kd_26, kd_27, kd_28, kd_29, kd_30, kd_31, kd_32, kd_33, kd_34, kd_35, kd_36, kd_37, kd_38, kd_39, kd_40, kd_41, kd_42, kd_43, kd_44, kd_45, kd_46, kd_47, kd_48, kd_49, kd_50, kd_51, kd_52, kd_53, kd_54, pr_11, e4, hn, if_false, rg0_0 hG, rg0_1 hG, rg0_2 hG, rg0_4 hG, rg0_5 hG, rg0_6 hG, rg0_7 hG, rg0_8 hG, rg6_0 hG, rg8_0 hG, rg8_1 hG, rg8_4 hG, rg8_5 hG, rg8_6 hG, rg8_7 hG, rg9_0 hG, rg9_2 hG, rg9_3 hG, rg11_0 hG, rg11_1 hG, rg11_2 hG, rg11_3 hG, rg11_4 hG, rg11_5 hG, rg11_15 hG, rg11_17 hG, rg11_18 hG, rg11_19 hG, rl32 hG, rl33 hG, rl34 hG, rl35 hG, rl36 hG, rl37 hG, rl38 hG, rl39 hG, rl40 hG, rl41 hG, rl43 hG, rl44 hG, rl45 hG, rl46 hG, rl47 hG, rl48 hG, rl49 hG, rl50 hG, rl51 hG, rl52 hG, i0, x0, em, ea1, ea2, ea3, b0, c0, (ib 1 (by decide)).1, (ib 1 (by decide)).2, (ib 2 (by decide)).1, (ib 2 (by decide)).2, (ib 3 (by decide)).1, (ib 3 (by decide)).2, e51p, e52p]
    refine does_ok hG hN hI (by omega) hk10 ⟨fun hJ f1 N1 F1 hN1 => ?_, fun v hJ hv => ?_, fun v t hJ hv => ?_⟩
    · rw [hj] at hJ
      have hz : (jdg D q).1 = 0 := by rw [hJ]
      rw [if_pos hz] at q0 q1 q2
      rw [hd] at hN1
      have hI1 : Inv (U + 1) (dok D q).2 := inv_do hI (by omega) hk10 hz
      simp only [ex_iconst, ex_bipush, ex_sipush, ex_ldc, ex_ldcs, ex_fconst, ex_dconst, ex_iload_n, ex_iload, ex_aload_n, ex_aload, ex_dload_n, ex_dload, ex_fload, ex_istore_n, ex_istore, ex_fstore, ex_dstore_n, ex_dstore, ex_astore_n, ex_astore, ex_iinc, ex_ginc, ex_pop_i, ex_pop_r, ex_dup_i, ex_dup_r, ex_dup_x1, ex_dup2, ex_iadd, ex_isub, ex_imul, ex_iand, ex_ior, ex_ixor, ex_ishl, ex_ishr, ex_idiv, ex_irem, ex_ineg, ex_i2l, ex_i2c, ex_i2b, ex_i2f, ex_i2d, ex_f2d, ex_fdiv, ex_ddiv, ex_lcmp, ex_dcmp, ex_getI, ex_getR, ex_putI, ex_putB, ex_putZ, ex_putR, ex_getsI, ex_getsR, ex_iald, ex_cald, ex_iast, ex_cast, ex_aast, ex_alen, ex_copy1, ex_copy2, ex_throw, ex_goto, ex_fall, ex_if_eq, ex_ic_eq, ex_if_ne, ex_ic_ne, ex_if_lt, ex_ic_lt, ex_if_ge, ex_ic_ge, ex_if_gt, ex_ic_gt, ex_if_le, ex_ic_le, ex_switch, ex_ireturn, ex_ireturn_z, ex_ireturn_b, ex_ireturn_c, ex_areturn, ex_freturn, ex_dreturn, ex_return, ex_is0, ex_is1, ex_is2, ex_is3, ex_is4, ex_is5, ex_is6, ex_is7, ex_iv1, ex_iv2, ex_iv3, ex_iv4, ex_iv5, ex_iv6, ex_iv7, ex_ip1, ex_ip2, ex_ip3, ex_ip4, ex_ip5, ex_ip6, ex_ip7, ex_iu1, ex_iu2, ex_iu3, ex_iu4, ex_iu5, ex_iu6, ex_iu7, List.getD_cons_zero, List.getD_cons_succ, List.set_cons_zero, List.set_cons_succ, isI_i, isA_r, isD_d, isF_f, GInc, ko_v, ko_n, cat_i2, cat_r2, cat_n2, cat_f2, cat_d2, cat_l2, Nat.zero_le, Nat.zero_add, Nat.le_refl, Nat.reduceAdd, Nat.reduceLeDiff, ne_eq, not_false_eq_true, Nat.reduceEqDiff, sI_mk, wI_mk, wCp_mk, Option.toList, List.nil_append, List.cons_append, kd_20, kd_21, kd_22, kd_23, kd_24, kd_25, kd_26, kd_27, kd_28, kd_29, kd_30, kd_31, kd_32, kd_33, kd_34, kd_35, kd_36, kd_37, kd_38, kd_39, kd_40, kd_41, kd_42, kd_43, kd_44, kd_45, kd_46, kd_47, kd_48, kd_49, kd_50, kd_51, kd_52, kd_53, kd_54, ne_eq, not_true_eq_false, if_false, jb293_5, B293_5, ik_succ]
      rw [← len_one (x := q)]
      have hl1 : (pre ++ [q]).length = pre.length + 1 := len_one
      refine ih (pre ++ [q]) f1 N1 (dok D q).2 (U + 1) pre.length _ (by rw [h, app_one]) hN1 hI1 (by omega) (hK.dep (F1 _ _ _ (by decide)) (fun t n ht => F1 _ _ _ (by omega))) (fun hz f' N' u2 a F => ?_) (fun v hv hv2 f' N' F => ?_) (fun v t hv hv2 f' N' F => ?_)
      · rw [hl1] at hz a
        exact q0 hz f' N' u2 a (FrL.tr F1 F)
      · rw [hl1] at hv ⊢
        exact q1 v hv hv2 f' N' (FrL.tr F1 F)
      · rw [hl1] at hv ⊢
        exact q2 v t hv hv2 f' N' (FrL.tr F1 F)
    · rw [hj] at hJ
      have hz : (jdg D q).1 = v := by rw [hJ]
      have hz0 : ¬ (jdg D q).1 = 0 := by rw [hz]; rcases hv with rfl | rfl | rfl <;> decide
      rw [if_neg hz0] at q0 q1 q2
      have n2 : ¬ (2 : Int32) = 0 := by decide
      simp only [ex_iconst, ex_bipush, ex_sipush, ex_ldc, ex_ldcs, ex_fconst, ex_dconst, ex_iload_n, ex_iload, ex_aload_n, ex_aload, ex_dload_n, ex_dload, ex_fload, ex_istore_n, ex_istore, ex_fstore, ex_dstore_n, ex_dstore, ex_astore_n, ex_astore, ex_iinc, ex_ginc, ex_pop_i, ex_pop_r, ex_dup_i, ex_dup_r, ex_dup_x1, ex_dup2, ex_iadd, ex_isub, ex_imul, ex_iand, ex_ior, ex_ixor, ex_ishl, ex_ishr, ex_idiv, ex_irem, ex_ineg, ex_i2l, ex_i2c, ex_i2b, ex_i2f, ex_i2d, ex_f2d, ex_fdiv, ex_ddiv, ex_lcmp, ex_dcmp, ex_getI, ex_getR, ex_putI, ex_putB, ex_putZ, ex_putR, ex_getsI, ex_getsR, ex_iald, ex_cald, ex_iast, ex_cast, ex_aast, ex_alen, ex_copy1, ex_copy2, ex_throw, ex_goto, ex_fall, ex_if_eq, ex_ic_eq, ex_if_ne, ex_ic_ne, ex_if_lt, ex_ic_lt, ex_if_ge, ex_ic_ge, ex_if_gt, ex_ic_gt, ex_if_le, ex_ic_le, ex_switch, ex_ireturn, ex_ireturn_z, ex_ireturn_b, ex_ireturn_c, ex_areturn, ex_freturn, ex_dreturn, ex_return, ex_is0, ex_is1, ex_is2, ex_is3, ex_is4, ex_is5, ex_is6, ex_is7, ex_iv1, ex_iv2, ex_iv3, ex_iv4, ex_iv5, ex_iv6, ex_iv7, ex_ip1, ex_ip2, ex_ip3, ex_ip4, ex_ip5, ex_ip6, ex_ip7, ex_iu1, ex_iu2, ex_iu3, ex_iu4, ex_iu5, ex_iu6, ex_iu7, List.getD_cons_zero, List.getD_cons_succ, List.set_cons_zero, List.set_cons_succ, isI_i, isA_r, isD_d, isF_f, GInc, ko_v, ko_n, cat_i2, cat_r2, cat_n2, cat_f2, cat_d2, cat_l2, Nat.zero_le, Nat.zero_add, Nat.le_refl, Nat.reduceAdd, Nat.reduceLeDiff, ne_eq, not_false_eq_true, Nat.reduceEqDiff, sI_mk, wI_mk, wCp_mk, Option.toList, List.nil_append, List.cons_append, kd_20, kd_21, kd_22, kd_23, kd_24, kd_25, kd_26, kd_27, kd_28, kd_29, kd_30, kd_31, kd_32, kd_33, kd_34, kd_35, kd_36, kd_37, kd_38, kd_39, kd_40, kd_41, kd_42, kd_43, kd_44, kd_45, kd_46, kd_47, kd_48, kd_49, kd_50, kd_51, kd_52, kd_53, kd_54, n2, ne_eq, not_false_eq_true, if_true]
      exact q1 v hz hv f N (fun _ _ _ _ => rfl)
    · rw [hj] at hJ
      have hz : (jdg D q).1 = v := by rw [hJ]
      have hz0 : ¬ (jdg D q).1 = 0 := by rw [hz]; rcases hv with rfl | rfl | rfl | rfl | rfl <;> decide
      rw [if_neg hz0] at q0 q1 q2
      have n1 : ¬ (1 : Int32) = 0 := by decide
      simp only [ex_iconst, ex_bipush, ex_sipush, ex_ldc, ex_ldcs, ex_fconst, ex_dconst, ex_iload_n, ex_iload, ex_aload_n, ex_aload, ex_dload_n, ex_dload, ex_fload, ex_istore_n, ex_istore, ex_fstore, ex_dstore_n, ex_dstore, ex_astore_n, ex_astore, ex_iinc, ex_ginc, ex_pop_i, ex_pop_r, ex_dup_i, ex_dup_r, ex_dup_x1, ex_dup2, ex_iadd, ex_isub, ex_imul, ex_iand, ex_ior, ex_ixor, ex_ishl, ex_ishr, ex_idiv, ex_irem, ex_ineg, ex_i2l, ex_i2c, ex_i2b, ex_i2f, ex_i2d, ex_f2d, ex_fdiv, ex_ddiv, ex_lcmp, ex_dcmp, ex_getI, ex_getR, ex_putI, ex_putB, ex_putZ, ex_putR, ex_getsI, ex_getsR, ex_iald, ex_cald, ex_iast, ex_cast, ex_aast, ex_alen, ex_copy1, ex_copy2, ex_throw, ex_goto, ex_fall, ex_if_eq, ex_ic_eq, ex_if_ne, ex_ic_ne, ex_if_lt, ex_ic_lt, ex_if_ge, ex_ic_ge, ex_if_gt, ex_ic_gt, ex_if_le, ex_ic_le, ex_switch, ex_ireturn, ex_ireturn_z, ex_ireturn_b, ex_ireturn_c, ex_areturn, ex_freturn, ex_dreturn, ex_return, ex_is0, ex_is1, ex_is2, ex_is3, ex_is4, ex_is5, ex_is6, ex_is7, ex_iv1, ex_iv2, ex_iv3, ex_iv4, ex_iv5, ex_iv6, ex_iv7, ex_ip1, ex_ip2, ex_ip3, ex_ip4, ex_ip5, ex_ip6, ex_ip7, ex_iu1, ex_iu2, ex_iu3, ex_iu4, ex_iu5, ex_iu6, ex_iu7, List.getD_cons_zero, List.getD_cons_succ, List.set_cons_zero, List.set_cons_succ, isI_i, isA_r, isD_d, isF_f, GInc, ko_v, ko_n, cat_i2, cat_r2, cat_n2, cat_f2, cat_d2, cat_l2, Nat.zero_le, Nat.zero_add, Nat.le_refl, Nat.reduceAdd, Nat.reduceLeDiff, ne_eq, not_false_eq_true, Nat.reduceEqDiff, sI_mk, wI_mk, wCp_mk, Option.toList, List.nil_append, List.cons_append, kd_20, kd_21, kd_22, kd_23, kd_24, kd_25, kd_26, kd_27, kd_28, kd_29, kd_30, kd_31, kd_32, kd_33, kd_34, kd_35, kd_36, kd_37, kd_38, kd_39, kd_40, kd_41, kd_42, kd_43, kd_44, kd_45, kd_46, kd_47, kd_48, kd_49, kd_50, kd_51, kd_52, kd_53, kd_54, n1, ne_eq, not_false_eq_true, if_true]
      exact q2 v t hz hv f N (fun _ _ _ _ => rfl)
theorem exm_ok (hG : StG r) (h : LayMo f N C) {U : Nat} (hI : Inv U (cN C)) (hU : U < 900000) (h60 : (cI C).length ≤ 60) (hq : ExQ Q r f C) : Cl (d + 13) 293 [vr 11 0] (pr f N, r) Q := by
  have hM := h.1
  have hB := fBg_lay h
  have h44 := fBg_44 (f := f) hM
  have bn : ¬ (2 : Int32) = 0 := by decide
  unfold ExQ execC at hq
  rw [en293]
  simp only [B293_0, ex_iconst, ex_bipush, ex_sipush, ex_ldc, ex_ldcs, ex_fconst, ex_dconst, ex_iload_n, ex_iload, ex_aload_n, ex_aload, ex_dload_n, ex_dload, ex_fload, ex_istore_n, ex_istore, ex_fstore, ex_dstore_n, ex_dstore, ex_astore_n, ex_astore, ex_iinc, ex_ginc, ex_pop_i, ex_pop_r, ex_dup_i, ex_dup_r, ex_dup_x1, ex_dup2, ex_iadd, ex_isub, ex_imul, ex_iand, ex_ior, ex_ixor, ex_ishl, ex_ishr, ex_idiv, ex_irem, ex_ineg, ex_i2l, ex_i2c, ex_i2b, ex_i2f, ex_i2d, ex_f2d, ex_fdiv, ex_ddiv, ex_lcmp, ex_dcmp, ex_getI, ex_getR, ex_putI, ex_putB, ex_putZ, ex_putR, ex_getsI, ex_getsR, ex_iald, ex_cald, ex_iast, ex_cast, ex_aast, ex_alen, ex_copy1, ex_copy2, ex_throw, ex_goto, ex_fall, ex_if_eq, ex_ic_eq, ex_if_ne, ex_ic_ne, ex_if_lt, ex_ic_lt, ex_if_ge, ex_ic_ge, ex_if_gt, ex_ic_gt, ex_if_le, ex_ic_le, ex_switch, ex_ireturn, ex_ireturn_z, ex_ireturn_b, ex_ireturn_c, ex_areturn, ex_freturn, ex_dreturn, ex_return, ex_is0, ex_is1, ex_is2, ex_is3, ex_is4, ex_is5, ex_is6, ex_is7, ex_iv1, ex_iv2, ex_iv3, ex_iv4, ex_iv5, ex_iv6, ex_iv7, ex_ip1, ex_ip2, ex_ip3, ex_ip4, ex_ip5, ex_ip6, ex_ip7, ex_iu1, ex_iu2, ex_iu3, ex_iu4, ex_iu5, ex_iu6, ex_iu7, List.getD_cons_zero, List.getD_cons_succ, List.set_cons_zero, List.set_cons_succ, isI_i, isA_r, isD_d, isF_f, GInc, ko_v, ko_n, cat_i2, cat_r2, cat_n2, cat_f2, cat_d2, cat_l2, Nat.zero_le, Nat.zero_add, Nat.le_refl, Nat.reduceAdd, Nat.reduceLeDiff, ne_eq, not_false_eq_true, Nat.reduceEqDiff, sI_mk, wI_mk, wCp_mk, Option.toList, List.nil_append, List.cons_append, kd_20, kd_21, kd_22, kd_23, kd_24, kd_25, kd_26, kd_27, kd_28, kd_29, kd_30, kd_31, kd_32, kd_33, kd_34, kd_35, kd_36, kd_37, kd_38, kd_39, kd_40, kd_41, kd_42, kd_43, kd_44, kd_45, kd_46, kd_47, kd_48, kd_49, kd_50, kd_51, kd_52, kd_53, kd_54, beg_ok2 hG]
  refine prs_ok (T := cI C) hG hB.2.2.2.2.1.1 h60 hB.2.2.2.2.1.2 (fun g Fg eg => ?_)
  have rest : ∀ {f1 : SF}, FrP g f1 → FrP (fBg f N) f1 := fun F => Fg.tr F
  have kpt : ∀ {f1 : SF}, FrP g f1 → ∀ t k, t = 45 ∨ t = 46 ∨ t = 49 ∨ t = 11 ∧ (k = 7 ∨ k = 14 ∨ k = 16) ∨ t = 11 ∧ (k = 8 ∨ k = 9 ∨ k = 10 ∨ k = 11) → f1 t 0 k = f t 0 k := fun F t k hk => ((rest F) t 0 k (by omega) (by omega) (by omega)).trans (fBg_ne (by omega) (by omega))
  have frm : ∀ {f1 : SF}, FrP g f1 → FrM f f1 := fun F t j k hk => ((rest F) t j k (by omega) (by omega) (by omega)).trans (fBg_ne (by omega) (by omega))
  cases hr : rdT (cI C) 60 0 [] with
  | inr q =>
    rw [hr] at hq
    intro f1 e22 e24 F1 e20 e21
    have e22' : ∀ v, up3 f1 11 0 8 v 11 0 22 = ik q := fun v => by rw [up3_at, if_neg (by decide)]; exact e22
    simp only [ex_iconst, ex_bipush, ex_sipush, ex_ldc, ex_ldcs, ex_fconst, ex_dconst, ex_iload_n, ex_iload, ex_aload_n, ex_aload, ex_dload_n, ex_dload, ex_fload, ex_istore_n, ex_istore, ex_fstore, ex_dstore_n, ex_dstore, ex_astore_n, ex_astore, ex_iinc, ex_ginc, ex_pop_i, ex_pop_r, ex_dup_i, ex_dup_r, ex_dup_x1, ex_dup2, ex_iadd, ex_isub, ex_imul, ex_iand, ex_ior, ex_ixor, ex_ishl, ex_ishr, ex_idiv, ex_irem, ex_ineg, ex_i2l, ex_i2c, ex_i2b, ex_i2f, ex_i2d, ex_f2d, ex_fdiv, ex_ddiv, ex_lcmp, ex_dcmp, ex_getI, ex_getR, ex_putI, ex_putB, ex_putZ, ex_putR, ex_getsI, ex_getsR, ex_iald, ex_cald, ex_iast, ex_cast, ex_aast, ex_alen, ex_copy1, ex_copy2, ex_throw, ex_goto, ex_fall, ex_if_eq, ex_ic_eq, ex_if_ne, ex_ic_ne, ex_if_lt, ex_ic_lt, ex_if_ge, ex_ic_ge, ex_if_gt, ex_ic_gt, ex_if_le, ex_ic_le, ex_switch, ex_ireturn, ex_ireturn_z, ex_ireturn_b, ex_ireturn_c, ex_areturn, ex_freturn, ex_dreturn, ex_return, ex_is0, ex_is1, ex_is2, ex_is3, ex_is4, ex_is5, ex_is6, ex_is7, ex_iv1, ex_iv2, ex_iv3, ex_iv4, ex_iv5, ex_iv6, ex_iv7, ex_ip1, ex_ip2, ex_ip3, ex_ip4, ex_ip5, ex_ip6, ex_ip7, ex_iu1, ex_iu2, ex_iu3, ex_iu4, ex_iu5, ex_iu6, ex_iu7, List.getD_cons_zero, List.getD_cons_succ, List.set_cons_zero, List.set_cons_succ, isI_i, isA_r, isD_d, isF_f, GInc, ko_v, ko_n, cat_i2, cat_r2, cat_n2, cat_f2, cat_d2, cat_l2, Nat.zero_le, Nat.zero_add, Nat.le_refl, Nat.reduceAdd, Nat.reduceLeDiff, ne_eq, not_false_eq_true, Nat.reduceEqDiff, sI_mk, wI_mk, wCp_mk, Option.toList, List.nil_append, List.cons_append, kd_20, kd_21, kd_22, kd_23, kd_24, kd_25, kd_26, kd_27, kd_28, kd_29, kd_30, kd_31, kd_32, kd_33, kd_34, kd_35, kd_36, kd_37, kd_38, kd_39, kd_40, kd_41, kd_42, kd_43, kd_44, kd_45, kd_46, kd_47, kd_48, kd_49, kd_50, kd_51, kd_52, kd_53, kd_54, pr_11, e24, nb1, if_false, e22, pr_u11, fail_ok]
    refine hq _ _ _ (lay_mk (C := C) (D := cN C) (q := ((cR C).1, (cR C).2.1, (cR C).2.2.1, ik q)) h (fun t k hk => ?_) ?_ hM ?_) ?_ (by rw [up3_at, if_pos ⟨rfl, rfl, rfl⟩]; rfl) (fun x hx => by cases hx)
    · rw [up3_at, if_neg (by omega), up3_at, if_neg (by omega)]
      exact kpt F1 t k (by omega)
    · rw [up3_at, if_neg (by decide), up3_at, if_neg (by decide)]
      exact e20.trans eg
    · obtain ⟨r1, r2, r3, r4⟩ := h.2.2.2.1
      refine ⟨by rw [up3_at, if_neg (by decide), up3_at, if_pos ⟨rfl, rfl, rfl⟩], ?_, ?_, fun z => ?_⟩
      · rw [up3_at, if_neg (by decide), up3_at, if_neg (by decide)]; exact (kpt F1 _ _ (by decide)).trans r2
      · rw [up3_at, if_neg (by decide), up3_at, if_neg (by decide)]; exact (kpt F1 _ _ (by decide)).trans r3
      · rw [up3_at, if_neg (by decide), up3_at, if_neg (by decide)]; exact (kpt F1 _ _ (by decide)).trans (r4 z)
    · exact ((frm F1).tr (FrM.up (by decide))).tr (FrM.up (by decide))
  | inl cm =>
    rw [hr] at hq
    dsimp only at hq
    intro f1 e22 e24 hK F1 e20 e21
    have hlen := rdT_len (Nat.zero_le _) (by simp) hr
    obtain ⟨hok, -⟩ := rdT_ok (T := cI C) (Nat.zero_le _) (fun q hq => by cases hq) hr
    have e44 : ∀ {f2 : SF}, FrL f1 f2 → ∀ i, f2 44 0 i = fBg f N 44 0 i := fun F i => (F _ _ _ (by decide)).trans ((rest F1) _ _ _ (by omega) (by decide) (by decide))
    have kp2 : ∀ {f2 : SF}, FrL f1 f2 → ∀ t k, t = 45 ∨ t = 46 ∨ t = 49 ∨ t = 11 ∧ (k = 7 ∨ k = 14 ∨ k = 16) ∨ t = 11 ∧ (k = 8 ∨ k = 9 ∨ k = 10 ∨ k = 11) → f2 t 0 k = f t 0 k := fun F t k hk => (F _ _ _ (by omega)).trans (kpt F1 t k hk)
    have fr2 : ∀ {f2 : SF}, FrL f1 f2 → FrM f f2 := fun F t j k hk => (F t j k (by omega)).trans (frm F1 t j k hk)
    have bak : ∀ {f2 : SF} {N2 : Nat → Int32}, FrL f1 f2 → RowM (fun k => if k < 304 then pr f2 N2 44 0 k else N2 k) (cN C) := fun {f2 N2} F => h44.cg (fun i hi => by
      show (if i < 304 then pr f2 N2 44 0 i else N2 i) = _
      rw [if_pos hi, pr_ne (by decide)]
      exact e44 F i)
    have hR := h.2.2.2.1
    simp only [ex_iconst, ex_bipush, ex_sipush, ex_ldc, ex_ldcs, ex_fconst, ex_dconst, ex_iload_n, ex_iload, ex_aload_n, ex_aload, ex_dload_n, ex_dload, ex_fload, ex_istore_n, ex_istore, ex_fstore, ex_dstore_n, ex_dstore, ex_astore_n, ex_astore, ex_iinc, ex_ginc, ex_pop_i, ex_pop_r, ex_dup_i, ex_dup_r, ex_dup_x1, ex_dup2, ex_iadd, ex_isub, ex_imul, ex_iand, ex_ior, ex_ixor, ex_ishl, ex_ishr, ex_idiv, ex_irem, ex_ineg, ex_i2l, ex_i2c, ex_i2b, ex_i2f, ex_i2d, ex_f2d, ex_fdiv, ex_ddiv, ex_lcmp, ex_dcmp, ex_getI, ex_getR, ex_putI, ex_putB, ex_putZ, ex_putR, ex_getsI, ex_getsR, ex_iald, ex_cald, ex_iast, ex_cast, ex_aast, ex_alen, ex_copy1, ex_copy2, ex_throw, ex_goto, ex_fall, ex_if_eq, ex_ic_eq, ex_if_ne, ex_ic_ne, ex_if_lt, ex_ic_lt, ex_if_ge, ex_ic_ge, ex_if_gt, ex_ic_gt, ex_if_le, ex_ic_le, ex_switch, ex_ireturn, ex_ireturn_z, ex_ireturn_b, ex_ireturn_c, ex_areturn, ex_freturn, ex_dreturn, ex_return, ex_is0, ex_is1, ex_is2, ex_is3, ex_is4, ex_is5, ex_is6, ex_is7, ex_iv1, ex_iv2, ex_iv3, ex_iv4, ex_iv5, ex_iv6, ex_iv7, ex_ip1, ex_ip2, ex_ip3, ex_ip4, ex_ip5, ex_ip6, ex_ip7, ex_iu1, ex_iu2, ex_iu3, ex_iu4, ex_iu5, ex_iu6, ex_iu7, List.getD_cons_zero, List.getD_cons_succ, List.set_cons_zero, List.set_cons_succ, isI_i, isA_r, isD_d, isF_f, GInc, ko_v, ko_n, cat_i2, cat_r2, cat_n2, cat_f2, cat_d2, cat_l2, Nat.zero_le, Nat.zero_add, Nat.le_refl, Nat.reduceAdd, Nat.reduceLeDiff, ne_eq, not_false_eq_true, Nat.reduceEqDiff, sI_mk, wI_mk, wCp_mk, Option.toList, List.nil_append, List.cons_append, kd_20, kd_21, kd_22, kd_23, kd_24, kd_25, kd_26, kd_27, kd_28, kd_29, kd_30, kd_31, kd_32, kd_33, kd_34, kd_35, kd_36, kd_37, kd_38, kd_39, kd_40, kd_41, kd_42, kd_43, kd_44, kd_45, kd_46, kd_47, kd_48, kd_49, kd_50, kd_51, kd_52, kd_53, kd_54, pr_11, e24, bn0, if_true, jb293_1, B293_1]
    refine exm_lp hG (show cm.length ≤ 30 by omega) hok cm [] f1 N (cN C) U 0 _ rfl hM hI (by omega) hK (fun hz f2 N2 u2 hN2 F2 => ?_) (fun v hv hv2 f2 N2 F2 => ?_) (fun v t hv hv2 f2 N2 F2 => ?_)
    · rw [List.length_nil] at hz hN2
      rw [if_pos hz] at hq
      have e23 : f2 11 0 23 = ik cm.length := (F2 _ _ _ (by decide)).trans hK.1
      rw [jb293_6]
      simp only [B293_6, ex_iconst, ex_bipush, ex_sipush, ex_ldc, ex_ldcs, ex_fconst, ex_dconst, ex_iload_n, ex_iload, ex_aload_n, ex_aload, ex_dload_n, ex_dload, ex_fload, ex_istore_n, ex_istore, ex_fstore, ex_dstore_n, ex_dstore, ex_astore_n, ex_astore, ex_iinc, ex_ginc, ex_pop_i, ex_pop_r, ex_dup_i, ex_dup_r, ex_dup_x1, ex_dup2, ex_iadd, ex_isub, ex_imul, ex_iand, ex_ior, ex_ixor, ex_ishl, ex_ishr, ex_idiv, ex_irem, ex_ineg, ex_i2l, ex_i2c, ex_i2b, ex_i2f, ex_i2d, ex_f2d, ex_fdiv, ex_ddiv, ex_lcmp, ex_dcmp, ex_getI, ex_getR, ex_putI, ex_putB, ex_putZ, ex_putR, ex_getsI, ex_getsR, ex_iald, ex_cald, ex_iast, ex_cast, ex_aast, ex_alen, ex_copy1, ex_copy2, ex_throw, ex_goto, ex_fall, ex_if_eq, ex_ic_eq, ex_if_ne, ex_ic_ne, ex_if_lt, ex_ic_lt, ex_if_ge, ex_ic_ge, ex_if_gt, ex_ic_gt, ex_if_le, ex_ic_le, ex_switch, ex_ireturn, ex_ireturn_z, ex_ireturn_b, ex_ireturn_c, ex_areturn, ex_freturn, ex_dreturn, ex_return, ex_is0, ex_is1, ex_is2, ex_is3, ex_is4, ex_is5, ex_is6, ex_is7, ex_iv1, ex_iv2, ex_iv3, ex_iv4, ex_iv5, ex_iv6, ex_iv7, ex_ip1, ex_ip2, ex_ip3, ex_ip4, ex_ip5, ex_ip6, ex_ip7, ex_iu1, ex_iu2, ex_iu3, ex_iu4, ex_iu5, ex_iu6, ex_iu7, List.getD_cons_zero, List.getD_cons_succ, List.set_cons_zero, List.set_cons_succ, isI_i, isA_r, isD_d, isF_f, GInc, ko_v, ko_n, cat_i2, cat_r2, cat_n2, cat_f2, cat_d2, cat_l2, Nat.zero_le, Nat.zero_add, Nat.le_refl, Nat.reduceAdd, Nat.reduceLeDiff, ne_eq, not_false_eq_true, Nat.reduceEqDiff, sI_mk, wI_mk, wCp_mk, Option.toList, List.nil_append, List.cons_append, kd_20, kd_21, kd_22, kd_23, kd_24, kd_25, kd_26, kd_27, kd_28, kd_29, kd_30, kd_31, kd_32, kd_33, kd_34, kd_35, kd_36, kd_37, kd_38, kd_39, kd_40, kd_41, kd_42, kd_43, kd_44, kd_45, kd_46, kd_47, kd_48, kd_49, kd_50, kd_51, kd_52, kd_53, kd_54, pr_11, e23]
      refine com_ok (hs := cH C) (D := cN C) hG (h.2.1.dep (kp2 F2 _ _ (by decide)) (fun k => kp2 F2 _ _ (by omega))) (h44.cg (fun i _ => e44 F2 i)) (fun f3 hH F3 => ?_)
      simp only [ex_iconst, ex_bipush, ex_sipush, ex_ldc, ex_ldcs, ex_fconst, ex_dconst, ex_iload_n, ex_iload, ex_aload_n, ex_aload, ex_dload_n, ex_dload, ex_fload, ex_istore_n, ex_istore, ex_fstore, ex_dstore_n, ex_dstore, ex_astore_n, ex_astore, ex_iinc, ex_ginc, ex_pop_i, ex_pop_r, ex_dup_i, ex_dup_r, ex_dup_x1, ex_dup2, ex_iadd, ex_isub, ex_imul, ex_iand, ex_ior, ex_ixor, ex_ishl, ex_ishr, ex_idiv, ex_irem, ex_ineg, ex_i2l, ex_i2c, ex_i2b, ex_i2f, ex_i2d, ex_f2d, ex_fdiv, ex_ddiv, ex_lcmp, ex_dcmp, ex_getI, ex_getR, ex_putI, ex_putB, ex_putZ, ex_putR, ex_getsI, ex_getsR, ex_iald, ex_cald, ex_iast, ex_cast, ex_aast, ex_alen, ex_copy1, ex_copy2, ex_throw, ex_goto, ex_fall, ex_if_eq, ex_ic_eq, ex_if_ne, ex_ic_ne, ex_if_lt, ex_ic_lt, ex_if_ge, ex_ic_ge, ex_if_gt, ex_ic_gt, ex_if_le, ex_ic_le, ex_switch, ex_ireturn, ex_ireturn_z, ex_ireturn_b, ex_ireturn_c, ex_areturn, ex_freturn, ex_dreturn, ex_return, ex_is0, ex_is1, ex_is2, ex_is3, ex_is4, ex_is5, ex_is6, ex_is7, ex_iv1, ex_iv2, ex_iv3, ex_iv4, ex_iv5, ex_iv6, ex_iv7, ex_ip1, ex_ip2, ex_ip3, ex_ip4, ex_ip5, ex_ip6, ex_ip7, ex_iu1, ex_iu2, ex_iu3, ex_iu4, ex_iu5, ex_iu6, ex_iu7, List.getD_cons_zero, List.getD_cons_succ, List.set_cons_zero, List.set_cons_succ, isI_i, isA_r, isD_d, isF_f, GInc, ko_v, ko_n, cat_i2, cat_r2, cat_n2, cat_f2, cat_d2, cat_l2, Nat.zero_le, Nat.zero_add, Nat.le_refl, Nat.reduceAdd, Nat.reduceLeDiff, ne_eq, not_false_eq_true, Nat.reduceEqDiff, sI_mk, wI_mk, wCp_mk, Option.toList, List.nil_append, List.cons_append, kd_20, kd_21, kd_22, kd_23, kd_24, kd_25, kd_26, kd_27, kd_28, kd_29, kd_30, kd_31, kd_32, kd_33, kd_34, kd_35, kd_36, kd_37, kd_38, kd_39, kd_40, kd_41, kd_42, kd_43, kd_44, kd_45, kd_46, kd_47, kd_48, kd_49, kd_50, kd_51, kd_52, kd_53, kd_54]
      have k3 : ∀ t k, t = 45 ∨ t = 49 ∨ t = 11 ∧ (k = 14 ∨ k = 16 ∨ k = 8 ∨ k = 9 ∨ k = 10 ∨ k = 11) → f3 t 0 k = f t 0 k := fun t k hk => (F3 _ _ _ (by omega)).trans (kp2 F2 _ _ (by omega))
      obtain ⟨g1, g2, gs, g4, g5, g6⟩ := h
      refine hq f3 N2 _ ⟨hN2, hH, gs.g (k3 _ _ (by decide)) (fun k => k3 _ _ (by omega)), ⟨(k3 _ _ (by decide)).trans g4.1, (k3 _ _ (by decide)).trans g4.2.1, (k3 _ _ (by decide)).trans g4.2.2.1, fun z => (k3 _ _ (by decide)).trans (g4.2.2.2 z)⟩, ⟨?_, fun k x hk => absurd hk (by show ¬ ([] : List Int32)[k]? = some x; simp)⟩, ⟨(k3 _ _ (by decide)).trans g6.1, g6.2.1, fun k x hk => (k3 _ _ (by omega)).trans (g6.2.2 k x hk)⟩⟩ ((fr2 F2).tr (fun t j k hk => F3 t j k (by omega))) ?_ (fun x hx => by cases hx; rfl)
      · exact (F3 _ _ _ (by decide)).trans ((F2 _ _ _ (by decide)).trans (e20.trans eg))
      · exact (F3 _ _ _ (by decide)).trans ((F2 _ _ _ (by decide)).trans (((rest F1) _ _ _ (by omega) (by decide) (by decide)).trans fBg_6))
    · rw [List.length_nil] at hv ⊢
      have hz0 : ¬ (runC cm 0 0 (cN C)).2.2 = 0 := by rw [hv]; rcases hv2 with rfl | rfl | rfl <;> decide
      have hzn : (runC cm 0 0 (cN C)).2.2 < 0 := by rw [hv]; rcases hv2 with rfl | rfl | rfl <;> decide
      rw [if_neg hz0, if_pos hzn] at hq
      have o := fun Q => mcp_ok (d := d + 11) (f := pr f2 N2) (r := r) (Q := Q) (t1 := 44) (t2 := 43) (a := 0) (b := 0) kd_44 kd_43 (fun f => rl44 hG) (fun f => rl43 hG) (by decide) (by decide) (by decide) (by decide) (Or.inl (by decide))
      rw [pr_st43, show ik 0 = (0 : Int32) from rfl] at o
      simp only [Nat.zero_add] at o
      rw [jb293_3]
      simp only [B293_3, ex_iconst, ex_bipush, ex_sipush, ex_ldc, ex_ldcs, ex_fconst, ex_dconst, ex_iload_n, ex_iload, ex_aload_n, ex_aload, ex_dload_n, ex_dload, ex_fload, ex_istore_n, ex_istore, ex_fstore, ex_dstore_n, ex_dstore, ex_astore_n, ex_astore, ex_iinc, ex_ginc, ex_pop_i, ex_pop_r, ex_dup_i, ex_dup_r, ex_dup_x1, ex_dup2, ex_iadd, ex_isub, ex_imul, ex_iand, ex_ior, ex_ixor, ex_ishl, ex_ishr, ex_idiv, ex_irem, ex_ineg, ex_i2l, ex_i2c, ex_i2b, ex_i2f, ex_i2d, ex_f2d, ex_fdiv, ex_ddiv, ex_lcmp, ex_dcmp, ex_getI, ex_getR, ex_putI, ex_putB, ex_putZ, ex_putR, ex_getsI, ex_getsR, ex_iald, ex_cald, ex_iast, ex_cast, ex_aast, ex_alen, ex_copy1, ex_copy2, ex_throw, ex_goto, ex_fall, ex_if_eq, ex_ic_eq, ex_if_ne, ex_ic_ne, ex_if_lt, ex_ic_lt, ex_if_ge, ex_ic_ge, ex_if_gt, ex_ic_gt, ex_if_le, ex_ic_le, ex_switch, ex_ireturn, ex_ireturn_z, ex_ireturn_b, ex_ireturn_c, ex_areturn, ex_freturn, ex_dreturn, ex_return, ex_is0, ex_is1, ex_is2, ex_is3, ex_is4, ex_is5, ex_is6, ex_is7, ex_iv1, ex_iv2, ex_iv3, ex_iv4, ex_iv5, ex_iv6, ex_iv7, ex_ip1, ex_ip2, ex_ip3, ex_ip4, ex_ip5, ex_ip6, ex_ip7, ex_iu1, ex_iu2, ex_iu3, ex_iu4, ex_iu5, ex_iu6, ex_iu7, List.getD_cons_zero, List.getD_cons_succ, List.set_cons_zero, List.set_cons_succ, isI_i, isA_r, isD_d, isF_f, GInc, ko_v, ko_n, cat_i2, cat_r2, cat_n2, cat_f2, cat_d2, cat_l2, Nat.zero_le, Nat.zero_add, Nat.le_refl, Nat.reduceAdd, Nat.reduceLeDiff, ne_eq, not_false_eq_true, Nat.reduceEqDiff, sI_mk, wI_mk, wCp_mk, Option.toList, List.nil_append, List.cons_append, kd_20, kd_21, kd_22, kd_23, kd_24, kd_25, kd_26, kd_27, kd_28, kd_29, kd_30, kd_31, kd_32, kd_33, kd_34, kd_35, kd_36, kd_37, kd_38, kd_39, kd_40, kd_41, kd_42, kd_43, kd_44, kd_45, kd_46, kd_47, kd_48, kd_49, kd_50, kd_51, kd_52, kd_53, kd_54, rg0_0 hG, rg0_1 hG, rg0_2 hG, rg0_4 hG, rg0_5 hG, rg0_6 hG, rg0_7 hG, rg0_8 hG, rg6_0 hG, rg8_0 hG, rg8_1 hG, rg8_4 hG, rg8_5 hG, rg8_6 hG, rg8_7 hG, rg9_0 hG, rg9_2 hG, rg9_3 hG, rg11_0 hG, rg11_1 hG, rg11_2 hG, rg11_3 hG, rg11_4 hG, rg11_5 hG, rg11_15 hG, rg11_17 hG, rg11_18 hG, rg11_19 hG, rl32 hG, rl33 hG, rl34 hG, rl35 hG, rl36 hG, rl37 hG, rl38 hG, rl39 hG, rl40 hG, rl41 hG, rl43 hG, rl44 hG, rl45 hG, rl46 hG, rl47 hG, rl48 hG, rl49 hG, rl50 hG, rl51 hG, rl52 hG, o, ne_eq, not_true_eq_false, if_false, fail_ok]
      refine hq _ _ _ (lay_mk (C := C) (D := cN C) (q := cR C) h (fun t k hk => ?_) ?_ (bak F2) ?_) ((fr2 F2).tr (FrM.up (by decide))) (by rw [up3_at, if_pos ⟨rfl, rfl, rfl⟩]; rfl) (fun x hx => by cases hx)
      · rw [up3_at, if_neg (by omega)]
        exact kp2 F2 t k (by omega)
      · rw [up3_at, if_neg (by decide)]
        exact (F2 _ _ _ (by decide)).trans (e20.trans eg)
      · obtain ⟨r1, r2, r3, r4⟩ := hR
        refine ⟨?_, ?_, ?_, fun z => ?_⟩
        · rw [up3_at, if_neg (by decide)]; exact (kp2 F2 _ _ (by decide)).trans r1
        · rw [up3_at, if_neg (by decide)]; exact (kp2 F2 _ _ (by decide)).trans r2
        · rw [up3_at, if_neg (by decide)]; exact (kp2 F2 _ _ (by decide)).trans r3
        · rw [up3_at, if_neg (by decide)]; exact (kp2 F2 _ _ (by decide)).trans (r4 z)
    · rw [List.length_nil] at hv ⊢
      have hz0 : ¬ (runC cm 0 0 (cN C)).2.2 = 0 := by rw [hv]; rcases hv2 with rfl | rfl | rfl | rfl | rfl <;> decide
      have hzn : ¬ (runC cm 0 0 (cN C)).2.2 < 0 := by rw [hv]; rcases hv2 with rfl | rfl | rfl | rfl | rfl <;> decide
      rw [if_neg hz0, if_neg hzn] at hq
      have o := fun Q => mcp_ok (d := d + 11) (f := pr (rjM f2 (v, some t)) N2) (r := r) (Q := Q) (t1 := 44) (t2 := 43) (a := 0) (b := 0) kd_44 kd_43 (fun f => rl44 hG) (fun f => rl43 hG) (by decide) (by decide) (by decide) (by decide) (Or.inl (by decide))
      rw [pr_st43, show ik 0 = (0 : Int32) from rfl] at o
      simp only [Nat.zero_add] at o
      have rj : ∀ t0 k, ¬ (t0 = 11 ∧ (k = 12 ∨ k = 13)) → rjM f2 (v, some t) t0 0 k = f2 t0 0 k := fun t0 k hk => by
        show up3 (up3 f2 11 0 12 v) 11 0 13 t t0 0 k = _
        rw [up3_at, if_neg (by omega), up3_at, if_neg (by omega)]
      have rj12 : rjM f2 (v, some t) 11 0 12 = v := by
        show up3 (up3 f2 11 0 12 v) 11 0 13 t 11 0 12 = _
        rw [up3_at, if_neg (by decide), up3_at, if_pos ⟨rfl, rfl, rfl⟩]
      have rjF : FrM f2 (rjM f2 (v, some t)) := (FrM.up (by decide)).tr (FrM.up (by decide))
      have bk : RowM (fun k => if k < 304 then pr (rjM f2 (v, some t)) N2 44 0 k else N2 k) (cN C) := h44.cg (fun i hi => by
        show (if i < 304 then pr (rjM f2 (v, some t)) N2 44 0 i else N2 i) = _
        rw [if_pos hi, pr_ne (by decide), rj _ _ (by omega)]
        exact e44 F2 i)
      have n12 : ¬ (1 : Int32) = 2 := by decide
      have e12 : ∀ a b, up3 (up3 (rjM f2 (v, some t)) 11 0 9 a) 11 0 10 b 11 0 12 = v := fun a b => by
        rw [up3_at, if_neg (by decide), up3_at, if_neg (by decide)]
        exact rj12
      rw [jb293_3]
      simp only [B293_3, ex_iconst, ex_bipush, ex_sipush, ex_ldc, ex_ldcs, ex_fconst, ex_dconst, ex_iload_n, ex_iload, ex_aload_n, ex_aload, ex_dload_n, ex_dload, ex_fload, ex_istore_n, ex_istore, ex_fstore, ex_dstore_n, ex_dstore, ex_astore_n, ex_astore, ex_iinc, ex_ginc, ex_pop_i, ex_pop_r, ex_dup_i, ex_dup_r, ex_dup_x1, ex_dup2, ex_iadd, ex_isub, ex_imul, ex_iand, ex_ior, ex_ixor, ex_ishl, ex_ishr, ex_idiv, ex_irem, ex_ineg, ex_i2l, ex_i2c, ex_i2b, ex_i2f, ex_i2d, ex_f2d, ex_fdiv, ex_ddiv, ex_lcmp, ex_dcmp, ex_getI, ex_getR, ex_putI, ex_putB, ex_putZ, ex_putR, ex_getsI, ex_getsR, ex_iald, ex_cald, ex_iast, ex_cast, ex_aast, ex_alen, ex_copy1, ex_copy2, ex_throw, ex_goto, ex_fall, ex_if_eq, ex_ic_eq, ex_if_ne, ex_ic_ne, ex_if_lt, ex_ic_lt, ex_if_ge, ex_ic_ge, ex_if_gt, ex_ic_gt, ex_if_le, ex_ic_le, ex_switch, ex_ireturn, ex_ireturn_z, ex_ireturn_b, ex_ireturn_c, ex_areturn, ex_freturn, ex_dreturn, ex_return, ex_is0, ex_is1, ex_is2, ex_is3, ex_is4, ex_is5, ex_is6, ex_is7, ex_iv1, ex_iv2, ex_iv3, ex_iv4, ex_iv5, ex_iv6, ex_iv7, ex_ip1, ex_ip2, ex_ip3, ex_ip4, ex_ip5, ex_ip6, ex_ip7, ex_iu1, ex_iu2, ex_iu3, ex_iu4, ex_iu5, ex_iu6, ex_iu7, List.getD_cons_zero, List.getD_cons_succ, List.set_cons_zero, List.set_cons_succ, isI_i, isA_r, isD_d, isF_f, GInc, ko_v, ko_n, cat_i2, cat_r2, cat_n2, cat_f2, cat_d2, cat_l2, Nat.zero_le, Nat.zero_add, Nat.le_refl, Nat.reduceAdd, Nat.reduceLeDiff, ne_eq, not_false_eq_true, Nat.reduceEqDiff, sI_mk, wI_mk, wCp_mk, Option.toList, List.nil_append, List.cons_append, kd_20, kd_21, kd_22, kd_23, kd_24, kd_25, kd_26, kd_27, kd_28, kd_29, kd_30, kd_31, kd_32, kd_33, kd_34, kd_35, kd_36, kd_37, kd_38, kd_39, kd_40, kd_41, kd_42, kd_43, kd_44, kd_45, kd_46, kd_47, kd_48, kd_49, kd_50, kd_51, kd_52, kd_53, kd_54, rg0_0 hG, rg0_1 hG, rg0_2 hG, rg0_4 hG, rg0_5 hG, rg0_6 hG, rg0_7 hG, rg0_8 hG, rg6_0 hG, rg8_0 hG, rg8_1 hG, rg8_4 hG, rg8_5 hG, rg8_6 hG, rg8_7 hG, rg9_0 hG, rg9_2 hG, rg9_3 hG, rg11_0 hG, rg11_1 hG, rg11_2 hG, rg11_3 hG, rg11_4 hG, rg11_5 hG, rg11_15 hG, rg11_17 hG, rg11_18 hG, rg11_19 hG, rl32 hG, rl33 hG, rl34 hG, rl35 hG, rl36 hG, rl37 hG, rl38 hG, rl39 hG, rl40 hG, rl41 hG, rl43 hG, rl44 hG, rl45 hG, rl46 hG, rl47 hG, rl48 hG, rl49 hG, rl50 hG, rl51 hG, rl52 hG, o, n12, ne_eq, not_false_eq_true, if_true, jb293_4, B293_4, pr_u11, pr_11, e12, fail_ok]
      refine hq _ _ _ (lay_mk (C := C) (D := cN C) (q := (6, ik (runC cm 0 0 (cN C)).2.1, (runC cm 0 0 (cN C)).2.2, (cR C).2.2.2)) h (fun t k hk => ?_) ?_ bk ?_) (((((fr2 F2).tr rjF).tr (FrM.up (by decide))).tr (FrM.up (by decide))).tr (FrM.up (by decide)) |>.tr (FrM.up (by decide))) (by rw [up3_at, if_pos ⟨rfl, rfl, rfl⟩]; rfl) (fun x hx => by cases hx)
      · rw [up3_at, if_neg (by omega), up3_at, if_neg (by omega), up3_at, if_neg (by omega), up3_at, if_neg (by omega), rj _ _ (by omega)]
        exact kp2 F2 t k (by omega)
      · rw [up3_at, if_neg (by decide), up3_at, if_neg (by decide), up3_at, if_neg (by decide), up3_at, if_neg (by decide), rj _ _ (by decide)]
        exact (F2 _ _ _ (by decide)).trans (e20.trans eg)
      · obtain ⟨r1, r2, r3, r4⟩ := hR
        refine ⟨?_, ?_, ?_, fun z => ?_⟩
        · rw [up3_at, if_neg (by decide), up3_at, if_neg (by decide), up3_at, if_neg (by decide), up3_at, if_neg (by decide), rj _ _ (by decide)]
          exact (kp2 F2 _ _ (by decide)).trans r1
        · rw [up3_at, if_neg (by decide), up3_at, if_neg (by decide), up3_at, if_neg (by decide), up3_at, if_pos ⟨rfl, rfl, rfl⟩]
        · rw [up3_at, if_neg (by decide), up3_at, if_neg (by decide), up3_at, if_pos ⟨rfl, rfl, rfl⟩]
        · rw [up3_at, if_neg (by decide), up3_at, if_pos ⟨rfl, rfl, rfl⟩]
          exact hv.symm
end Mexe
