/-! the model carries out a change -/
theorem bn_out {D : Dt} {k : Nat} (hk : (dBs D).length ≤ k) : bnAt D k = (0, 0, 0, 0) := by
  unfold bnAt
  rw [List.getD_eq_getElem?_getD, List.getElem?_eq_none hk]
  rfl
theorem bn_setD {D : Dt} {k t : Nat} {v : Int32} (hk : k < (dBs D).length) : ∀ b, bnAt (setD t k v D) b = upf (bnAt D) k (setBn t (bnAt D k) v) b := fun b => by
  unfold setD
  rw [bn_set hk]
  rfl
theorem row_setD {N : Nat → Int32} {D : Dt} {k t : Nat} {v : Int32} (hk : k < (dBs D).length) (h : RowX N (dBs D).length (upf (bnAt D) k (setBn t (bnAt D k) v)) (fun b => fB b (dSs D)) (dAc D) (dPr D) (dMo D) (dNx D)) : RowM N (setD t k v D) := by
  unfold RowM
  rw [show (dBs (setD t k v D)).length = (dBs D).length from List.length_set ..]
  exact h.ext (fun b _ => bn_setD hk b) (fun _ _ => rfl) (fun _ _ => rfl) (fun _ _ => rfl)
theorem row_feed {N : Nat → Int32} {E : Dt} (hC : InvC E) {k : Nat} (hk : k < (dBs E).length)
    (h : RowX N (dBs E).length (upf (bnAt E) k (setBn 22 (bnAt E k) (afterM (leftBy (bT (bnAt E k)) (bI (bnAt E k))) (imin (leftBy (bT (bnAt E k)) (bI (bnAt E k))) (kgL (ik k) (dSs E) 0)))))
      (upf (fun b => fB b (dSs E)) k (noZ (eatX (fB k (dSs E)) (imin (leftBy (bT (bnAt E k)) (bI (bnAt E k))) (kgL (ik k) (dSs E) 0)) (dAc E 7)).1))
      (updn (updn (dAc E) 7 (eatX (fB k (dSs E)) (imin (leftBy (bT (bnAt E k)) (bI (bnAt E k))) (kgL (ik k) (dSs E) 0)) (dAc E 7)).2) 2 (dAc E 2 + imin (leftBy (bT (bnAt E k)) (bI (bnAt E k))) (kgL (ik k) (dSs E) 0))) (dPr E) (dMo E) (dNx E)) : RowM N (feedE k E).2 := by
  obtain ⟨-, -, ⟨m, em, hm20⟩, ⟨t, et, ht9⟩⟩ := hC.okB hk
  have hn := nws_400 hC hk
  have hz : imin (leftBy (bT (bnAt E k)) (bI (bnAt E k))) (kgL (ik k) (dSs E) 0) = ik (min (m - t) (nws (fB k (dSs E)))) := by
    rw [em, et, leftBy_n ht9 hm20, kg_nws hC, imin_nat (by omega) (by omega)]
  have h5 := hC.1.1
  unfold RowM
  rw [(feedE_keep (k := k) (E := E)).2.2.2]
  refine h.ext (fun b _ => ?_) (fun b hb => ?_) (fun j _ => ?_) (fun _ _ => rfl)
  · show bnAt ((dBs E).set k _, _) b = _
    rw [bn_set hk]
    rfl
  · show fB b (noE (eatL (ik k) (dSs E) _ _).1) = _
    rw [noE_fB]
    by_cases hbk : b = k
    · subst hbk
      rw [upf_eq, (eat_fB _ _ _).1]
      refine noE_noZ ?_
      rw [hz]
      exact eatX_good hC.good.fB (by omega)
    · rw [upf_ne hbk, eat_fB2 (fun z => hbk ((ik_inj (by omega) (by omega)).mp z).symm)]
      exact noE_id (fun x hx => hC.pos x (fB_mem.mp hx).1)
  · show updn (updn (dAc E) 7 (eatL (ik k) (dSs E) _ _).2) 2 _ j = _
    rw [(eat_fB _ _ _).2]
    rfl
section Mdo
variable {d : Nat} {f : SF} {r : SR} {s : St} {Q : Ot → St → Prop} {N : Nat → Int32}
theorem mfeed_ok (hG : StG r) {E : Dt} (h : RowM N E) (hC : InvC E) {k : Nat} (hk : k < (dBs E).length) (hq : ∀ N', RowM N' (feedE k E).2 → Q (.inl (some (vi (feedE k E).1))) (pr f N', r)) : Cl (d + 5) 218 [vr 11 0, vi (ik k)] (pr f N, r) Q := by
  have h5 := hC.1.1
  refine eats_ok hG h (show k < 5 by omega) (fun N' h2 => ?_)
  have e : wgX (fB k (dSs E)) 0 = kgL (ik k) (dSs E) 0 := (kg_fB _ _).symm
  simp only [e] at h2 ⊢
  exact hq N' (row_feed hC hk h2)
theorem mbins_lp (hG : StG r) {m0 n0 : Nat} : ∀ (m k : Nat) (N : Nat → Int32) (E : Dt) (e : Int32), RowM N E → InvC E → k + m = (dBs E).length →
    (∀ N' u, RowM N' (binsE m k E e).1 → Jx (d + 5) 217 3 [vr 11 0, vi (ik m0), vi (binsE m k E e).2, vi (ik n0), u] [] (pr f N', r) Q) → Jx (d + 5) 217 2 [vr 11 0, vi (ik m0), vi e, vi (ik n0), vi (ik k)] [] (pr f N, r) Q := by
  intro m
  induction m with
  | zero =>
    intro k N E e h hC hk hq
    have h0 : N 0 = ik (dBs E).length := h.1
    have h5 := hC.1.1
    have hc : ik (dBs E).length ≤ ik k := by rw [ik_le (by omega) (by omega)]; omega
    rw [jb217_2]
    simp only [B217_2, ex_iconst, ex_bipush, ex_sipush, ex_ldc, ex_ldcs, ex_fconst, ex_dconst, ex_iload_n, ex_iload, ex_aload_n, ex_aload, ex_dload_n, ex_dload, ex_fload, ex_istore_n, ex_istore, ex_fstore, ex_dstore_n, ex_dstore, ex_astore_n, ex_astore, ex_iinc, ex_ginc, ex_pop_i, ex_pop_r, ex_dup_i, ex_dup_r, ex_dup_x1, ex_dup2, ex_iadd, ex_isub, ex_imul, ex_iand, ex_ior, ex_ixor, ex_ishl, ex_ishr, ex_idiv, ex_irem, ex_ineg, ex_i2l, ex_i2c, ex_i2b, ex_i2f, ex_i2d, ex_f2d, ex_fdiv, ex_ddiv, ex_lcmp, ex_dcmp, ex_getI, ex_getR, ex_putI, ex_putB, ex_putZ, ex_putR, ex_getsI, ex_getsR, ex_iald, ex_cald, ex_iast, ex_cast, ex_aast, ex_alen, ex_copy1, ex_copy2, ex_throw, ex_goto, ex_fall, ex_if_eq, ex_ic_eq, ex_if_ne, ex_ic_ne, ex_if_lt, ex_ic_lt, ex_if_ge, ex_ic_ge, ex_if_gt, ex_ic_gt, ex_if_le, ex_ic_le, ex_switch, ex_ireturn, ex_ireturn_z, ex_ireturn_b, ex_ireturn_c, ex_areturn, ex_freturn, ex_dreturn, ex_return, ex_is0, ex_is1, ex_is2, ex_is3, ex_is4, ex_is5, ex_is6, ex_is7, ex_iv1, ex_iv2, ex_iv3, ex_iv4, ex_iv5, ex_iv6, ex_iv7, ex_ip1, ex_ip2, ex_ip3, ex_ip4, ex_ip5, ex_ip6, ex_ip7, ex_iu1, ex_iu2, ex_iu3, ex_iu4, ex_iu5, ex_iu6, ex_iu7, List.getD_cons_zero, List.getD_cons_succ, List.set_cons_zero, List.set_cons_succ, isI_i, isA_r, isD_d, isF_f, GInc, ko_v, ko_n, cat_i2, cat_r2, cat_n2, cat_f2, cat_d2, cat_l2, Nat.zero_le, Nat.zero_add, Nat.le_refl, Nat.reduceAdd, Nat.reduceLeDiff, ne_eq, not_false_eq_true, Nat.reduceEqDiff, sI_mk, wI_mk, wCp_mk, Option.toList, List.nil_append, List.cons_append, kd_20, kd_21, kd_22, kd_23, kd_24, kd_25, kd_26, kd_27, kd_28, kd_29, kd_30, kd_31, kd_32, kd_33, kd_34, kd_35, kd_36, kd_37, kd_38, kd_39, kd_40, kd_41, kd_42, kd_43, kd_44, kd_45, kd_46, kd_47, kd_48, kd_49, kd_50, kd_51, kd_52, kd_53, kd_54, rg0_0 hG, rg0_1 hG, rg0_2 hG, rg0_4 hG, rg0_5 hG, rg0_6 hG, rg0_7 hG, rg0_8 hG, rg6_0 hG, rg8_0 hG, rg8_1 hG, rg8_4 hG, rg8_5 hG, rg8_6 hG, rg8_7 hG, rg9_0 hG, rg9_2 hG, rg9_3 hG, rg11_0 hG, rg11_1 hG, rg11_2 hG, rg11_3 hG, rg11_4 hG, rg11_5 hG, rg11_15 hG, rg11_17 hG, rg11_18 hG, rg11_19 hG, rl32 hG, rl33 hG, rl34 hG, rl35 hG, rl36 hG, rl37 hG, rl38 hG, rl39 hG, rl40 hG, rl41 hG, rl43 hG, rl44 hG, rl45 hG, rl46 hG, rl47 hG, rl48 hG, rl49 hG, rl50 hG, rl51 hG, rl52 hG, inb0, ixn0, pr_43, h0, hc, if_true]
    exact hq N _ h
  | succ m ih =>
    intro k N E e h hC hk hq
    have h0 : N 0 = ik (dBs E).length := h.1
    have h5 := hC.1.1
    have hc : ¬ ik (dBs E).length ≤ ik k := by rw [ik_le (by omega) (by omega)]; omega
    rw [jb217_2]
    simp only [B217_2, ex_iconst, ex_bipush, ex_sipush, ex_ldc, ex_ldcs, ex_fconst, ex_dconst, ex_iload_n, ex_iload, ex_aload_n, ex_aload, ex_dload_n, ex_dload, ex_fload, ex_istore_n, ex_istore, ex_fstore, ex_dstore_n, ex_dstore, ex_astore_n, ex_astore, ex_iinc, ex_ginc, ex_pop_i, ex_pop_r, ex_dup_i, ex_dup_r, ex_dup_x1, ex_dup2, ex_iadd, ex_isub, ex_imul, ex_iand, ex_ior, ex_ixor, ex_ishl, ex_ishr, ex_idiv, ex_irem, ex_ineg, ex_i2l, ex_i2c, ex_i2b, ex_i2f, ex_i2d, ex_f2d, ex_fdiv, ex_ddiv, ex_lcmp, ex_dcmp, ex_getI, ex_getR, ex_putI, ex_putB, ex_putZ, ex_putR, ex_getsI, ex_getsR, ex_iald, ex_cald, ex_iast, ex_cast, ex_aast, ex_alen, ex_copy1, ex_copy2, ex_throw, ex_goto, ex_fall, ex_if_eq, ex_ic_eq, ex_if_ne, ex_ic_ne, ex_if_lt, ex_ic_lt, ex_if_ge, ex_ic_ge, ex_if_gt, ex_ic_gt, ex_if_le, ex_ic_le, ex_switch, ex_ireturn, ex_ireturn_z, ex_ireturn_b, ex_ireturn_c, ex_areturn, ex_freturn, ex_dreturn, ex_return, ex_is0, ex_is1, ex_is2, ex_is3, ex_is4, ex_is5, ex_is6, ex_is7, ex_iv1, ex_iv2, ex_iv3, ex_iv4, ex_iv5, ex_iv6, ex_iv7, ex_ip1, ex_ip2, ex_ip3, ex_ip4, ex_ip5, ex_ip6, ex_ip7, ex_iu1, ex_iu2, ex_iu3, ex_iu4, ex_iu5, ex_iu6, ex_iu7, List.getD_cons_zero, List.getD_cons_succ, List.set_cons_zero, List.set_cons_succ, isI_i, isA_r, isD_d, isF_f, GInc, ko_v, ko_n, cat_i2, cat_r2, cat_n2, cat_f2, cat_d2, cat_l2, Nat.zero_le, Nat.zero_add, Nat.le_refl, Nat.reduceAdd, Nat.reduceLeDiff, ne_eq, not_false_eq_true, Nat.reduceEqDiff, sI_mk, wI_mk, wCp_mk, Option.toList, List.nil_append, List.cons_append, kd_20, kd_21, kd_22, kd_23, kd_24, kd_25, kd_26, kd_27, kd_28, kd_29, kd_30, kd_31, kd_32, kd_33, kd_34, kd_35, kd_36, kd_37, kd_38, kd_39, kd_40, kd_41, kd_42, kd_43, kd_44, kd_45, kd_46, kd_47, kd_48, kd_49, kd_50, kd_51, kd_52, kd_53, kd_54, rg0_0 hG, rg0_1 hG, rg0_2 hG, rg0_4 hG, rg0_5 hG, rg0_6 hG, rg0_7 hG, rg0_8 hG, rg6_0 hG, rg8_0 hG, rg8_1 hG, rg8_4 hG, rg8_5 hG, rg8_6 hG, rg8_7 hG, rg9_0 hG, rg9_2 hG, rg9_3 hG, rg11_0 hG, rg11_1 hG, rg11_2 hG, rg11_3 hG, rg11_4 hG, rg11_5 hG, rg11_15 hG, rg11_17 hG, rg11_18 hG, rg11_19 hG, rl32 hG, rl33 hG, rl34 hG, rl35 hG, rl36 hG, rl37 hG, rl38 hG, rl39 hG, rl40 hG, rl41 hG, rl43 hG, rl44 hG, rl45 hG, rl46 hG, rl47 hG, rl48 hG, rl49 hG, rl50 hG, rl51 hG, rl52 hG, inb0, ixn0, pr_43, h0, hc, if_false]
    refine mfeed_ok hG h hC (by omega) (fun N1 h1 => ?_)
    simp only [ex_iconst, ex_bipush, ex_sipush, ex_ldc, ex_ldcs, ex_fconst, ex_dconst, ex_iload_n, ex_iload, ex_aload_n, ex_aload, ex_dload_n, ex_dload, ex_fload, ex_istore_n, ex_istore, ex_fstore, ex_dstore_n, ex_dstore, ex_astore_n, ex_astore, ex_iinc, ex_ginc, ex_pop_i, ex_pop_r, ex_dup_i, ex_dup_r, ex_dup_x1, ex_dup2, ex_iadd, ex_isub, ex_imul, ex_iand, ex_ior, ex_ixor, ex_ishl, ex_ishr, ex_idiv, ex_irem, ex_ineg, ex_i2l, ex_i2c, ex_i2b, ex_i2f, ex_i2d, ex_f2d, ex_fdiv, ex_ddiv, ex_lcmp, ex_dcmp, ex_getI, ex_getR, ex_putI, ex_putB, ex_putZ, ex_putR, ex_getsI, ex_getsR, ex_iald, ex_cald, ex_iast, ex_cast, ex_aast, ex_alen, ex_copy1, ex_copy2, ex_throw, ex_goto, ex_fall, ex_if_eq, ex_ic_eq, ex_if_ne, ex_ic_ne, ex_if_lt, ex_ic_lt, ex_if_ge, ex_ic_ge, ex_if_gt, ex_ic_gt, ex_if_le, ex_ic_le, ex_switch, ex_ireturn, ex_ireturn_z, ex_ireturn_b, ex_ireturn_c, ex_areturn, ex_freturn, ex_dreturn, ex_return, ex_is0, ex_is1, ex_is2, ex_is3, ex_is4, ex_is5, ex_is6, ex_is7, ex_iv1, ex_iv2, ex_iv3, ex_iv4, ex_iv5, ex_iv6, ex_iv7, ex_ip1, ex_ip2, ex_ip3, ex_ip4, ex_ip5, ex_ip6, ex_ip7, ex_iu1, ex_iu2, ex_iu3, ex_iu4, ex_iu5, ex_iu6, ex_iu7, List.getD_cons_zero, List.getD_cons_succ, List.set_cons_zero, List.set_cons_succ, isI_i, isA_r, isD_d, isF_f, GInc, ko_v, ko_n, cat_i2, cat_r2, cat_n2, cat_f2, cat_d2, cat_l2, Nat.zero_le, Nat.zero_add, Nat.le_refl, Nat.reduceAdd, Nat.reduceLeDiff, ne_eq, not_false_eq_true, Nat.reduceEqDiff, sI_mk, wI_mk, wCp_mk, Option.toList, List.nil_append, List.cons_append, kd_20, kd_21, kd_22, kd_23, kd_24, kd_25, kd_26, kd_27, kd_28, kd_29, kd_30, kd_31, kd_32, kd_33, kd_34, kd_35, kd_36, kd_37, kd_38, kd_39, kd_40, kd_41, kd_42, kd_43, kd_44, kd_45, kd_46, kd_47, kd_48, kd_49, kd_50, kd_51, kd_52, kd_53, kd_54, ik_succ]
    exact ih (k + 1) N1 (feedE k E).2 (e + (feedE k E).1) h1 (inv_feed hC (by omega)) (by rw [feedE_keep.2.2.2]; omega) hq
theorem mmons_lp (hG : StG r) {m0 : Nat} (hm0 : m0 < 1000) : ∀ (m k : Nat) (N : Nat → Int32) (E : Dt) (e : Int32) (u : AV), RowM N E → InvC E → k + m = m0 →
    (∀ N', RowM N' (monthsE m E e).1 → Q (.inl (some (vi (monthsE m E e).2))) (pr f N', r)) → Jx (d + 5) 217 1 [vr 11 0, vi (ik m0), vi e, vi (ik k), u] [] (pr f N, r) Q := by
  intro m
  induction m with
  | zero =>
    intro k N E e u h hC hk hq
    have hc : ik m0 ≤ ik k := by rw [ik_le (by omega) (by omega)]; omega
    rw [jb217_1]
    simp only [B217_1, ex_iconst, ex_bipush, ex_sipush, ex_ldc, ex_ldcs, ex_fconst, ex_dconst, ex_iload_n, ex_iload, ex_aload_n, ex_aload, ex_dload_n, ex_dload, ex_fload, ex_istore_n, ex_istore, ex_fstore, ex_dstore_n, ex_dstore, ex_astore_n, ex_astore, ex_iinc, ex_ginc, ex_pop_i, ex_pop_r, ex_dup_i, ex_dup_r, ex_dup_x1, ex_dup2, ex_iadd, ex_isub, ex_imul, ex_iand, ex_ior, ex_ixor, ex_ishl, ex_ishr, ex_idiv, ex_irem, ex_ineg, ex_i2l, ex_i2c, ex_i2b, ex_i2f, ex_i2d, ex_f2d, ex_fdiv, ex_ddiv, ex_lcmp, ex_dcmp, ex_getI, ex_getR, ex_putI, ex_putB, ex_putZ, ex_putR, ex_getsI, ex_getsR, ex_iald, ex_cald, ex_iast, ex_cast, ex_aast, ex_alen, ex_copy1, ex_copy2, ex_throw, ex_goto, ex_fall, ex_if_eq, ex_ic_eq, ex_if_ne, ex_ic_ne, ex_if_lt, ex_ic_lt, ex_if_ge, ex_ic_ge, ex_if_gt, ex_ic_gt, ex_if_le, ex_ic_le, ex_switch, ex_ireturn, ex_ireturn_z, ex_ireturn_b, ex_ireturn_c, ex_areturn, ex_freturn, ex_dreturn, ex_return, ex_is0, ex_is1, ex_is2, ex_is3, ex_is4, ex_is5, ex_is6, ex_is7, ex_iv1, ex_iv2, ex_iv3, ex_iv4, ex_iv5, ex_iv6, ex_iv7, ex_ip1, ex_ip2, ex_ip3, ex_ip4, ex_ip5, ex_ip6, ex_ip7, ex_iu1, ex_iu2, ex_iu3, ex_iu4, ex_iu5, ex_iu6, ex_iu7, List.getD_cons_zero, List.getD_cons_succ, List.set_cons_zero, List.set_cons_succ, isI_i, isA_r, isD_d, isF_f, GInc, ko_v, ko_n, cat_i2, cat_r2, cat_n2, cat_f2, cat_d2, cat_l2, Nat.zero_le, Nat.zero_add, Nat.le_refl, Nat.reduceAdd, Nat.reduceLeDiff, ne_eq, not_false_eq_true, Nat.reduceEqDiff, sI_mk, wI_mk, wCp_mk, Option.toList, List.nil_append, List.cons_append, kd_20, kd_21, kd_22, kd_23, kd_24, kd_25, kd_26, kd_27, kd_28, kd_29, kd_30, kd_31, kd_32, kd_33, kd_34, kd_35, kd_36, kd_37, kd_38, kd_39, kd_40, kd_41, kd_42, kd_43, kd_44, kd_45, kd_46, kd_47, kd_48, kd_49, kd_50, kd_51, kd_52, kd_53, kd_54, hc, if_true, jb217_4, B217_4]
    exact hq N h
  | succ m ih =>
    intro k N E e u h hC hk hq
    have hc : ¬ ik m0 ≤ ik k := by rw [ik_le (by omega) (by omega)]; omega
    have e2 : N 2 = dMo E := h.2.2.2.1
    have h1 : RowM (updn N 2 (dMo E + 1)) (nextM E) := h.mon
    rw [jb217_1]
    simp only [B217_1, ex_iconst, ex_bipush, ex_sipush, ex_ldc, ex_ldcs, ex_fconst, ex_dconst, ex_iload_n, ex_iload, ex_aload_n, ex_aload, ex_dload_n, ex_dload, ex_fload, ex_istore_n, ex_istore, ex_fstore, ex_dstore_n, ex_dstore, ex_astore_n, ex_astore, ex_iinc, ex_ginc, ex_pop_i, ex_pop_r, ex_dup_i, ex_dup_r, ex_dup_x1, ex_dup2, ex_iadd, ex_isub, ex_imul, ex_iand, ex_ior, ex_ixor, ex_ishl, ex_ishr, ex_idiv, ex_irem, ex_ineg, ex_i2l, ex_i2c, ex_i2b, ex_i2f, ex_i2d, ex_f2d, ex_fdiv, ex_ddiv, ex_lcmp, ex_dcmp, ex_getI, ex_getR, ex_putI, ex_putB, ex_putZ, ex_putR, ex_getsI, ex_getsR, ex_iald, ex_cald, ex_iast, ex_cast, ex_aast, ex_alen, ex_copy1, ex_copy2, ex_throw, ex_goto, ex_fall, ex_if_eq, ex_ic_eq, ex_if_ne, ex_ic_ne, ex_if_lt, ex_ic_lt, ex_if_ge, ex_ic_ge, ex_if_gt, ex_ic_gt, ex_if_le, ex_ic_le, ex_switch, ex_ireturn, ex_ireturn_z, ex_ireturn_b, ex_ireturn_c, ex_areturn, ex_freturn, ex_dreturn, ex_return, ex_is0, ex_is1, ex_is2, ex_is3, ex_is4, ex_is5, ex_is6, ex_is7, ex_iv1, ex_iv2, ex_iv3, ex_iv4, ex_iv5, ex_iv6, ex_iv7, ex_ip1, ex_ip2, ex_ip3, ex_ip4, ex_ip5, ex_ip6, ex_ip7, ex_iu1, ex_iu2, ex_iu3, ex_iu4, ex_iu5, ex_iu6, ex_iu7, List.getD_cons_zero, List.getD_cons_succ, List.set_cons_zero, List.set_cons_succ, isI_i, isA_r, isD_d, isF_f, GInc, ko_v, ko_n, cat_i2, cat_r2, cat_n2, cat_f2, cat_d2, cat_l2, Nat.zero_le, Nat.zero_add, Nat.le_refl, Nat.reduceAdd, Nat.reduceLeDiff, ne_eq, not_false_eq_true, Nat.reduceEqDiff, sI_mk, wI_mk, wCp_mk, Option.toList, List.nil_append, List.cons_append, kd_20, kd_21, kd_22, kd_23, kd_24, kd_25, kd_26, kd_27, kd_28, kd_29, kd_30, kd_31, kd_32, kd_33, kd_34, kd_35, kd_36, kd_37, kd_38, kd_39, kd_40, kd_41, kd_42, kd_43, kd_44, kd_45, kd_46, kd_47, kd_48, kd_49, kd_50, kd_51, kd_52, kd_53, kd_54, hc, if_false, rg0_0 hG, rg0_1 hG, rg0_2 hG, rg0_4 hG, rg0_5 hG, rg0_6 hG, rg0_7 hG, rg0_8 hG, rg6_0 hG, rg8_0 hG, rg8_1 hG, rg8_4 hG, rg8_5 hG, rg8_6 hG, rg8_7 hG, rg9_0 hG, rg9_2 hG, rg9_3 hG, rg11_0 hG, rg11_1 hG, rg11_2 hG, rg11_3 hG, rg11_4 hG, rg11_5 hG, rg11_15 hG, rg11_17 hG, rg11_18 hG, rg11_19 hG, rl32 hG, rl33 hG, rl34 hG, rl35 hG, rl36 hG, rl37 hG, rl38 hG, rl39 hG, rl40 hG, rl41 hG, rl43 hG, rl44 hG, rl45 hG, rl46 hG, rl47 hG, rl48 hG, rl49 hG, rl50 hG, rl51 hG, rl52 hG, inb2, ixn2, pr_43, e2, pr_up]
    refine mbins_lp hG (dBs E).length 0 _ (nextM E) e h1 (inv_next hC) (by show 0 + (dBs E).length = (dBs E).length; omega) (fun N1 u1 h2 => ?_)
    rw [jb217_3]
    simp only [B217_3, ex_iconst, ex_bipush, ex_sipush, ex_ldc, ex_ldcs, ex_fconst, ex_dconst, ex_iload_n, ex_iload, ex_aload_n, ex_aload, ex_dload_n, ex_dload, ex_fload, ex_istore_n, ex_istore, ex_fstore, ex_dstore_n, ex_dstore, ex_astore_n, ex_astore, ex_iinc, ex_ginc, ex_pop_i, ex_pop_r, ex_dup_i, ex_dup_r, ex_dup_x1, ex_dup2, ex_iadd, ex_isub, ex_imul, ex_iand, ex_ior, ex_ixor, ex_ishl, ex_ishr, ex_idiv, ex_irem, ex_ineg, ex_i2l, ex_i2c, ex_i2b, ex_i2f, ex_i2d, ex_f2d, ex_fdiv, ex_ddiv, ex_lcmp, ex_dcmp, ex_getI, ex_getR, ex_putI, ex_putB, ex_putZ, ex_putR, ex_getsI, ex_getsR, ex_iald, ex_cald, ex_iast, ex_cast, ex_aast, ex_alen, ex_copy1, ex_copy2, ex_throw, ex_goto, ex_fall, ex_if_eq, ex_ic_eq, ex_if_ne, ex_ic_ne, ex_if_lt, ex_ic_lt, ex_if_ge, ex_ic_ge, ex_if_gt, ex_ic_gt, ex_if_le, ex_ic_le, ex_switch, ex_ireturn, ex_ireturn_z, ex_ireturn_b, ex_ireturn_c, ex_areturn, ex_freturn, ex_dreturn, ex_return, ex_is0, ex_is1, ex_is2, ex_is3, ex_is4, ex_is5, ex_is6, ex_is7, ex_iv1, ex_iv2, ex_iv3, ex_iv4, ex_iv5, ex_iv6, ex_iv7, ex_ip1, ex_ip2, ex_ip3, ex_ip4, ex_ip5, ex_ip6, ex_ip7, ex_iu1, ex_iu2, ex_iu3, ex_iu4, ex_iu5, ex_iu6, ex_iu7, List.getD_cons_zero, List.getD_cons_succ, List.set_cons_zero, List.set_cons_succ, isI_i, isA_r, isD_d, isF_f, GInc, ko_v, ko_n, cat_i2, cat_r2, cat_n2, cat_f2, cat_d2, cat_l2, Nat.zero_le, Nat.zero_add, Nat.le_refl, Nat.reduceAdd, Nat.reduceLeDiff, ne_eq, not_false_eq_true, Nat.reduceEqDiff, sI_mk, wI_mk, wCp_mk, Option.toList, List.nil_append, List.cons_append, kd_20, kd_21, kd_22, kd_23, kd_24, kd_25, kd_26, kd_27, kd_28, kd_29, kd_30, kd_31, kd_32, kd_33, kd_34, kd_35, kd_36, kd_37, kd_38, kd_39, kd_40, kd_41, kd_42, kd_43, kd_44, kd_45, kd_46, kd_47, kd_48, kd_49, kd_50, kd_51, kd_52, kd_53, kd_54, ik_succ]
    obtain ⟨a, -⟩ := inv_bins (dBs E).length 0 (nextM E) e (inv_next hC) (by show 0 + (dBs E).length = (dBs E).length; omega)
    exact ih (k + 1) N1 _ _ _ h2 a (by omega) hq
/-- a change of the kind 9 -/
theorem mpass_ok (hG : StG r) {D : Dt} (h : RowM N D) (hC : InvC D) {m : Nat} (hm : m < 1000) (hq : ∀ N', RowM N' (passD m D).2 → Q (.inl (some (vi (passD m D).1))) (pr f N', r)) : Cl (d + 6) 217 [vr 11 0, vi (ik m)] (pr f N, r) Q := by
  rw [pass_E] at hq
  rw [en217]
  simp only [B217_0, ex_iconst, ex_bipush, ex_sipush, ex_ldc, ex_ldcs, ex_fconst, ex_dconst, ex_iload_n, ex_iload, ex_aload_n, ex_aload, ex_dload_n, ex_dload, ex_fload, ex_istore_n, ex_istore, ex_fstore, ex_dstore_n, ex_dstore, ex_astore_n, ex_astore, ex_iinc, ex_ginc, ex_pop_i, ex_pop_r, ex_dup_i, ex_dup_r, ex_dup_x1, ex_dup2, ex_iadd, ex_isub, ex_imul, ex_iand, ex_ior, ex_ixor, ex_ishl, ex_ishr, ex_idiv, ex_irem, ex_ineg, ex_i2l, ex_i2c, ex_i2b, ex_i2f, ex_i2d, ex_f2d, ex_fdiv, ex_ddiv, ex_lcmp, ex_dcmp, ex_getI, ex_getR, ex_putI, ex_putB, ex_putZ, ex_putR, ex_getsI, ex_getsR, ex_iald, ex_cald, ex_iast, ex_cast, ex_aast, ex_alen, ex_copy1, ex_copy2, ex_throw, ex_goto, ex_fall, ex_if_eq, ex_ic_eq, ex_if_ne, ex_ic_ne, ex_if_lt, ex_ic_lt, ex_if_ge, ex_ic_ge, ex_if_gt, ex_ic_gt, ex_if_le, ex_ic_le, ex_switch, ex_ireturn, ex_ireturn_z, ex_ireturn_b, ex_ireturn_c, ex_areturn, ex_freturn, ex_dreturn, ex_return, ex_is0, ex_is1, ex_is2, ex_is3, ex_is4, ex_is5, ex_is6, ex_is7, ex_iv1, ex_iv2, ex_iv3, ex_iv4, ex_iv5, ex_iv6, ex_iv7, ex_ip1, ex_ip2, ex_ip3, ex_ip4, ex_ip5, ex_ip6, ex_ip7, ex_iu1, ex_iu2, ex_iu3, ex_iu4, ex_iu5, ex_iu6, ex_iu7, List.getD_cons_zero, List.getD_cons_succ, List.set_cons_zero, List.set_cons_succ, isI_i, isA_r, isD_d, isF_f, GInc, ko_v, ko_n, cat_i2, cat_r2, cat_n2, cat_f2, cat_d2, cat_l2, Nat.zero_le, Nat.zero_add, Nat.le_refl, Nat.reduceAdd, Nat.reduceLeDiff, ne_eq, not_false_eq_true, Nat.reduceEqDiff, sI_mk, wI_mk, wCp_mk, Option.toList, List.nil_append, List.cons_append, kd_20, kd_21, kd_22, kd_23, kd_24, kd_25, kd_26, kd_27, kd_28, kd_29, kd_30, kd_31, kd_32, kd_33, kd_34, kd_35, kd_36, kd_37, kd_38, kd_39, kd_40, kd_41, kd_42, kd_43, kd_44, kd_45, kd_46, kd_47, kd_48, kd_49, kd_50, kd_51, kd_52, kd_53, kd_54]
  exact mmons_lp hG hm m 0 N D 0 _ h hC (by omega) hq
theorem maddb_ok (hG : StG r) {D : Dt} (h : RowM N D) (hn : (dBs D).length < 5) {c m : Int32} (hq : ∀ N', RowM N' (dBs D ++ [(c, m, 0, 0)], D.2) → Q (.inl (some (vi (ik (dBs D).length)))) (pr f N', r)) : Cl (d + 2) 189 [vr 11 0, vi c, vi m] (pr f N, r) Q := by
  refine addb_ok hG h hn (fun N' h2 => hq N' ?_)
  unfold RowM
  rw [show (dBs ((dBs D ++ [(c, m, 0, 0)], D.2) : Dt)).length = (dBs D).length + 1 from len_one]
  refine h2.ext (fun b _ => ?_) (fun _ _ => rfl) (fun _ _ => rfl) (fun _ _ => rfl)
  rw [bn_app (Y := D.2)]
  by_cases hb : b = (dBs D).length
  · subst hb
    rw [if_pos rfl, upf_eq, bn_out (Nat.le_refl _)]
  · rw [if_neg hb, upf_ne hb]
theorem mmeth_ok (hG : StG r) {D : Dt} (h : RowM N D) (h5 : (dBs D).length ≤ 5) {k : Nat} (hk : k < (dBs D).length) {m : Int32} (hq : ∀ N', RowM N' (setD 21 k m D) → Q (.inl (some (vi (bM (bnAt D k))))) (pr f N', r)) : Cl (d + 2) 195 [vr 11 0, vi (ik k), vi m] (pr f N, r) Q := meth_ok hG h (show k < 5 by omega) (fun N' h2 => hq N' (row_setD hk h2))
theorem mset2_ok (hG : StG r) {D : Dt} (h : RowM N D) (h5 : (dBs D).length ≤ 5) {k : Nat} (hk : k < (dBs D).length) {m : Int32} (hq : ∀ N', RowM N' (setD 22 k m D) → Q (.inl (some (vi (bI (bnAt D k))))) (pr f N', r)) : Cl (d + 2) 214 [vr 11 0, vi (ik k), vi 2, vi m] (pr f N, r) Q := sets2_ok hG h (show k < 5 by omega) (fun N' h2 => hq N' (row_setD hk h2))
theorem mset3_ok (hG : StG r) {D : Dt} (h : RowM N D) (h5 : (dBs D).length ≤ 5) {k : Nat} (hk : k < (dBs D).length) {m : Int32} (hq : ∀ N', RowM N' (setD 23 k m D) → Q (.inl (some (vi (bT (bnAt D k))))) (pr f N', r)) : Cl (d + 2) 214 [vr 11 0, vi (ik k), vi 3, vi m] (pr f N, r) Q := sets3_ok hG h (show k < 5 by omega) (fun N' h2 => hq N' (row_setD hk h2))
theorem mstore_ok (hG : StG r) {D : Dt} (h : RowM N D) (hC : InvC D) {k : Nat} (hk : k < (dBs D).length) (hl : (fB k (dSs D)).length ≤ 9) {w p g : Int32}
    (hq : ∀ N', RowM N' (storeD (ik k) w p g D).2 → Q (.inl (some (vi (dNx D)))) (pr f N', r)) : Cl (d + 4) 202 [vr 11 0, vi (ik k), vi w, vi p, vi g] (pr f N, r) Q := by
  have h5 := hC.1.1
  refine stores_ok hG h (show k < 5 by omega) hl (fun N' h2 => hq N' ?_)
  refine h2.ext (fun _ _ => rfl) (fun b hb => ?_) (fun _ _ => rfl) (fun _ _ => rfl)
  show fB b (dSs D ++ [(dNx D, w, p, g, dMo D, ik k)]) = _
  have e : fB b [((dNx D, w, p, g, dMo D, ik k) : Sk)] = if ik k = ik b then [(dNx D, w, p, g, dMo D, ik k)] else [] := by
    rw [fB_c]
    rfl
  rw [fB_app, e]
  by_cases hbk : b = k
  · subst hbk
    rw [upf_eq, if_pos rfl, insX_last (fun x hx => ?_)]
    exact lt_le_i.mpr (Int32.le_of_lt (hC.2.1.2.2.1 x (fB_mem.mp hx).1))
  · rw [upf_ne hbk, if_neg (fun z => hbk ((ik_inj (by omega) (by omega)).mp z).symm), List.append_nil]
theorem mmove_ok (hG : StG r) {D : Dt} (h : RowM N D) (hC : InvC D) {z : Int32} {k : Nat} (hk : k < (dBs D).length) (hl : (fB k (dSs D)).length ≤ 9) {x : Sk} (hf : fndS D z = some x) (hb : kB x ≠ ik k)
    (hq : ∀ N', RowM N' (moveD z (ik k) D) → Q (.inl (some (vi (kgL (ik k) (dSs (moveD z (ik k) D)) 0)))) (pr f N', r)) : Cl (d + 5) 209 [vr 11 0, vi z, vi (ik k)] (pr f N, r) Q := by
  have h5 := hC.1.1
  rcases fnd_bw hC (z := z) with ⟨hf2, -⟩ | ⟨y, j, pre, post, hf2, hj, ej, hz, ef, ep, eb, h10⟩
  · rw [hf] at hf2; cases hf2
  · rw [hf] at hf2
    cases hf2
    have hjk : j ≠ k := fun e => hb (by rw [ej, e])
    obtain ⟨p0, q0, e0, -, -⟩ := fnd_split hf
    have hu := hC.uq
    rw [e0] at hu
    have em := map_mid (b := ik k) hz hu
    rw [← e0] at em
    have ed : dSs (moveD z (ik k) D) = p0 ++ setB x (ik k) :: q0 := em
    have s2 := hC.2.1.2.1
    rw [e0, List.pairwise_append, List.pairwise_cons] at s2
    have eA : ∀ b, b < 5 → b ≠ j → b ≠ k → fB b (p0 ++ setB x (ik k) :: q0) = fB b (dSs D) := fun b hb5 h1 h2 => by
      have c1 : ¬ kB x = ik b := fun e => h1 ((ik_inj (by omega) (by omega)).mp (e.symm.trans ej))
      have c2 : ¬ kB (setB x (ik k)) = ik b := fun e => h2 ((ik_inj (by omega) (by omega)).mp (show ik k = ik b from e)).symm
      rw [e0, fB_app, fB_app, fB_c, fB_c, if_neg c1, if_neg c2]
    have eK : fB k (p0 ++ setB x (ik k) :: q0) = insX (setB x (ik k)) (fB k (dSs D)) := by
      have c2 : kB (setB x (ik k)) = ik k := rfl
      rw [e0, fB_app, fB_app, fB_c, fB_c, if_neg hb, if_pos c2]
      refine (insX_mid (fun y hy => ?_) (fun y hy => ?_)).symm
      · exact lt_le_i.mpr (Int32.le_of_lt (s2.2.2 y (fB_mem.mp hy).1 x List.mem_cons_self))
      · exact s2.2.1.1 y (fB_mem.mp hy).1
    have eJ : fB j (p0 ++ setB x (ik k) :: q0) = pre ++ post := by
      have c2 : ¬ kB (setB x (ik k)) = ik j := fun e => hjk ((ik_inj (by omega) (by omega)).mp (show ik k = ik j from e)).symm
      have e1 := ef
      rw [e0, fB_app, fB_c, if_pos ej] at e1
      have u1 : ∀ y ∈ fB j p0, kId y ≠ z := fun y hy => by
        rw [← hz]
        exact fun e => by
          have := s2.2.2 y (fB_mem.mp hy).1 x List.mem_cons_self
          rw [e] at this
          exact lt_le_i.mpr le_self_i this
      have e2 : plX z (fB j (dSs D)) 0 = ik (fB j p0).length := by
        rw [e0, fB_app, fB_c, if_pos ej, plX_mid hz u1, Nat.zero_add]
      have l0 : (fB j p0).length < 100 := by
        have := (hC.2.1.2.2.2 j hj).1
        rw [ef, ← e1, List.length_append] at this
        omega
      have e3 : (fB j p0).length = pre.length := (ik_inj (by omega) (by omega)).mp (e2.symm.trans ep)
      obtain ⟨g1, g2⟩ := List.append_inj e1 e3
      rw [fB_app, fB_c, if_neg c2, g1, (List.cons.inj g2).2]
    refine moves_ok hG h (b := j) (c := k) hj (show k < 5 by omega) hjk hl eb ep ef hz (fun N' h2 => ?_)
    have e5 : wgX (insX (setB x (ik k)) (fB k (dSs D))) 0 = kgL (ik k) (dSs (moveD z (ik k) D)) 0 := by rw [kg_fB, ed, eK]
    rw [e5]
    refine hq N' (h2.ext (fun _ _ => rfl) (fun b hb5 => ?_) (fun _ _ => rfl) (fun _ _ => rfl))
    show fB b (dSs (moveD z (ik k) D)) = _
    rw [ed]
    by_cases hbj : b = j
    · subst hbj
      rw [upf_eq, eJ]
    · rw [upf_ne hbj]
      by_cases hbk : b = k
      · subst hbk
        rw [upf_eq, eK]
      · rw [upf_ne hbk, eA b hb5 hbj hbk]
theorem mprc_ok (hG : StG r) {D : Dt} (h : RowM N D) {k : Nat} (hk : k < 12) {v : Int32} (hq : ∀ N', RowM N' (dBs D, dSs D, dAc D, updn (dPr D) k v, dMo D, dNx D) → Q (.inl (some (vi (dPr D k)))) (pr f N', r)) : Cl (d + 1) 234 [vr 11 0, vi (ik k), vi v] (pr f N, r) Q := prcs_ok hG h hk hq
theorem msift_ok (hG : StG r) {D : Dt} (h : RowM N D) (hC : InvC D) {k m : Nat} (hk : k < (dBs D).length) (hm : m ≤ 9) (hq : ∀ N', RowM N' (siftD (ik k) (ik m) D).2 → Q (.inl (some (vi (siftD (ik k) (ik m) D).1))) (pr f N', r)) : Cl (d + 5) 225 [vr 11 0, vi (ik k), vi (ik m)] (pr f N, r) Q := by
  have h5 := hC.1.1
  obtain ⟨e1, e2⟩ := sift_fB (b := k) (m := ik m) (dSs D) (dAc D 7) 0
  obtain ⟨l1, l2⟩ := siftL_ls (b := ik k) hm (xs := dSs D) (c := dAc D 7) (h0 := 0) (fun x hx => ⟨_, hC.2.1.1 x hx⟩)
  refine sifts_ok hG h (show k < 5 by omega) (fun N' h2 => ?_)
  have e3 : (siftX (ik m) (fB k (dSs D)) (dAc D 7) 0).2.2 = (siftD (ik k) (ik m) D).1 := by rw [← e2]; rfl
  show Q (.inl (some (vi (siftX (ik m) (fB k (dSs D)) (dAc D 7) 0).2.2))) (pr f N', r)
  rw [e3]
  refine hq N' (h2.ext (fun _ _ => rfl) (fun b hb => ?_) (fun j _ => ?_) (fun _ _ => rfl))
  · show fB b (siftL (ik k) (ik m) (dSs D) (dAc D 7) 0).1 = _
    by_cases hbk : b = k
    · subst hbk
      rw [upf_eq, e1]
      show _ = noZ (siftX (ik m) (fB b (dSs D)) (dAc D 7) 0).1
      rw [← e1, ← noE_noZ l1.good.fB]
      exact (noE_id (fun x hx => l2 x (fB_mem.mp hx).1)).symm
    · rw [upf_ne hbk, sift_fB2 (fun z => hbk ((ik_inj (by omega) (by omega)).mp z).symm)]
  · show updn (updn (dAc D) 7 (siftL (ik k) (ik m) (dSs D) (dAc D 7) 0).2.1) 3 (dAc D 3 + (siftL (ik k) (ik m) (dSs D) (dAc D 7) 0).2.2) j = _
    rw [e2]
theorem msell_ok (hG : StG r) {D : Dt} (h : RowM N D) (hC : InvC D) {k m z : Nat} (hk : k < (dBs D).length) (hm : m ≤ 1000) (hz : dMo D = ik z) (hz2 : z < 2147483648)
    (hq : ∀ f' N', (∀ t j k, t ≠ 47 → f' t j k = f t j k) → RowM N' (sellD k (ik m) D).2 → Q (.inl (some (vi (sellD k (ik m) D).1))) (pr f' N', r)) : Cl (d + 6) 228 [vr 11 0, vi (ik k), vi (ik m)] (pr f N, r) Q := by
  have h5 := hC.1.1
  have hlt : z % 12 < 12 := Nat.mod_lt _ (by decide)
  have ev : ix (fmod12 (dMo D)) = z % 12 := by rw [hz, fmod_v hz2, ix_ik (by omega)]
  obtain ⟨e1, e2, e3⟩ := sell_fB (b := k) (g := fun j => (slo (ik k) (dSs D) 0).getD j 0) (plc (bM (bnAt D k)) (fB k (dSs D))) (dSs D) (ik m) (dAc D 6) (fun p hp => plc_lt hp) (fun _ => rfl)
  rw [← ord_plc] at e1 e2 e3
  obtain ⟨c1, c2⟩ := sellG_c0 (plc (bM (bnAt D k)) (fB k (dSs D))) (fB k (dSs D)) (ik m) (dAc D 6)
  have hls := sellG_ls (ks := ordS (bM (bnAt D k)) (dSs D) (ik k)) (xs := dSs D) (m := m) (c := dAc D 6) (fun x hx => (hC.2.1.1 x hx).wk) (fun j hj => ordS_lt hj) (by omega)
  refine sells_ok hG h (show k < 5 by omega) hC.good.fB hm hz hz2 (fun f' N' hf h2 => ?_)
  have e5 : ik m * dPr D (z % 12) = (sellD k (ik m) D).1 := by
    unfold sellD
    rw [ev]
  rw [e5]
  refine hq f' N' hf (h2.ext (fun _ _ => rfl) (fun b hb => ?_) (fun j _ => ?_) (fun _ _ => rfl))
  · show fB b (noE (sellG (ordS (bM (bnAt D k)) (dSs D) (ik k)) (dSs D) (ik m) (dAc D 6)).1) = _
    rw [noE_fB]
    by_cases hbk : b = k
    · subst hbk
      rw [upf_eq, noE_noZ hls.good.fB, e1, c1]
    · rw [upf_ne hbk, e3 b (fun z => hbk ((ik_inj (by omega) (by omega)).mp z).symm)]
      exact noE_id (fun x hx => hC.pos x (fB_mem.mp hx).1)
  · show updn (updn (updn (dAc D) 6 (sellG (ordS (bM (bnAt D k)) (dSs D) (ik k)) (dSs D) (ik m) (dAc D 6)).2) 1 (dAc D 1 + ik m)) 4 (dAc D 4 + ik m * dPr D (ix (fmod12 (dMo D)))) j = _
    rw [e2, c2, ev]
end Mdo
