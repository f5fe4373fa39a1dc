/-! selling, and a change carried out -/
def sk0 : Sk := (0, 0, 0, 0, 0, 0)
/-- the sacks of the order ks give what is left of the kilograms l: sacks, what was paid for it on top of c -/
def sellG : List Nat → List Sk → Int32 → Int32 → List Sk × Int32
  | [], xs, _, c => (xs, c)
  | k :: ks, xs, l, c => sellG ks (xs.set k (setW (xs.getD k sk0) (kW (xs.getD k sk0) - imin l (kW (xs.getD k sk0))))) (l - imin l (kW (xs.getD k sk0))) (c + imin l (kW (xs.getD k sk0)) * kP (xs.getD k sk0))
theorem sellG_c {k : Nat} {ks : List Nat} {xs : List Sk} {l c : Int32} : sellG (k :: ks) xs l c = sellG ks (xs.set k (setW (xs.getD k sk0) (kW (xs.getD k sk0) - imin l (kW (xs.getD k sk0))))) (l - imin l (kW (xs.getD k sk0))) (c + imin l (kW (xs.getD k sk0)) * kP (xs.getD k sk0)) := rfl
def fmod12 (m : Int32) : Int32 := m - m / 12 * 12
def sellD (k : Nat) (kg : Int32) (D : Dt) : Int32 × Dt :=
  (kg * dPr D (ix (fmod12 (dMo D))), (dBs D, noE (sellG (ordS (bM (bnAt D k)) (dSs D) (ik k)) (dSs D) kg (dAc D 6)).1, updn (updn (updn (dAc D) 6 (sellG (ordS (bM (bnAt D k)) (dSs D) (ik k)) (dSs D) kg (dAc D 6)).2) 1 (dAc D 1 + kg)) 4 (dAc D 4 + kg * dPr D (ix (fmod12 (dMo D)))), dPr D, dMo D, dNx D))
section Sell
variable {d i : Nat} {f : SF} {r : SR} {s : St} {Q : Ot → St → Prop}
theorem set_mid {α : Type} {pre post : List α} {x y : α} : (pre ++ x :: post).set pre.length y = pre ++ y :: post := by simp
theorem LayS.at {xs : List Sk} {k : Nat} (h : LayS f i xs) (hk : k < xs.length) : AtS f i k (xs.getD k sk0) := by
  rw [List.getD_eq_getElem?_getD, List.getElem?_eq_getElem hk]
  exact h.2.2 k _ (List.getElem?_eq_getElem hk)
theorem split_at {α : Type} {xs : List α} {k : Nat} (hk : k < xs.length) (z : α) : ∃ pre post, xs = pre ++ xs.getD k z :: post ∧ pre.length = k := by
  refine ⟨xs.take k, xs.drop (k + 1), ?_, by simp; omega⟩
  rw [List.getD_eq_getElem?_getD, List.getElem?_eq_getElem hk]
  simp
theorem LayD.w25k {bs : List Bn} {xs : List Sk} {ac pr : Nat → Int32} {mo nx w : Int32} {k : Nat} (h : LayD f i (bs, xs, ac, pr, mo, nx)) (hk : k < xs.length) : LayD (up3 f 25 i k w) i (bs, xs.set k (setW (xs.getD k sk0) w), ac, pr, mo, nx) := by
  obtain ⟨pre, post, h1, h2⟩ := split_at hk sk0
  generalize xs.getD k sk0 = x at h1 ⊢
  subst h1
  subst h2
  rw [set_mid]
  exact h.w25
theorem sellG_len : ∀ (ks : List Nat) (xs : List Sk) (l c : Int32), (sellG ks xs l c).1.length = xs.length
  | [], _, _, _ => rfl
  | k :: ks, xs, l, c => by rw [sellG_c, sellG_len ks, List.length_set]
theorem xor12 {k : Nat} (h : k < 2147483648) : (0 : Int32) ≤ ik k ^^^ 12 := by
  have h1 : (0 : Int32) ≤ ik k := ik_nn h
  rw [Int32.le_iff_toInt_le, Int32.toInt_zero] at h1 ⊢
  have m1 : (ik k).toBitVec.msb = false := by
    rw [BitVec.msb_eq_toInt]
    have : (ik k).toBitVec.toInt = (ik k).toInt := rfl
    rw [this, decide_eq_false_iff_not]
    omega
  have m2 : (ik k ^^^ 12).toBitVec.msb = false := by
    rw [Int32.toBitVec_xor, BitVec.msb_xor, m1]
    decide
  rw [BitVec.msb_eq_toInt] at m2
  have : (ik k ^^^ 12).toBitVec.toInt = (ik k ^^^ 12).toInt := rfl
  rw [this, decide_eq_false_iff_not] at m2
  omega
theorem fmod_ok {k : Nat} (h : k < 2147483648) : Cl (d + 1) 30 [vi (ik k), vi 12] s Q ↔ Q (.inl (some (vi (fmod12 (ik k))))) s := by
  rw [en30]
  simp only [B30_0, ex_iconst, ex_bipush, ex_sipush, ex_ldc, ex_ldcs, ex_fconst, ex_dconst, ex_iload_n, ex_iload, ex_aload_n, ex_aload, ex_dload_n, ex_dload, ex_fload, ex_istore_n, ex_istore, ex_fstore, ex_dstore_n, ex_dstore, ex_astore_n, ex_astore, ex_iinc, ex_ginc, ex_pop_i, ex_pop_r, ex_dup_i, ex_dup_r, ex_dup_x1, ex_dup2, ex_iadd, ex_isub, ex_imul, ex_iand, ex_ior, ex_ixor, ex_ishl, ex_ishr, ex_idiv, ex_irem, ex_ineg, ex_i2l, ex_i2c, ex_i2b, ex_i2f, ex_i2d, ex_f2d, ex_fdiv, ex_ddiv, ex_lcmp, ex_dcmp, ex_getI, ex_getR, ex_putI, ex_putB, ex_putZ, ex_putR, ex_getsI, ex_getsR, ex_iald, ex_cald, ex_iast, ex_cast, ex_aast, ex_alen, ex_copy1, ex_copy2, ex_throw, ex_goto, ex_fall, ex_if_eq, ex_ic_eq, ex_if_ne, ex_ic_ne, ex_if_lt, ex_ic_lt, ex_if_ge, ex_ic_ge, ex_if_gt, ex_ic_gt, ex_if_le, ex_ic_le, ex_switch, ex_ireturn, ex_ireturn_z, ex_ireturn_b, ex_ireturn_c, ex_areturn, ex_freturn, ex_dreturn, ex_return, ex_is0, ex_is1, ex_is2, ex_is3, ex_is4, ex_is5, ex_is6, ex_is7, ex_iv1, ex_iv2, ex_iv3, ex_iv4, ex_iv5, ex_iv6, ex_iv7, ex_ip1, ex_ip2, ex_ip3, ex_ip4, ex_ip5, ex_ip6, ex_ip7, ex_iu1, ex_iu2, ex_iu3, ex_iu4, ex_iu5, ex_iu6, ex_iu7, List.getD_cons_zero, List.getD_cons_succ, List.set_cons_zero, List.set_cons_succ, isI_i, isA_r, isD_d, isF_f, GInc, ko_v, ko_n, cat_i2, cat_r2, cat_n2, cat_f2, cat_d2, cat_l2, Nat.zero_le, Nat.zero_add, Nat.le_refl, Nat.reduceAdd, Nat.reduceLeDiff, ne_eq, not_false_eq_true, Nat.reduceEqDiff, sI_mk, wI_mk, wCp_mk, Option.toList, List.nil_append, List.cons_append, kd_20, kd_21, kd_22, kd_23, kd_24, kd_25, kd_26, kd_27, kd_28, kd_29, kd_30, kd_31, kd_32, kd_33, kd_34, kd_35, kd_36, kd_37, kd_38, kd_39, kd_40, kd_41, kd_42, kd_43, kd_44, kd_45, kd_46, kd_47, kd_48, kd_49, kd_50, kd_51, kd_52, kd_53, kd_54, ne2, ne8, ne10, ne12, xor12 h, if_true, jb30_1, B30_1]
  rfl
theorem fmod_v {k : Nat} (h : k < 2147483648) : fmod12 (ik k) = ik (k % 12) := by
  unfold fmod12
  apply Int32.toInt_inj.mp
  have e12 : (12 : Int32).toInt = 12 := by decide
  have h1 : (ik k / 12).toInt = (k / 12 : Nat) := by
    rw [Int32.toInt_div, ik_toInt h, e12, show ((k : Int)).tdiv 12 = ((k / 12 : Nat) : Int) from rfl]
    apply Int.bmod_eq_of_le <;> omega
  have h2 : (ik k / 12 * 12).toInt = ((k / 12 * 12 : Nat) : Int) := by
    rw [Int32.toInt_mul, h1, e12]
    have : k / 12 * 12 ≤ k := Nat.div_mul_le_self k 12
    rw [show ((k / 12 : Nat) : Int) * 12 = ((k / 12 * 12 : Nat) : Int) by omega]
    apply Int.bmod_eq_of_le <;> omega
  rw [Int32.toInt_sub, h2, ik_toInt h, ik_toInt (by omega)]
  have : k / 12 * 12 ≤ k := Nat.div_mul_le_self k 12
  rw [show (k : Int) - ((k / 12 * 12 : Nat) : Int) = ((k % 12 : Nat) : Int) by omega]
  apply Int.bmod_eq_of_le <;> omega
theorem sell_lp (hD : StD r i) {b kg : Int32} {bs : List Bn} {pr : Nat → Int32} {mo nx : Int32} {os : List Nat} (hos : os.length ≤ 10) : ∀ (post pre : List Nat) (f : SF) (xs : List Sk) (ac : Nat → Int32) (l : Int32) (u v : AV), os = pre ++ post → LayD f i (bs, xs, ac, pr, mo, nx) → LayO f i os → (∀ k ∈ post, k < xs.length) →
    (∀ f' l' n' u' v', LayD f' i (bs, (sellG post xs l (ac 6)).1, updn ac 6 (sellG post xs l (ac 6)).2, pr, mo, nx) → Fr tgD i f f' → Jx (d + 1) 60 2 [vr 1 i, vi b, vi kg, vr 5 i, vi l', vi n', u', v'] [] (f', r) Q) →
    Jx (d + 1) 60 1 [vr 1 i, vi b, vi kg, vr 5 i, vi l, vi (ik pre.length), u, v] [] (f, r) Q := by
  intro post
  induction post with
  | nil =>
    intro pre f xs ac l u v ho h hO hk hq
    have e1 := hO.1
    have hc := le_self_i (a := ik pre.length)
    rw [List.append_nil] at ho
    rw [ho] at e1
    rw [jb60_1]
    simp only [B60_1, ex_iconst, ex_bipush, ex_sipush, ex_ldc, ex_ldcs, ex_fconst, ex_dconst, ex_iload_n, ex_iload, ex_aload_n, ex_aload, ex_dload_n, ex_dload, ex_fload, ex_istore_n, ex_istore, ex_fstore, ex_dstore_n, ex_dstore, ex_astore_n, ex_astore, ex_iinc, ex_ginc, ex_pop_i, ex_pop_r, ex_dup_i, ex_dup_r, ex_dup_x1, ex_dup2, ex_iadd, ex_isub, ex_imul, ex_iand, ex_ior, ex_ixor, ex_ishl, ex_ishr, ex_idiv, ex_irem, ex_ineg, ex_i2l, ex_i2c, ex_i2b, ex_i2f, ex_i2d, ex_f2d, ex_fdiv, ex_ddiv, ex_lcmp, ex_dcmp, ex_getI, ex_getR, ex_putI, ex_putB, ex_putZ, ex_putR, ex_getsI, ex_getsR, ex_iald, ex_cald, ex_iast, ex_cast, ex_aast, ex_alen, ex_copy1, ex_copy2, ex_throw, ex_goto, ex_fall, ex_if_eq, ex_ic_eq, ex_if_ne, ex_ic_ne, ex_if_lt, ex_ic_lt, ex_if_ge, ex_ic_ge, ex_if_gt, ex_ic_gt, ex_if_le, ex_ic_le, ex_switch, ex_ireturn, ex_ireturn_z, ex_ireturn_b, ex_ireturn_c, ex_areturn, ex_freturn, ex_dreturn, ex_return, ex_is0, ex_is1, ex_is2, ex_is3, ex_is4, ex_is5, ex_is6, ex_is7, ex_iv1, ex_iv2, ex_iv3, ex_iv4, ex_iv5, ex_iv6, ex_iv7, ex_ip1, ex_ip2, ex_ip3, ex_ip4, ex_ip5, ex_ip6, ex_ip7, ex_iu1, ex_iu2, ex_iu3, ex_iu4, ex_iu5, ex_iu6, ex_iu7, List.getD_cons_zero, List.getD_cons_succ, List.set_cons_zero, List.set_cons_succ, isI_i, isA_r, isD_d, isF_f, GInc, ko_v, ko_n, cat_i2, cat_r2, cat_n2, cat_f2, cat_d2, cat_l2, Nat.zero_le, Nat.zero_add, Nat.le_refl, Nat.reduceAdd, Nat.reduceLeDiff, ne_eq, not_false_eq_true, Nat.reduceEqDiff, sI_mk, wI_mk, wCp_mk, Option.toList, List.nil_append, List.cons_append, kd_20, kd_21, kd_22, kd_23, kd_24, kd_25, kd_26, kd_27, kd_28, kd_29, kd_30, kd_31, kd_32, kd_33, kd_34, kd_35, kd_36, kd_37, kd_38, kd_39, kd_40, kd_41, kd_42, kd_43, kd_44, kd_45, kd_46, kd_47, kd_48, kd_49, kd_50, kd_51, kd_52, kd_53, kd_54, rr1_0 hD, rr1_1 hD, rr1_2 hD, rr1_3 hD, rr1_5 hD, rr2_0 hD, rr2_1 hD, rr2_2 hD, rr2_3 hD, rr3_0 hD, rr3_1 hD, rr3_2 hD, rr3_3 hD, rr3_4 hD, rr3_5 hD, rr5_0 hD, rl20 hD, rl21 hD, rl22 hD, rl23 hD, rl24 hD, rl25 hD, rl26 hD, rl27 hD, rl28 hD, rl29 hD, rl30 hD, rl31 hD, e1, hc, if_true]
    refine hq f _ _ _ _ ?_ Fr.rf
    simp only [sellG, updn_self]
    exact h
  | cons k post ih =>
    intro pre f xs ac l u v ho h hO hk hq
    have e1 := hO.1
    have hlt := hk k List.mem_cons_self
    have hxl : xs.length ≤ 50 := h.2.1.2.1
    have hpl : pre.length < os.length := by rw [ho]; simp
    have hn : ¬ ik os.length ≤ ik pre.length := by rw [ik_le (by omega) (by omega)]; omega
    have hi : inb (ik pre.length) 10 := (inb_ik (by omega)).mpr (by omega)
    have hx : ix (ik pre.length) = pre.length := ix_ik (by omega)
    have hi2 : inb (ik k) 50 := (inb_ik (by omega)).mpr (by omega)
    have hx2 : ix (ik k) = k := ix_ik (by omega)
    have e2 : f 31 i pre.length = ik k := by have := hO.2.2; rw [ho] at this; exact this.mid
    obtain ⟨-, e25, e26, -, -, -⟩ := h.2.1.at hlt
    have e6 : f 4 i 6 = ac 6 := h.2.2.1 6 (by decide)
    rw [sellG_c] at hq
    rw [jb60_1]
    simp only [B60_1, ex_iconst, ex_bipush, ex_sipush, ex_ldc, ex_ldcs, ex_fconst, ex_dconst, ex_iload_n, ex_iload, ex_aload_n, ex_aload, ex_dload_n, ex_dload, ex_fload, ex_istore_n, ex_istore, ex_fstore, ex_dstore_n, ex_dstore, ex_astore_n, ex_astore, ex_iinc, ex_ginc, ex_pop_i, ex_pop_r, ex_dup_i, ex_dup_r, ex_dup_x1, ex_dup2, ex_iadd, ex_isub, ex_imul, ex_iand, ex_ior, ex_ixor, ex_ishl, ex_ishr, ex_idiv, ex_irem, ex_ineg, ex_i2l, ex_i2c, ex_i2b, ex_i2f, ex_i2d, ex_f2d, ex_fdiv, ex_ddiv, ex_lcmp, ex_dcmp, ex_getI, ex_getR, ex_putI, ex_putB, ex_putZ, ex_putR, ex_getsI, ex_getsR, ex_iald, ex_cald, ex_iast, ex_cast, ex_aast, ex_alen, ex_copy1, ex_copy2, ex_throw, ex_goto, ex_fall, ex_if_eq, ex_ic_eq, ex_if_ne, ex_ic_ne, ex_if_lt, ex_ic_lt, ex_if_ge, ex_ic_ge, ex_if_gt, ex_ic_gt, ex_if_le, ex_ic_le, ex_switch, ex_ireturn, ex_ireturn_z, ex_ireturn_b, ex_ireturn_c, ex_areturn, ex_freturn, ex_dreturn, ex_return, ex_is0, ex_is1, ex_is2, ex_is3, ex_is4, ex_is5, ex_is6, ex_is7, ex_iv1, ex_iv2, ex_iv3, ex_iv4, ex_iv5, ex_iv6, ex_iv7, ex_ip1, ex_ip2, ex_ip3, ex_ip4, ex_ip5, ex_ip6, ex_ip7, ex_iu1, ex_iu2, ex_iu3, ex_iu4, ex_iu5, ex_iu6, ex_iu7, List.getD_cons_zero, List.getD_cons_succ, List.set_cons_zero, List.set_cons_succ, isI_i, isA_r, isD_d, isF_f, GInc, ko_v, ko_n, cat_i2, cat_r2, cat_n2, cat_f2, cat_d2, cat_l2, Nat.zero_le, Nat.zero_add, Nat.le_refl, Nat.reduceAdd, Nat.reduceLeDiff, ne_eq, not_false_eq_true, Nat.reduceEqDiff, sI_mk, wI_mk, wCp_mk, Option.toList, List.nil_append, List.cons_append, kd_20, kd_21, kd_22, kd_23, kd_24, kd_25, kd_26, kd_27, kd_28, kd_29, kd_30, kd_31, kd_32, kd_33, kd_34, kd_35, kd_36, kd_37, kd_38, kd_39, kd_40, kd_41, kd_42, kd_43, kd_44, kd_45, kd_46, kd_47, kd_48, kd_49, kd_50, kd_51, kd_52, kd_53, kd_54, rr1_0 hD, rr1_1 hD, rr1_2 hD, rr1_3 hD, rr1_5 hD, rr2_0 hD, rr2_1 hD, rr2_2 hD, rr2_3 hD, rr3_0 hD, rr3_1 hD, rr3_2 hD, rr3_3 hD, rr3_4 hD, rr3_5 hD, rr5_0 hD, rl20 hD, rl21 hD, rl22 hD, rl23 hD, rl24 hD, rl25 hD, rl26 hD, rl27 hD, rl28 hD, rl29 hD, rl30 hD, rl31 hD, e1, hn, if_false, hi, hx, e2, hi2, hx2, e25, min_ok]
    refine (take_ok hD (by omega)).mpr ?_
    simp only [ex_iconst, ex_bipush, ex_sipush, ex_ldc, ex_ldcs, ex_fconst, ex_dconst, ex_iload_n, ex_iload, ex_aload_n, ex_aload, ex_dload_n, ex_dload, ex_fload, ex_istore_n, ex_istore, ex_fstore, ex_dstore_n, ex_dstore, ex_astore_n, ex_astore, ex_iinc, ex_ginc, ex_pop_i, ex_pop_r, ex_dup_i, ex_dup_r, ex_dup_x1, ex_dup2, ex_iadd, ex_isub, ex_imul, ex_iand, ex_ior, ex_ixor, ex_ishl, ex_ishr, ex_idiv, ex_irem, ex_ineg, ex_i2l, ex_i2c, ex_i2b, ex_i2f, ex_i2d, ex_f2d, ex_fdiv, ex_ddiv, ex_lcmp, ex_dcmp, ex_getI, ex_getR, ex_putI, ex_putB, ex_putZ, ex_putR, ex_getsI, ex_getsR, ex_iald, ex_cald, ex_iast, ex_cast, ex_aast, ex_alen, ex_copy1, ex_copy2, ex_throw, ex_goto, ex_fall, ex_if_eq, ex_ic_eq, ex_if_ne, ex_ic_ne, ex_if_lt, ex_ic_lt, ex_if_ge, ex_ic_ge, ex_if_gt, ex_ic_gt, ex_if_le, ex_ic_le, ex_switch, ex_ireturn, ex_ireturn_z, ex_ireturn_b, ex_ireturn_c, ex_areturn, ex_freturn, ex_dreturn, ex_return, ex_is0, ex_is1, ex_is2, ex_is3, ex_is4, ex_is5, ex_is6, ex_is7, ex_iv1, ex_iv2, ex_iv3, ex_iv4, ex_iv5, ex_iv6, ex_iv7, ex_ip1, ex_ip2, ex_ip3, ex_ip4, ex_ip5, ex_ip6, ex_ip7, ex_iu1, ex_iu2, ex_iu3, ex_iu4, ex_iu5, ex_iu6, ex_iu7, List.getD_cons_zero, List.getD_cons_succ, List.set_cons_zero, List.set_cons_succ, isI_i, isA_r, isD_d, isF_f, GInc, ko_v, ko_n, cat_i2, cat_r2, cat_n2, cat_f2, cat_d2, cat_l2, Nat.zero_le, Nat.zero_add, Nat.le_refl, Nat.reduceAdd, Nat.reduceLeDiff, ne_eq, not_false_eq_true, Nat.reduceEqDiff, sI_mk, wI_mk, wCp_mk, Option.toList, List.nil_append, List.cons_append, kd_20, kd_21, kd_22, kd_23, kd_24, kd_25, kd_26, kd_27, kd_28, kd_29, kd_30, kd_31, kd_32, kd_33, kd_34, kd_35, kd_36, kd_37, kd_38, kd_39, kd_40, kd_41, kd_42, kd_43, kd_44, kd_45, kd_46, kd_47, kd_48, kd_49, kd_50, kd_51, kd_52, kd_53, kd_54, up3_at, Nat.reduceEqDiff, false_and, and_false, and_true, true_and, and_self, eq_self, reduceIte, if_true, if_false, e25, e26, e6, ik_succ]
    have h2 := (h.w25k (w := kW (xs.getD k sk0) - imin l (kW (xs.getD k sk0))) hlt).acc (j := 6) (v := ac 6 + imin l (kW (xs.getD k sk0)) * kP (xs.getD k sk0))
    have F : Fr (fun t => decide (t = 25) || decide (t = 4)) i f (up3 (up3 f 25 i k (kW (xs.getD k sk0) - imin l (kW (xs.getD k sk0)))) 4 i 6 (ac 6 + imin l (kW (xs.getD k sk0)) * kP (xs.getD k sk0))) := Fr.tr (Fr.up rfl) (Fr.up rfl)
    have := ih (pre ++ [k]) _ _ _ (l - imin l (kW (xs.getD k sk0))) (vi (ik k)) (vi (imin l (kW (xs.getD k sk0)))) (by rw [ho, app_one]) h2 (hO.fr F (Or.inl (by decide))) (fun z hz => by rw [List.length_set]; exact hk z (List.mem_cons_of_mem _ hz)) (fun f' l' n' u' v' g1 g2 => hq f' l' n' u' v' ?_ (Fr.tr (Fr.tr (Fr.up rfl) (Fr.up rfl)) g2))
    · rw [len_one] at this
      exact this
    · simp only [updn_upd] at g1
      simpa [updn] using g1
theorem sell_ok (hD : StD r i) {D : Dt} {k m : Nat} {kg : Int32} (h : LayD f i D) (hk : k < (dBs D).length) (hl : (slo (ik k) (dSs D) 0).length ≤ 10) (hm : dMo D = ik m) (hm2 : m < 2147483648)
    (hq : ∀ f', LayD f' i (sellD k kg D).2 → Fr tgD i f f' → Q (.inl (some (vi (sellD k kg D).1))) (f', r)) : Cl (d + 3) 60 [vr 1 i, vi (ik k), vi kg] (f, r) Q := by
  rw [en60]
  simp only [B60_0, ex_iconst, ex_bipush, ex_sipush, ex_ldc, ex_ldcs, ex_fconst, ex_dconst, ex_iload_n, ex_iload, ex_aload_n, ex_aload, ex_dload_n, ex_dload, ex_fload, ex_istore_n, ex_istore, ex_fstore, ex_dstore_n, ex_dstore, ex_astore_n, ex_astore, ex_iinc, ex_ginc, ex_pop_i, ex_pop_r, ex_dup_i, ex_dup_r, ex_dup_x1, ex_dup2, ex_iadd, ex_isub, ex_imul, ex_iand, ex_ior, ex_ixor, ex_ishl, ex_ishr, ex_idiv, ex_irem, ex_ineg, ex_i2l, ex_i2c, ex_i2b, ex_i2f, ex_i2d, ex_f2d, ex_fdiv, ex_ddiv, ex_lcmp, ex_dcmp, ex_getI, ex_getR, ex_putI, ex_putB, ex_putZ, ex_putR, ex_getsI, ex_getsR, ex_iald, ex_cald, ex_iast, ex_cast, ex_aast, ex_alen, ex_copy1, ex_copy2, ex_throw, ex_goto, ex_fall, ex_if_eq, ex_ic_eq, ex_if_ne, ex_ic_ne, ex_if_lt, ex_ic_lt, ex_if_ge, ex_ic_ge, ex_if_gt, ex_ic_gt, ex_if_le, ex_ic_le, ex_switch, ex_ireturn, ex_ireturn_z, ex_ireturn_b, ex_ireturn_c, ex_areturn, ex_freturn, ex_dreturn, ex_return, ex_is0, ex_is1, ex_is2, ex_is3, ex_is4, ex_is5, ex_is6, ex_is7, ex_iv1, ex_iv2, ex_iv3, ex_iv4, ex_iv5, ex_iv6, ex_iv7, ex_ip1, ex_ip2, ex_ip3, ex_ip4, ex_ip5, ex_ip6, ex_ip7, ex_iu1, ex_iu2, ex_iu3, ex_iu4, ex_iu5, ex_iu6, ex_iu7, List.getD_cons_zero, List.getD_cons_succ, List.set_cons_zero, List.set_cons_succ, isI_i, isA_r, isD_d, isF_f, GInc, ko_v, ko_n, cat_i2, cat_r2, cat_n2, cat_f2, cat_d2, cat_l2, Nat.zero_le, Nat.zero_add, Nat.le_refl, Nat.reduceAdd, Nat.reduceLeDiff, ne_eq, not_false_eq_true, Nat.reduceEqDiff, sI_mk, wI_mk, wCp_mk, Option.toList, List.nil_append, List.cons_append, kd_20, kd_21, kd_22, kd_23, kd_24, kd_25, kd_26, kd_27, kd_28, kd_29, kd_30, kd_31, kd_32, kd_33, kd_34, kd_35, kd_36, kd_37, kd_38, kd_39, kd_40, kd_41, kd_42, kd_43, kd_44, kd_45, kd_46, kd_47, kd_48, kd_49, kd_50, kd_51, kd_52, kd_53, kd_54]
  refine ord_ok hD h hk hl (fun f1 g1 h1 F1 => ?_)
  simp only [ex_iconst, ex_bipush, ex_sipush, ex_ldc, ex_ldcs, ex_fconst, ex_dconst, ex_iload_n, ex_iload, ex_aload_n, ex_aload, ex_dload_n, ex_dload, ex_fload, ex_istore_n, ex_istore, ex_fstore, ex_dstore_n, ex_dstore, ex_astore_n, ex_astore, ex_iinc, ex_ginc, ex_pop_i, ex_pop_r, ex_dup_i, ex_dup_r, ex_dup_x1, ex_dup2, ex_iadd, ex_isub, ex_imul, ex_iand, ex_ior, ex_ixor, ex_ishl, ex_ishr, ex_idiv, ex_irem, ex_ineg, ex_i2l, ex_i2c, ex_i2b, ex_i2f, ex_i2d, ex_f2d, ex_fdiv, ex_ddiv, ex_lcmp, ex_dcmp, ex_getI, ex_getR, ex_putI, ex_putB, ex_putZ, ex_putR, ex_getsI, ex_getsR, ex_iald, ex_cald, ex_iast, ex_cast, ex_aast, ex_alen, ex_copy1, ex_copy2, ex_throw, ex_goto, ex_fall, ex_if_eq, ex_ic_eq, ex_if_ne, ex_ic_ne, ex_if_lt, ex_ic_lt, ex_if_ge, ex_ic_ge, ex_if_gt, ex_ic_gt, ex_if_le, ex_ic_le, ex_switch, ex_ireturn, ex_ireturn_z, ex_ireturn_b, ex_ireturn_c, ex_areturn, ex_freturn, ex_dreturn, ex_return, ex_is0, ex_is1, ex_is2, ex_is3, ex_is4, ex_is5, ex_is6, ex_is7, ex_iv1, ex_iv2, ex_iv3, ex_iv4, ex_iv5, ex_iv6, ex_iv7, ex_ip1, ex_ip2, ex_ip3, ex_ip4, ex_ip5, ex_ip6, ex_ip7, ex_iu1, ex_iu2, ex_iu3, ex_iu4, ex_iu5, ex_iu6, ex_iu7, List.getD_cons_zero, List.getD_cons_succ, List.set_cons_zero, List.set_cons_succ, isI_i, isA_r, isD_d, isF_f, GInc, ko_v, ko_n, cat_i2, cat_r2, cat_n2, cat_f2, cat_d2, cat_l2, Nat.zero_le, Nat.zero_add, Nat.le_refl, Nat.reduceAdd, Nat.reduceLeDiff, ne_eq, not_false_eq_true, Nat.reduceEqDiff, sI_mk, wI_mk, wCp_mk, Option.toList, List.nil_append, List.cons_append, kd_20, kd_21, kd_22, kd_23, kd_24, kd_25, kd_26, kd_27, kd_28, kd_29, kd_30, kd_31, kd_32, kd_33, kd_34, kd_35, kd_36, kd_37, kd_38, kd_39, kd_40, kd_41, kd_42, kd_43, kd_44, kd_45, kd_46, kd_47, kd_48, kd_49, kd_50, kd_51, kd_52, kd_53, kd_54]
  have hol : (ordS (bM (bnAt D k)) (dSs D) (ik k)).length ≤ 10 := by rw [ordS_len]; exact hl
  refine sell_lp hD hol (bs := dBs D) (pr := dPr D) (mo := dMo D) (nx := dNx D) _ [] f1 (dSs D) (dAc D) kg _ _ rfl h1 g1 (fun z hz => ordS_lt hz) (fun f2 l' n' u' v' h2 F2 => ?_)
  rw [jb60_2]
  simp only [B60_2, ex_iconst, ex_bipush, ex_sipush, ex_ldc, ex_ldcs, ex_fconst, ex_dconst, ex_iload_n, ex_iload, ex_aload_n, ex_aload, ex_dload_n, ex_dload, ex_fload, ex_istore_n, ex_istore, ex_fstore, ex_dstore_n, ex_dstore, ex_astore_n, ex_astore, ex_iinc, ex_ginc, ex_pop_i, ex_pop_r, ex_dup_i, ex_dup_r, ex_dup_x1, ex_dup2, ex_iadd, ex_isub, ex_imul, ex_iand, ex_ior, ex_ixor, ex_ishl, ex_ishr, ex_idiv, ex_irem, ex_ineg, ex_i2l, ex_i2c, ex_i2b, ex_i2f, ex_i2d, ex_f2d, ex_fdiv, ex_ddiv, ex_lcmp, ex_dcmp, ex_getI, ex_getR, ex_putI, ex_putB, ex_putZ, ex_putR, ex_getsI, ex_getsR, ex_iald, ex_cald, ex_iast, ex_cast, ex_aast, ex_alen, ex_copy1, ex_copy2, ex_throw, ex_goto, ex_fall, ex_if_eq, ex_ic_eq, ex_if_ne, ex_ic_ne, ex_if_lt, ex_ic_lt, ex_if_ge, ex_ic_ge, ex_if_gt, ex_ic_gt, ex_if_le, ex_ic_le, ex_switch, ex_ireturn, ex_ireturn_z, ex_ireturn_b, ex_ireturn_c, ex_areturn, ex_freturn, ex_dreturn, ex_return, ex_is0, ex_is1, ex_is2, ex_is3, ex_is4, ex_is5, ex_is6, ex_is7, ex_iv1, ex_iv2, ex_iv3, ex_iv4, ex_iv5, ex_iv6, ex_iv7, ex_ip1, ex_ip2, ex_ip3, ex_ip4, ex_ip5, ex_ip6, ex_ip7, ex_iu1, ex_iu2, ex_iu3, ex_iu4, ex_iu5, ex_iu6, ex_iu7, List.getD_cons_zero, List.getD_cons_succ, List.set_cons_zero, List.set_cons_succ, isI_i, isA_r, isD_d, isF_f, GInc, ko_v, ko_n, cat_i2, cat_r2, cat_n2, cat_f2, cat_d2, cat_l2, Nat.zero_le, Nat.zero_add, Nat.le_refl, Nat.reduceAdd, Nat.reduceLeDiff, ne_eq, not_false_eq_true, Nat.reduceEqDiff, sI_mk, wI_mk, wCp_mk, Option.toList, List.nil_append, List.cons_append, kd_20, kd_21, kd_22, kd_23, kd_24, kd_25, kd_26, kd_27, kd_28, kd_29, kd_30, kd_31, kd_32, kd_33, kd_34, kd_35, kd_36, kd_37, kd_38, kd_39, kd_40, kd_41, kd_42, kd_43, kd_44, kd_45, kd_46, kd_47, kd_48, kd_49, kd_50, kd_51, kd_52, kd_53, kd_54, rr1_0 hD, rr1_1 hD, rr1_2 hD, rr1_3 hD, rr1_5 hD, rr2_0 hD, rr2_1 hD, rr2_2 hD, rr2_3 hD, rr3_0 hD, rr3_1 hD, rr3_2 hD, rr3_3 hD, rr3_4 hD, rr3_5 hD, rr5_0 hD, rl20 hD, rl21 hD, rl22 hD, rl23 hD, rl24 hD, rl25 hD, rl26 hD, rl27 hD, rl28 hD, rl29 hD, rl30 hD, rl31 hD]
  refine drop_ok hD h2.2.1 (fun f3 g3 F3 n3 => ?_)
  have h3 := h2.sacks g3 (n3.trans h2.2.2.2.2.2) F3
  have eM : f3 1 i 4 = ik m := h3.2.2.2.2.1.trans hm
  have hi : inb (fmod12 (ik m)) 12 := by rw [fmod_v hm2]; exact (inb_ik (by omega)).mpr (Nat.mod_lt _ (by decide))
  have hx : ix (fmod12 (ik m)) < 12 := by rw [fmod_v hm2, ix_ik (by omega)]; exact Nat.mod_lt _ (by decide)
  have eP := h3.2.2.2.1 _ hx
  have e1 : f3 4 i 1 = updn (dAc D) 6 (sellG (ordS (bM (bnAt D k)) (dSs D) (ik k)) (dSs D) kg (dAc D 6)).2 1 := h3.2.2.1 1 (by decide)
  have e4 : f3 4 i 4 = updn (dAc D) 6 (sellG (ordS (bM (bnAt D k)) (dSs D) (ik k)) (dSs D) kg (dAc D 6)).2 4 := h3.2.2.1 4 (by decide)
  have e1b : updn (dAc D) 6 (sellG (ordS (bM (bnAt D k)) (dSs D) (ik k)) (dSs D) kg (dAc D 6)).2 1 = dAc D 1 := by simp [updn]
  have e4b : updn (dAc D) 6 (sellG (ordS (bM (bnAt D k)) (dSs D) (ik k)) (dSs D) kg (dAc D 6)).2 4 = dAc D 4 := by simp [updn]
  simp only [ex_iconst, ex_bipush, ex_sipush, ex_ldc, ex_ldcs, ex_fconst, ex_dconst, ex_iload_n, ex_iload, ex_aload_n, ex_aload, ex_dload_n, ex_dload, ex_fload, ex_istore_n, ex_istore, ex_fstore, ex_dstore_n, ex_dstore, ex_astore_n, ex_astore, ex_iinc, ex_ginc, ex_pop_i, ex_pop_r, ex_dup_i, ex_dup_r, ex_dup_x1, ex_dup2, ex_iadd, ex_isub, ex_imul, ex_iand, ex_ior, ex_ixor, ex_ishl, ex_ishr, ex_idiv, ex_irem, ex_ineg, ex_i2l, ex_i2c, ex_i2b, ex_i2f, ex_i2d, ex_f2d, ex_fdiv, ex_ddiv, ex_lcmp, ex_dcmp, ex_getI, ex_getR, ex_putI, ex_putB, ex_putZ, ex_putR, ex_getsI, ex_getsR, ex_iald, ex_cald, ex_iast, ex_cast, ex_aast, ex_alen, ex_copy1, ex_copy2, ex_throw, ex_goto, ex_fall, ex_if_eq, ex_ic_eq, ex_if_ne, ex_ic_ne, ex_if_lt, ex_ic_lt, ex_if_ge, ex_ic_ge, ex_if_gt, ex_ic_gt, ex_if_le, ex_ic_le, ex_switch, ex_ireturn, ex_ireturn_z, ex_ireturn_b, ex_ireturn_c, ex_areturn, ex_freturn, ex_dreturn, ex_return, ex_is0, ex_is1, ex_is2, ex_is3, ex_is4, ex_is5, ex_is6, ex_is7, ex_iv1, ex_iv2, ex_iv3, ex_iv4, ex_iv5, ex_iv6, ex_iv7, ex_ip1, ex_ip2, ex_ip3, ex_ip4, ex_ip5, ex_ip6, ex_ip7, ex_iu1, ex_iu2, ex_iu3, ex_iu4, ex_iu5, ex_iu6, ex_iu7, List.getD_cons_zero, List.getD_cons_succ, List.set_cons_zero, List.set_cons_succ, isI_i, isA_r, isD_d, isF_f, GInc, ko_v, ko_n, cat_i2, cat_r2, cat_n2, cat_f2, cat_d2, cat_l2, Nat.zero_le, Nat.zero_add, Nat.le_refl, Nat.reduceAdd, Nat.reduceLeDiff, ne_eq, not_false_eq_true, Nat.reduceEqDiff, sI_mk, wI_mk, wCp_mk, Option.toList, List.nil_append, List.cons_append, kd_20, kd_21, kd_22, kd_23, kd_24, kd_25, kd_26, kd_27, kd_28, kd_29, kd_30, kd_31, kd_32, kd_33, kd_34, kd_35, kd_36, kd_37, kd_38, kd_39, kd_40, kd_41, kd_42, kd_43, kd_44, kd_45, kd_46, kd_47, kd_48, kd_49, kd_50, kd_51, kd_52, kd_53, kd_54, rr1_0 hD, rr1_1 hD, rr1_2 hD, rr1_3 hD, rr1_5 hD, rr2_0 hD, rr2_1 hD, rr2_2 hD, rr2_3 hD, rr3_0 hD, rr3_1 hD, rr3_2 hD, rr3_3 hD, rr3_4 hD, rr3_5 hD, rr5_0 hD, rl20 hD, rl21 hD, rl22 hD, rl23 hD, rl24 hD, rl25 hD, rl26 hD, rl27 hD, rl28 hD, rl29 hD, rl30 hD, rl31 hD, eM, fmod_ok hm2, hi, eP, e1, e4, e1b, e4b, up3_at, Nat.reduceEqDiff, false_and, and_false, and_true, true_and, and_self, eq_self, reduceIte, if_true, if_false]
  have h4 := (h3.acc (j := 1) (v := dAc D 1 + kg)).acc (j := 4) (v := dAc D 4 + kg * dPr D (ix (fmod12 (ik m))))
  have w1 : ∀ t, tgO t = true → tgD t = true := by intro t; simp [tgO, tgD]; omega
  have w2 : ∀ t, tgS t = true → tgD t = true := by intro t; simp [tgS, tgD]; omega
  unfold sellD at hq
  rw [hm] at hq h4
  exact hq _ h4 (Fr.tr (Fr.tr (Fr.tr (Fr.tr (F1.wk w1) F2) (F3.wk w2)) (Fr.up rfl)) (Fr.up rfl))
end Sell
