/-! the model's row: sacks taken from, laid, dropped -/
section RowV
variable {N N' : Nat → Int32} {n : Nat} {B : Nat → Bn} {L : Nat → List Sk} {ac pc : Nat → Int32} {mo nx : Int32}
/-- one place's sack is another -/
theorem LayX.one {b : Nat} {pre post : List Sk} {x y : Sk} (h : LayX N b (pre ++ x :: post)) (h1 : AtM N' (24 + 56 * b + 5 + 5 * pre.length) y) (h2 : ∀ i, (i < 24 + 56 * b + 5 + 5 * pre.length ∨ 24 + 56 * b + 5 + 5 * pre.length + 5 ≤ i) → N' i = N i) : LayX N' b (pre ++ y :: post) := by
  obtain ⟨g1, g2, g3⟩ := h
  refine ⟨by rw [h2 _ (by omega), g1]; simp, by simpa using g2, fun k z hz => ?_⟩
  by_cases hk : k = pre.length
  · subst hk
    have : y = z := by simpa using hz
    subst this
    exact h1
  · have hz2 : (pre ++ x :: post)[k]? = some z := by
      rw [← hz]
      by_cases hlt : k < pre.length
      · rw [List.getElem?_append_left hlt, List.getElem?_append_left hlt]
      · rw [List.getElem?_append_right (by omega), List.getElem?_append_right (by omega)]
        obtain ⟨m, hm⟩ : ∃ m, k - pre.length = m + 1 := ⟨k - pre.length - 1, by omega⟩
        rw [hm]
        rfl
    exact (g3 k z hz2).cg (fun c hc => h2 _ (by omega))
theorem RowX.wW (h : RowX N n B L ac pc mo nx) {b : Nat} (hb : b < 5) {pre post : List Sk} {x : Sk} (e : L b = pre ++ x :: post) {w : Int32} : RowX (updn N (24 + 56 * b + 5 + 5 * pre.length + 1) w) n B (upf L b (pre ++ setW x w :: post)) ac pc mo nx := by
  have hl := h.2.2.2.2.2.2.2 b hb
  have hj := (h.at hb (show (L b)[pre.length]? = some x by rw [e]; exact mid_at))
  rw [e] at hl
  refine h.lay hb (fun i hi => updn_ne (by omega)) (hl.one ?_ (fun i hi => updn_ne (by omega)))
  exact ⟨(updn_ne (by omega)).trans hj.1.1, updn_eq, (updn_ne (by omega)).trans hj.1.2.2.1, (updn_ne (by omega)).trans hj.1.2.2.2.1, (updn_ne (by omega)).trans hj.1.2.2.2.2⟩
theorem RowX.wG (h : RowX N n B L ac pc mo nx) {b : Nat} (hb : b < 5) {pre post : List Sk} {x : Sk} (e : L b = pre ++ x :: post) {w : Int32} : RowX (updn N (24 + 56 * b + 5 + 5 * pre.length + 3) w) n B (upf L b (pre ++ setG x w :: post)) ac pc mo nx := by
  have hl := h.2.2.2.2.2.2.2 b hb
  have hj := (h.at hb (show (L b)[pre.length]? = some x by rw [e]; exact mid_at))
  rw [e] at hl
  refine h.lay hb (fun i hi => updn_ne (by omega)) (hl.one ?_ (fun i hi => updn_ne (by omega)))
  exact ⟨(updn_ne (by omega)).trans hj.1.1, (updn_ne (by omega)).trans hj.1.2.1, (updn_ne (by omega)).trans hj.1.2.2.1, updn_eq, (updn_ne (by omega)).trans hj.1.2.2.2.2⟩
end RowV
theorem i55 {k : Nat} : (5 : Int32) + ik k = ik (5 + k) := by rw [show (5 : Int32) = ik 5 from rfl, ik_add]
theorem i555 {k : Nat} : ik (5 + k) + 5 = ik (5 + k + 5) := by rw [show (5 : Int32) = ik 5 from rfl, ik_add]
theorem i5m {k : Nat} : (5 : Int32) * ik k = ik (5 * k) := by rw [show (5 : Int32) = ik 5 from rfl, ik_mul]
theorem dec1 {a : Int32} : a - 1 = a + -1 := by rw [Int32.sub_eq_add_neg]
/-- a part of the row moved down by five places -/
def shD (N : Nat → Int32) (o k : Nat) : Nat → Int32 := fun i => if o ≤ i ∧ i < k then N (i + 5) else N i
theorem shD_s {N : Nat → Int32} {o k : Nat} (h : o ≤ k) : updn (shD N o k) k (shD N o k (k + 5)) = shD N o (k + 1) := by
  funext i
  unfold updn shD
  by_cases hi : i = k
  · subst hi
    rw [if_pos rfl, if_neg (by omega), if_pos (by omega)]
  · rw [if_neg hi]
    by_cases h2 : o ≤ i ∧ i < k
    · rw [if_pos h2, if_pos (by omega)]
    · rw [if_neg h2, if_neg (by omega)]
theorem shD_0 {N : Nat → Int32} {o : Nat} : shD N o o = N := by
  funext i
  unfold shD
  rw [if_neg (by omega)]
section Mops
variable {d : Nat} {f : SF} {r : SR} {s : St} {Q : Ot → St → Prop} {N : Nat → Int32} {n : Nat} {B : Nat → Bn} {L : Nat → List Sk} {ac pc : Nat → Int32} {mo nx : Int32}
theorem mset4 (hG : StG r) {k : Nat} {v : Int32} (hk : k < 5) : Cl (d + 1) 190 [vr 11 0, vi (ik k), vi 4, vi v] (pr f N, r) Q ↔ Q (.inl none) (pr f (updn N (24 + 56 * k + 4) v), r) := mset_ok hG hk (o := 4) (by decide)
theorem mset2 (hG : StG r) {k : Nat} {v : Int32} (hk : k < 5) : Cl (d + 1) 190 [vr 11 0, vi (ik k), vi 2, vi v] (pr f N, r) Q ↔ Q (.inl none) (pr f (updn N (24 + 56 * k + 2) v), r) := mset_ok hG hk (o := 2) (by decide)
theorem mset1 (hG : StG r) {k : Nat} {v : Int32} (hk : k < 5) : Cl (d + 1) 190 [vr 11 0, vi (ik k), vi 1, vi v] (pr f N, r) Q ↔ Q (.inl none) (pr f (updn N (24 + 56 * k + 1) v), r) := mset_ok hG hk (o := 1) (by decide)
theorem mset0 (hG : StG r) {k : Nat} {v : Int32} (hk : k < 5) : Cl (d + 1) 190 [vr 11 0, vi (ik k), vi 0, vi v] (pr f N, r) Q ↔ Q (.inl none) (pr f (updn N (24 + 56 * k) v), r) := mset_ok hG hk (o := 0) (by decide)
theorem mss0 (hG : StG r) {k j : Nat} {v : Int32} (hk : k < 5) (hj : j < 10) : Cl (d + 2) 204 [vr 11 0, vi (ik k), vi (ik j), vi 0, vi v] (pr f N, r) Q ↔ Q (.inl none) (pr f (updn N (24 + 56 * k + 5 + 5 * j) v), r) := mss_ok hG hk hj (c := 0) (by decide)
theorem mss1 (hG : StG r) {k j : Nat} {v : Int32} (hk : k < 5) (hj : j < 10) : Cl (d + 2) 204 [vr 11 0, vi (ik k), vi (ik j), vi 1, vi v] (pr f N, r) Q ↔ Q (.inl none) (pr f (updn N (24 + 56 * k + 5 + 5 * j + 1) v), r) := mss_ok hG hk hj (c := 1) (by decide)
theorem mss2 (hG : StG r) {k j : Nat} {v : Int32} (hk : k < 5) (hj : j < 10) : Cl (d + 2) 204 [vr 11 0, vi (ik k), vi (ik j), vi 2, vi v] (pr f N, r) Q ↔ Q (.inl none) (pr f (updn N (24 + 56 * k + 5 + 5 * j + 2) v), r) := mss_ok hG hk hj (c := 2) (by decide)
theorem mss3 (hG : StG r) {k j : Nat} {v : Int32} (hk : k < 5) (hj : j < 10) : Cl (d + 2) 204 [vr 11 0, vi (ik k), vi (ik j), vi 3, vi v] (pr f N, r) Q ↔ Q (.inl none) (pr f (updn N (24 + 56 * k + 5 + 5 * j + 3) v), r) := mss_ok hG hk hj (c := 3) (by decide)
theorem mss4 (hG : StG r) {k j : Nat} {v : Int32} (hk : k < 5) (hj : j < 10) : Cl (d + 2) 204 [vr 11 0, vi (ik k), vi (ik j), vi 4, vi v] (pr f N, r) Q ↔ Q (.inl none) (pr f (updn N (24 + 56 * k + 5 + 5 * j + 4) v), r) := mss_ok hG hk hj (c := 4) (by decide)
theorem mtk_ok (hG : StG r) (h : RowX N n B L ac pc mo nx) {b : Nat} (hb : b < 5) {pre post : List Sk} {x : Sk} (e : L b = pre ++ x :: post) {a : Int32} : Cl (d + 3) 220 [vr 11 0, vi (ik b), vi (ik pre.length), vi a] (pr f N, r) Q ↔ Q (.inl (some (vi (a * kP x)))) (pr f (updn N (24 + 56 * b + 5 + 5 * pre.length + 1) (kW x - a)), r) := by
  have hx : (L b)[pre.length]? = some x := by rw [e]; exact mid_at
  have hj := (h.at hb hx).2
  have o1 := fun Q => ms1 (d := d) (f := f) (Q := Q) hG h hb hx
  have h2 := h.wW hb e (w := kW x - a)
  have o2 := fun Q => ms2 (d := d) (f := f) (Q := Q) hG h2 hb (j := pre.length) (x := setW x (kW x - a)) (by rw [upf_eq]; exact mid_at)
  have o3 := fun Q => mss1 (d := d) (f := f) (N := N) (Q := Q) (v := kW x - a) hG hb hj
  rw [en220]
  simp only [B220_0, ex_iconst, ex_bipush, ex_sipush, ex_ldc, ex_ldcs, ex_fconst, ex_dconst, ex_iload_n, ex_iload, ex_aload_n, ex_aload, ex_dload_n, ex_dload, ex_fload, ex_istore_n, ex_istore, ex_fstore, ex_dstore_n, ex_dstore, ex_astore_n, ex_astore, ex_iinc, ex_ginc, ex_pop_i, ex_pop_r, ex_dup_i, ex_dup_r, ex_dup_x1, ex_dup2, ex_iadd, ex_isub, ex_imul, ex_iand, ex_ior, ex_ixor, ex_ishl, ex_ishr, ex_idiv, ex_irem, ex_ineg, ex_i2l, ex_i2c, ex_i2b, ex_i2f, ex_i2d, ex_f2d, ex_fdiv, ex_ddiv, ex_lcmp, ex_dcmp, ex_getI, ex_getR, ex_putI, ex_putB, ex_putZ, ex_putR, ex_getsI, ex_getsR, ex_iald, ex_cald, ex_iast, ex_cast, ex_aast, ex_alen, ex_copy1, ex_copy2, ex_throw, ex_goto, ex_fall, ex_if_eq, ex_ic_eq, ex_if_ne, ex_ic_ne, ex_if_lt, ex_ic_lt, ex_if_ge, ex_ic_ge, ex_if_gt, ex_ic_gt, ex_if_le, ex_ic_le, ex_switch, ex_ireturn, ex_ireturn_z, ex_ireturn_b, ex_ireturn_c, ex_areturn, ex_freturn, ex_dreturn, ex_return, ex_is0, ex_is1, ex_is2, ex_is3, ex_is4, ex_is5, ex_is6, ex_is7, ex_iv1, ex_iv2, ex_iv3, ex_iv4, ex_iv5, ex_iv6, ex_iv7, ex_ip1, ex_ip2, ex_ip3, ex_ip4, ex_ip5, ex_ip6, ex_ip7, ex_iu1, ex_iu2, ex_iu3, ex_iu4, ex_iu5, ex_iu6, ex_iu7, List.getD_cons_zero, List.getD_cons_succ, List.set_cons_zero, List.set_cons_succ, isI_i, isA_r, isD_d, isF_f, GInc, ko_v, ko_n, cat_i2, cat_r2, cat_n2, cat_f2, cat_d2, cat_l2, Nat.zero_le, Nat.zero_add, Nat.le_refl, Nat.reduceAdd, Nat.reduceLeDiff, ne_eq, not_false_eq_true, Nat.reduceEqDiff, sI_mk, wI_mk, wCp_mk, Option.toList, List.nil_append, List.cons_append, kd_20, kd_21, kd_22, kd_23, kd_24, kd_25, kd_26, kd_27, kd_28, kd_29, kd_30, kd_31, kd_32, kd_33, kd_34, kd_35, kd_36, kd_37, kd_38, kd_39, kd_40, kd_41, kd_42, kd_43, kd_44, kd_45, kd_46, kd_47, kd_48, kd_49, kd_50, kd_51, kd_52, kd_53, kd_54, o1, o3, o2]
/-- a sack dropped -/
theorem mdr_l1 (hG : StG r) {b o n5 : Nat} {u : AV} (hb : b < 5) (h5 : n5 ≤ 9) : ∀ (m k : Nat) (N0 : Nat → Int32), k + m = 5 * n5 → o ≤ k → (Jx (d + 2) 210 1 [vr 11 0, vi (ik b), u, vi (ik n5), vi (ik k)] [] (pr f (shD N0 (24 + 56 * b + 5 + o) (24 + 56 * b + 5 + k)), r) Q ↔ Jx (d + 2) 210 2 [vr 11 0, vi (ik b), u, vi (ik n5), vi (ik (5 * n5))] [] (pr f (shD N0 (24 + 56 * b + 5 + o) (24 + 56 * b + 5 + 5 * n5)), r) Q) := by
  intro m
  induction m with
  | zero =>
    intro k N0 hk ho
    have hk2 : k = 5 * n5 := by omega
    subst hk2
    have hc := le_self_i (a := ik (5 * n5))
    refine jb210_1.trans ?_
    simp only [B210_1, ex_iconst, ex_bipush, ex_sipush, ex_ldc, ex_ldcs, ex_fconst, ex_dconst, ex_iload_n, ex_iload, ex_aload_n, ex_aload, ex_dload_n, ex_dload, ex_fload, ex_istore_n, ex_istore, ex_fstore, ex_dstore_n, ex_dstore, ex_astore_n, ex_astore, ex_iinc, ex_ginc, ex_pop_i, ex_pop_r, ex_dup_i, ex_dup_r, ex_dup_x1, ex_dup2, ex_iadd, ex_isub, ex_imul, ex_iand, ex_ior, ex_ixor, ex_ishl, ex_ishr, ex_idiv, ex_irem, ex_ineg, ex_i2l, ex_i2c, ex_i2b, ex_i2f, ex_i2d, ex_f2d, ex_fdiv, ex_ddiv, ex_lcmp, ex_dcmp, ex_getI, ex_getR, ex_putI, ex_putB, ex_putZ, ex_putR, ex_getsI, ex_getsR, ex_iald, ex_cald, ex_iast, ex_cast, ex_aast, ex_alen, ex_copy1, ex_copy2, ex_throw, ex_goto, ex_fall, ex_if_eq, ex_ic_eq, ex_if_ne, ex_ic_ne, ex_if_lt, ex_ic_lt, ex_if_ge, ex_ic_ge, ex_if_gt, ex_ic_gt, ex_if_le, ex_ic_le, ex_switch, ex_ireturn, ex_ireturn_z, ex_ireturn_b, ex_ireturn_c, ex_areturn, ex_freturn, ex_dreturn, ex_return, ex_is0, ex_is1, ex_is2, ex_is3, ex_is4, ex_is5, ex_is6, ex_is7, ex_iv1, ex_iv2, ex_iv3, ex_iv4, ex_iv5, ex_iv6, ex_iv7, ex_ip1, ex_ip2, ex_ip3, ex_ip4, ex_ip5, ex_ip6, ex_ip7, ex_iu1, ex_iu2, ex_iu3, ex_iu4, ex_iu5, ex_iu6, ex_iu7, List.getD_cons_zero, List.getD_cons_succ, List.set_cons_zero, List.set_cons_succ, isI_i, isA_r, isD_d, isF_f, GInc, ko_v, ko_n, cat_i2, cat_r2, cat_n2, cat_f2, cat_d2, cat_l2, Nat.zero_le, Nat.zero_add, Nat.le_refl, Nat.reduceAdd, Nat.reduceLeDiff, ne_eq, not_false_eq_true, Nat.reduceEqDiff, sI_mk, wI_mk, wCp_mk, Option.toList, List.nil_append, List.cons_append, kd_20, kd_21, kd_22, kd_23, kd_24, kd_25, kd_26, kd_27, kd_28, kd_29, kd_30, kd_31, kd_32, kd_33, kd_34, kd_35, kd_36, kd_37, kd_38, kd_39, kd_40, kd_41, kd_42, kd_43, kd_44, kd_45, kd_46, kd_47, kd_48, kd_49, kd_50, kd_51, kd_52, kd_53, kd_54, i5m, hc, if_true]
  | succ m ih =>
    intro k N0 hk ho
    have hc : ¬ ik (5 * n5) ≤ ik k := by rw [ik_le (by omega) (by omega)]; omega
    have o1 := fun N Q => mb_ok (d := d + 1) (f := f) (N := N) (Q := Q) hG hb (show 5 + k + 5 < 56 by omega)
    have o2 := fun N v Q => mset_ok (d := d + 1) (f := f) (N := N) (Q := Q) (v := v) hG hb (show 5 + k < 56 by omega)
    have e1 : ∀ N : Nat → Int32, updn N (24 + 56 * b + (5 + k)) (N (24 + 56 * b + (5 + k + 5))) = updn N (24 + 56 * b + 5 + k) (N (24 + 56 * b + 5 + k + 5)) := fun N => by
      rw [show 24 + 56 * b + (5 + k) = 24 + 56 * b + 5 + k by omega, show 24 + 56 * b + (5 + k + 5) = 24 + 56 * b + 5 + k + 5 by omega]
    have ih2 := ih (k + 1) N0 (by omega) (by omega)
    refine jb210_1.trans ?_
    simp only [B210_1, ex_iconst, ex_bipush, ex_sipush, ex_ldc, ex_ldcs, ex_fconst, ex_dconst, ex_iload_n, ex_iload, ex_aload_n, ex_aload, ex_dload_n, ex_dload, ex_fload, ex_istore_n, ex_istore, ex_fstore, ex_dstore_n, ex_dstore, ex_astore_n, ex_astore, ex_iinc, ex_ginc, ex_pop_i, ex_pop_r, ex_dup_i, ex_dup_r, ex_dup_x1, ex_dup2, ex_iadd, ex_isub, ex_imul, ex_iand, ex_ior, ex_ixor, ex_ishl, ex_ishr, ex_idiv, ex_irem, ex_ineg, ex_i2l, ex_i2c, ex_i2b, ex_i2f, ex_i2d, ex_f2d, ex_fdiv, ex_ddiv, ex_lcmp, ex_dcmp, ex_getI, ex_getR, ex_putI, ex_putB, ex_putZ, ex_putR, ex_getsI, ex_getsR, ex_iald, ex_cald, ex_iast, ex_cast, ex_aast, ex_alen, ex_copy1, ex_copy2, ex_throw, ex_goto, ex_fall, ex_if_eq, ex_ic_eq, ex_if_ne, ex_ic_ne, ex_if_lt, ex_ic_lt, ex_if_ge, ex_ic_ge, ex_if_gt, ex_ic_gt, ex_if_le, ex_ic_le, ex_switch, ex_ireturn, ex_ireturn_z, ex_ireturn_b, ex_ireturn_c, ex_areturn, ex_freturn, ex_dreturn, ex_return, ex_is0, ex_is1, ex_is2, ex_is3, ex_is4, ex_is5, ex_is6, ex_is7, ex_iv1, ex_iv2, ex_iv3, ex_iv4, ex_iv5, ex_iv6, ex_iv7, ex_ip1, ex_ip2, ex_ip3, ex_ip4, ex_ip5, ex_ip6, ex_ip7, ex_iu1, ex_iu2, ex_iu3, ex_iu4, ex_iu5, ex_iu6, ex_iu7, List.getD_cons_zero, List.getD_cons_succ, List.set_cons_zero, List.set_cons_succ, isI_i, isA_r, isD_d, isF_f, GInc, ko_v, ko_n, cat_i2, cat_r2, cat_n2, cat_f2, cat_d2, cat_l2, Nat.zero_le, Nat.zero_add, Nat.le_refl, Nat.reduceAdd, Nat.reduceLeDiff, ne_eq, not_false_eq_true, Nat.reduceEqDiff, sI_mk, wI_mk, wCp_mk, Option.toList, List.nil_append, List.cons_append, kd_20, kd_21, kd_22, kd_23, kd_24, kd_25, kd_26, kd_27, kd_28, kd_29, kd_30, kd_31, kd_32, kd_33, kd_34, kd_35, kd_36, kd_37, kd_38, kd_39, kd_40, kd_41, kd_42, kd_43, kd_44, kd_45, kd_46, kd_47, kd_48, kd_49, kd_50, kd_51, kd_52, kd_53, kd_54, i5m, hc, if_false, i55, i555, o1, o2, e1, shD_s (show 24 + 56 * b + 5 + o ≤ 24 + 56 * b + 5 + k by omega), ik_succ]
    exact ih2
/-- zeros from the place o on, k of them -/
def zrD (N : Nat → Int32) (o k : Nat) : Nat → Int32 := fun i => if o ≤ i ∧ i < o + k then 0 else N i
theorem zrD_s {N : Nat → Int32} {o k : Nat} : updn (zrD N o k) (o + k) 0 = zrD N o (k + 1) := by
  funext i
  unfold updn zrD
  by_cases hi : i = o + k
  · subst hi
    rw [if_pos rfl, if_pos (by omega)]
  · rw [if_neg hi]
    by_cases h2 : o ≤ i ∧ i < o + k
    · rw [if_pos h2, if_pos (by omega)]
    · rw [if_neg h2, if_neg (by omega)]
theorem zrD_0 {N : Nat → Int32} {o : Nat} : zrD N o 0 = N := by
  funext i
  unfold zrD
  rw [if_neg (by omega)]
theorem mdr_l2 (hG : StG r) {b n5 : Nat} {u : AV} (hb : b < 5) (h5 : n5 ≤ 9) : ∀ (m k : Nat) (N0 : Nat → Int32), k + m = 5 → (Jx (d + 2) 210 3 [vr 11 0, vi (ik b), u, vi (ik n5), vi (ik k)] [] (pr f (zrD N0 (24 + 56 * b + 5 + 5 * n5) k), r) Q ↔ Jx (d + 2) 210 4 [vr 11 0, vi (ik b), u, vi (ik n5), vi (ik 5)] [] (pr f (zrD N0 (24 + 56 * b + 5 + 5 * n5) 5), r) Q) := by
  intro m
  induction m with
  | zero =>
    intro k N0 hk
    have hk2 : k = 5 := by omega
    subst hk2
    have hc : (5 : Int32) ≤ ik 5 := by decide
    refine jb210_3.trans ?_
    simp only [B210_3, ex_iconst, ex_bipush, ex_sipush, ex_ldc, ex_ldcs, ex_fconst, ex_dconst, ex_iload_n, ex_iload, ex_aload_n, ex_aload, ex_dload_n, ex_dload, ex_fload, ex_istore_n, ex_istore, ex_fstore, ex_dstore_n, ex_dstore, ex_astore_n, ex_astore, ex_iinc, ex_ginc, ex_pop_i, ex_pop_r, ex_dup_i, ex_dup_r, ex_dup_x1, ex_dup2, ex_iadd, ex_isub, ex_imul, ex_iand, ex_ior, ex_ixor, ex_ishl, ex_ishr, ex_idiv, ex_irem, ex_ineg, ex_i2l, ex_i2c, ex_i2b, ex_i2f, ex_i2d, ex_f2d, ex_fdiv, ex_ddiv, ex_lcmp, ex_dcmp, ex_getI, ex_getR, ex_putI, ex_putB, ex_putZ, ex_putR, ex_getsI, ex_getsR, ex_iald, ex_cald, ex_iast, ex_cast, ex_aast, ex_alen, ex_copy1, ex_copy2, ex_throw, ex_goto, ex_fall, ex_if_eq, ex_ic_eq, ex_if_ne, ex_ic_ne, ex_if_lt, ex_ic_lt, ex_if_ge, ex_ic_ge, ex_if_gt, ex_ic_gt, ex_if_le, ex_ic_le, ex_switch, ex_ireturn, ex_ireturn_z, ex_ireturn_b, ex_ireturn_c, ex_areturn, ex_freturn, ex_dreturn, ex_return, ex_is0, ex_is1, ex_is2, ex_is3, ex_is4, ex_is5, ex_is6, ex_is7, ex_iv1, ex_iv2, ex_iv3, ex_iv4, ex_iv5, ex_iv6, ex_iv7, ex_ip1, ex_ip2, ex_ip3, ex_ip4, ex_ip5, ex_ip6, ex_ip7, ex_iu1, ex_iu2, ex_iu3, ex_iu4, ex_iu5, ex_iu6, ex_iu7, List.getD_cons_zero, List.getD_cons_succ, List.set_cons_zero, List.set_cons_succ, isI_i, isA_r, isD_d, isF_f, GInc, ko_v, ko_n, cat_i2, cat_r2, cat_n2, cat_f2, cat_d2, cat_l2, Nat.zero_le, Nat.zero_add, Nat.le_refl, Nat.reduceAdd, Nat.reduceLeDiff, ne_eq, not_false_eq_true, Nat.reduceEqDiff, sI_mk, wI_mk, wCp_mk, Option.toList, List.nil_append, List.cons_append, kd_20, kd_21, kd_22, kd_23, kd_24, kd_25, kd_26, kd_27, kd_28, kd_29, kd_30, kd_31, kd_32, kd_33, kd_34, kd_35, kd_36, kd_37, kd_38, kd_39, kd_40, kd_41, kd_42, kd_43, kd_44, kd_45, kd_46, kd_47, kd_48, kd_49, kd_50, kd_51, kd_52, kd_53, kd_54, hc, if_true]
  | succ m ih =>
    intro k N0 hk
    have hc : ¬ (5 : Int32) ≤ ik k := by rw [show (5 : Int32) = ik 5 from rfl, ik_le (by omega) (by omega)]; omega
    have o2 := fun N Q => mss_ok (d := d) (f := f) (N := N) (Q := Q) (v := 0) hG hb (show n5 < 10 by omega) (show k < 5 by omega)
    have ih2 := ih (k + 1) N0 (by omega)
    refine jb210_3.trans ?_
    simp only [B210_3, ex_iconst, ex_bipush, ex_sipush, ex_ldc, ex_ldcs, ex_fconst, ex_dconst, ex_iload_n, ex_iload, ex_aload_n, ex_aload, ex_dload_n, ex_dload, ex_fload, ex_istore_n, ex_istore, ex_fstore, ex_dstore_n, ex_dstore, ex_astore_n, ex_astore, ex_iinc, ex_ginc, ex_pop_i, ex_pop_r, ex_dup_i, ex_dup_r, ex_dup_x1, ex_dup2, ex_iadd, ex_isub, ex_imul, ex_iand, ex_ior, ex_ixor, ex_ishl, ex_ishr, ex_idiv, ex_irem, ex_ineg, ex_i2l, ex_i2c, ex_i2b, ex_i2f, ex_i2d, ex_f2d, ex_fdiv, ex_ddiv, ex_lcmp, ex_dcmp, ex_getI, ex_getR, ex_putI, ex_putB, ex_putZ, ex_putR, ex_getsI, ex_getsR, ex_iald, ex_cald, ex_iast, ex_cast, ex_aast, ex_alen, ex_copy1, ex_copy2, ex_throw, ex_goto, ex_fall, ex_if_eq, ex_ic_eq, ex_if_ne, ex_ic_ne, ex_if_lt, ex_ic_lt, ex_if_ge, ex_ic_ge, ex_if_gt, ex_ic_gt, ex_if_le, ex_ic_le, ex_switch, ex_ireturn, ex_ireturn_z, ex_ireturn_b, ex_ireturn_c, ex_areturn, ex_freturn, ex_dreturn, ex_return, ex_is0, ex_is1, ex_is2, ex_is3, ex_is4, ex_is5, ex_is6, ex_is7, ex_iv1, ex_iv2, ex_iv3, ex_iv4, ex_iv5, ex_iv6, ex_iv7, ex_ip1, ex_ip2, ex_ip3, ex_ip4, ex_ip5, ex_ip6, ex_ip7, ex_iu1, ex_iu2, ex_iu3, ex_iu4, ex_iu5, ex_iu6, ex_iu7, List.getD_cons_zero, List.getD_cons_succ, List.set_cons_zero, List.set_cons_succ, isI_i, isA_r, isD_d, isF_f, GInc, ko_v, ko_n, cat_i2, cat_r2, cat_n2, cat_f2, cat_d2, cat_l2, Nat.zero_le, Nat.zero_add, Nat.le_refl, Nat.reduceAdd, Nat.reduceLeDiff, ne_eq, not_false_eq_true, Nat.reduceEqDiff, sI_mk, wI_mk, wCp_mk, Option.toList, List.nil_append, List.cons_append, kd_20, kd_21, kd_22, kd_23, kd_24, kd_25, kd_26, kd_27, kd_28, kd_29, kd_30, kd_31, kd_32, kd_33, kd_34, kd_35, kd_36, kd_37, kd_38, kd_39, kd_40, kd_41, kd_42, kd_43, kd_44, kd_45, kd_46, kd_47, kd_48, kd_49, kd_50, kd_51, kd_52, kd_53, kd_54, hc, if_false, o2, zrD_s, ik_succ]
    exact ih2
theorem mdr_ok (hG : StG r) (h : RowX N n B L ac pc mo nx) {b : Nat} (hb : b < 5) {pre post : List Sk} {x : Sk} (e : L b = pre ++ x :: post) (hq : ∀ N', RowX N' n B (upf L b (pre ++ post)) ac pc mo nx → Q (.inl none) (pr f N', r)) : Cl (d + 3) 210 [vr 11 0, vi (ik b), vi (ik pre.length)] (pr f N, r) Q := by
  have o4 := fun Q => mb4 (d := d + 1) (f := f) (Q := Q) hG h hb
  have h10 := (h.b0 hb).2.2.2.2.2
  have hl := h.2.2.2.2.2.2.2 b hb
  rw [e] at o4 h10 hl
  have hlen : (pre ++ x :: post).length = pre.length + post.length + 1 := by simp; omega
  rw [hlen] at o4 h10
  have em : ik (pre.length + post.length + 1) - 1 = ik (pre.length + post.length) := by rw [dec1, ik_dec]
  have l1 := mdr_l1 (d := d) (f := f) (r := r) (Q := Q) (u := vi (ik pre.length)) (o := 5 * pre.length) hG hb (show pre.length + post.length ≤ 9 by omega) (5 * post.length) (5 * pre.length) N (by omega) (Nat.le_refl _)
  rw [shD_0] at l1
  have l2 := mdr_l2 (d := d) (f := f) (r := r) (Q := Q) (u := vi (ik pre.length)) hG hb (show pre.length + post.length ≤ 9 by omega) 5 0 (shD N (24 + 56 * b + 5 + 5 * pre.length) (24 + 56 * b + 5 + 5 * (pre.length + post.length))) rfl
  rw [zrD_0] at l2
  have o5 := fun N v Q => mset4 (d := d + 1) (f := f) (N := N) (Q := Q) (v := v) hG hb
  rw [en210]
  simp only [B210_0, ex_iconst, ex_bipush, ex_sipush, ex_ldc, ex_ldcs, ex_fconst, ex_dconst, ex_iload_n, ex_iload, ex_aload_n, ex_aload, ex_dload_n, ex_dload, ex_fload, ex_istore_n, ex_istore, ex_fstore, ex_dstore_n, ex_dstore, ex_astore_n, ex_astore, ex_iinc, ex_ginc, ex_pop_i, ex_pop_r, ex_dup_i, ex_dup_r, ex_dup_x1, ex_dup2, ex_iadd, ex_isub, ex_imul, ex_iand, ex_ior, ex_ixor, ex_ishl, ex_ishr, ex_idiv, ex_irem, ex_ineg, ex_i2l, ex_i2c, ex_i2b, ex_i2f, ex_i2d, ex_f2d, ex_fdiv, ex_ddiv, ex_lcmp, ex_dcmp, ex_getI, ex_getR, ex_putI, ex_putB, ex_putZ, ex_putR, ex_getsI, ex_getsR, ex_iald, ex_cald, ex_iast, ex_cast, ex_aast, ex_alen, ex_copy1, ex_copy2, ex_throw, ex_goto, ex_fall, ex_if_eq, ex_ic_eq, ex_if_ne, ex_ic_ne, ex_if_lt, ex_ic_lt, ex_if_ge, ex_ic_ge, ex_if_gt, ex_ic_gt, ex_if_le, ex_ic_le, ex_switch, ex_ireturn, ex_ireturn_z, ex_ireturn_b, ex_ireturn_c, ex_areturn, ex_freturn, ex_dreturn, ex_return, ex_is0, ex_is1, ex_is2, ex_is3, ex_is4, ex_is5, ex_is6, ex_is7, ex_iv1, ex_iv2, ex_iv3, ex_iv4, ex_iv5, ex_iv6, ex_iv7, ex_ip1, ex_ip2, ex_ip3, ex_ip4, ex_ip5, ex_ip6, ex_ip7, ex_iu1, ex_iu2, ex_iu3, ex_iu4, ex_iu5, ex_iu6, ex_iu7, List.getD_cons_zero, List.getD_cons_succ, List.set_cons_zero, List.set_cons_succ, isI_i, isA_r, isD_d, isF_f, GInc, ko_v, ko_n, cat_i2, cat_r2, cat_n2, cat_f2, cat_d2, cat_l2, Nat.zero_le, Nat.zero_add, Nat.le_refl, Nat.reduceAdd, Nat.reduceLeDiff, ne_eq, not_false_eq_true, Nat.reduceEqDiff, sI_mk, wI_mk, wCp_mk, Option.toList, List.nil_append, List.cons_append, kd_20, kd_21, kd_22, kd_23, kd_24, kd_25, kd_26, kd_27, kd_28, kd_29, kd_30, kd_31, kd_32, kd_33, kd_34, kd_35, kd_36, kd_37, kd_38, kd_39, kd_40, kd_41, kd_42, kd_43, kd_44, kd_45, kd_46, kd_47, kd_48, kd_49, kd_50, kd_51, kd_52, kd_53, kd_54, o4, em, i5m]
  refine l1.mpr ?_
  rw [jb210_2]
  simp only [B210_2, ex_iconst, ex_bipush, ex_sipush, ex_ldc, ex_ldcs, ex_fconst, ex_dconst, ex_iload_n, ex_iload, ex_aload_n, ex_aload, ex_dload_n, ex_dload, ex_fload, ex_istore_n, ex_istore, ex_fstore, ex_dstore_n, ex_dstore, ex_astore_n, ex_astore, ex_iinc, ex_ginc, ex_pop_i, ex_pop_r, ex_dup_i, ex_dup_r, ex_dup_x1, ex_dup2, ex_iadd, ex_isub, ex_imul, ex_iand, ex_ior, ex_ixor, ex_ishl, ex_ishr, ex_idiv, ex_irem, ex_ineg, ex_i2l, ex_i2c, ex_i2b, ex_i2f, ex_i2d, ex_f2d, ex_fdiv, ex_ddiv, ex_lcmp, ex_dcmp, ex_getI, ex_getR, ex_putI, ex_putB, ex_putZ, ex_putR, ex_getsI, ex_getsR, ex_iald, ex_cald, ex_iast, ex_cast, ex_aast, ex_alen, ex_copy1, ex_copy2, ex_throw, ex_goto, ex_fall, ex_if_eq, ex_ic_eq, ex_if_ne, ex_ic_ne, ex_if_lt, ex_ic_lt, ex_if_ge, ex_ic_ge, ex_if_gt, ex_ic_gt, ex_if_le, ex_ic_le, ex_switch, ex_ireturn, ex_ireturn_z, ex_ireturn_b, ex_ireturn_c, ex_areturn, ex_freturn, ex_dreturn, ex_return, ex_is0, ex_is1, ex_is2, ex_is3, ex_is4, ex_is5, ex_is6, ex_is7, ex_iv1, ex_iv2, ex_iv3, ex_iv4, ex_iv5, ex_iv6, ex_iv7, ex_ip1, ex_ip2, ex_ip3, ex_ip4, ex_ip5, ex_ip6, ex_ip7, ex_iu1, ex_iu2, ex_iu3, ex_iu4, ex_iu5, ex_iu6, ex_iu7, List.getD_cons_zero, List.getD_cons_succ, List.set_cons_zero, List.set_cons_succ, isI_i, isA_r, isD_d, isF_f, GInc, ko_v, ko_n, cat_i2, cat_r2, cat_n2, cat_f2, cat_d2, cat_l2, Nat.zero_le, Nat.zero_add, Nat.le_refl, Nat.reduceAdd, Nat.reduceLeDiff, ne_eq, not_false_eq_true, Nat.reduceEqDiff, sI_mk, wI_mk, wCp_mk, Option.toList, List.nil_append, List.cons_append, kd_20, kd_21, kd_22, kd_23, kd_24, kd_25, kd_26, kd_27, kd_28, kd_29, kd_30, kd_31, kd_32, kd_33, kd_34, kd_35, kd_36, kd_37, kd_38, kd_39, kd_40, kd_41, kd_42, kd_43, kd_44, kd_45, kd_46, kd_47, kd_48, kd_49, kd_50, kd_51, kd_52, kd_53, kd_54]
  refine l2.mpr ?_
  rw [jb210_4]
  simp only [B210_4, ex_iconst, ex_bipush, ex_sipush, ex_ldc, ex_ldcs, ex_fconst, ex_dconst, ex_iload_n, ex_iload, ex_aload_n, ex_aload, ex_dload_n, ex_dload, ex_fload, ex_istore_n, ex_istore, ex_fstore, ex_dstore_n, ex_dstore, ex_astore_n, ex_astore, ex_iinc, ex_ginc, ex_pop_i, ex_pop_r, ex_dup_i, ex_dup_r, ex_dup_x1, ex_dup2, ex_iadd, ex_isub, ex_imul, ex_iand, ex_ior, ex_ixor, ex_ishl, ex_ishr, ex_idiv, ex_irem, ex_ineg, ex_i2l, ex_i2c, ex_i2b, ex_i2f, ex_i2d, ex_f2d, ex_fdiv, ex_ddiv, ex_lcmp, ex_dcmp, ex_getI, ex_getR, ex_putI, ex_putB, ex_putZ, ex_putR, ex_getsI, ex_getsR, ex_iald, ex_cald, ex_iast, ex_cast, ex_aast, ex_alen, ex_copy1, ex_copy2, ex_throw, ex_goto, ex_fall, ex_if_eq, ex_ic_eq, ex_if_ne, ex_ic_ne, ex_if_lt, ex_ic_lt, ex_if_ge, ex_ic_ge, ex_if_gt, ex_ic_gt, ex_if_le, ex_ic_le, ex_switch, ex_ireturn, ex_ireturn_z, ex_ireturn_b, ex_ireturn_c, ex_areturn, ex_freturn, ex_dreturn, ex_return, ex_is0, ex_is1, ex_is2, ex_is3, ex_is4, ex_is5, ex_is6, ex_is7, ex_iv1, ex_iv2, ex_iv3, ex_iv4, ex_iv5, ex_iv6, ex_iv7, ex_ip1, ex_ip2, ex_ip3, ex_ip4, ex_ip5, ex_ip6, ex_ip7, ex_iu1, ex_iu2, ex_iu3, ex_iu4, ex_iu5, ex_iu6, ex_iu7, List.getD_cons_zero, List.getD_cons_succ, List.set_cons_zero, List.set_cons_succ, isI_i, isA_r, isD_d, isF_f, GInc, ko_v, ko_n, cat_i2, cat_r2, cat_n2, cat_f2, cat_d2, cat_l2, Nat.zero_le, Nat.zero_add, Nat.le_refl, Nat.reduceAdd, Nat.reduceLeDiff, ne_eq, not_false_eq_true, Nat.reduceEqDiff, sI_mk, wI_mk, wCp_mk, Option.toList, List.nil_append, List.cons_append, kd_20, kd_21, kd_22, kd_23, kd_24, kd_25, kd_26, kd_27, kd_28, kd_29, kd_30, kd_31, kd_32, kd_33, kd_34, kd_35, kd_36, kd_37, kd_38, kd_39, kd_40, kd_41, kd_42, kd_43, kd_44, kd_45, kd_46, kd_47, kd_48, kd_49, kd_50, kd_51, kd_52, kd_53, kd_54, o5]
  refine hq _ (h.lay hb (fun i hi => ?_) ⟨?_, by simp; omega, fun k z hz => ?_⟩)
  · rw [updn_ne (by omega)]
    unfold zrD shD
    rw [if_neg (by omega), if_neg (by omega)]
  · rw [updn_eq]; simp
  · have hlt := (List.getElem?_eq_some_iff.mp hz).1
    rw [List.length_append] at hlt
    refine (AtM.cg (N := fun i => shD N (24 + 56 * b + 5 + 5 * pre.length) (24 + 56 * b + 5 + 5 * (pre.length + post.length)) i) ?_ (fun c hc => ?_))
    · by_cases hk : k < pre.length
      · have hz2 : (pre ++ x :: post)[k]? = some z := by
          rw [List.getElem?_append_left hk] at hz ⊢
          exact hz
        refine (hl.2.2 k z hz2).cg (fun c hc => ?_)
        unfold shD
        rw [if_neg (by omega)]
      · have hz2 : (pre ++ x :: post)[k + 1]? = some z := by
          rw [List.getElem?_append_right (by omega)] at hz ⊢
          rw [show k + 1 - pre.length = (k - pre.length) + 1 by omega]
          exact hz
        have h3 := hl.2.2 (k + 1) z hz2
        have sh : ∀ c, c < 5 → shD N (24 + 56 * b + 5 + 5 * pre.length) (24 + 56 * b + 5 + 5 * (pre.length + post.length)) (24 + 56 * b + 5 + 5 * k + c) = N (24 + 56 * b + 5 + 5 * (k + 1) + c) := fun c hc => by
          unfold shD
          rw [if_pos (by omega)]
          exact congrArg N (by omega)
        exact ⟨(sh 0 (by decide)).trans h3.1, (sh 1 (by decide)).trans h3.2.1, (sh 2 (by decide)).trans h3.2.2.1, (sh 3 (by decide)).trans h3.2.2.2.1, (sh 4 (by decide)).trans h3.2.2.2.2⟩
    · rw [updn_ne (by omega)]
      unfold zrD
      rw [if_neg (by omega)]
/-- the sacks that are not empty, as the model sees it -/
def noZ (xs : List Sk) : List Sk := xs.filter (fun x => decide (kW x ≠ 0))
theorem neg1_lt : ik 0 + -1 < 0 := by decide
theorem mde_lp (hG : StG r) {b : Nat} (hb : b < 5) : ∀ (t : List Sk) (post : List Sk) (N : Nat → Int32) (L : Nat → List Sk), RowX N n B L ac pc mo nx → L b = t.reverse ++ post →
    (∀ N', RowX N' n B (upf L b (noZ t.reverse ++ post)) ac pc mo nx → Q (.inl none) (pr f N', r)) → Jx (d + 3) 221 1 [vr 11 0, vi (ik b), vi (ik t.length + -1)] [] (pr f N, r) Q := by
  intro t
  induction t with
  | nil =>
    intro post N L h e hq
    have hn := neg1_lt
    rw [jb221_1]
    simp only [B221_1, List.length_nil, ex_iconst, ex_bipush, ex_sipush, ex_ldc, ex_ldcs, ex_fconst, ex_dconst, ex_iload_n, ex_iload, ex_aload_n, ex_aload, ex_dload_n, ex_dload, ex_fload, ex_istore_n, ex_istore, ex_fstore, ex_dstore_n, ex_dstore, ex_astore_n, ex_astore, ex_iinc, ex_ginc, ex_pop_i, ex_pop_r, ex_dup_i, ex_dup_r, ex_dup_x1, ex_dup2, ex_iadd, ex_isub, ex_imul, ex_iand, ex_ior, ex_ixor, ex_ishl, ex_ishr, ex_idiv, ex_irem, ex_ineg, ex_i2l, ex_i2c, ex_i2b, ex_i2f, ex_i2d, ex_f2d, ex_fdiv, ex_ddiv, ex_lcmp, ex_dcmp, ex_getI, ex_getR, ex_putI, ex_putB, ex_putZ, ex_putR, ex_getsI, ex_getsR, ex_iald, ex_cald, ex_iast, ex_cast, ex_aast, ex_alen, ex_copy1, ex_copy2, ex_throw, ex_goto, ex_fall, ex_if_eq, ex_ic_eq, ex_if_ne, ex_ic_ne, ex_if_lt, ex_ic_lt, ex_if_ge, ex_ic_ge, ex_if_gt, ex_ic_gt, ex_if_le, ex_ic_le, ex_switch, ex_ireturn, ex_ireturn_z, ex_ireturn_b, ex_ireturn_c, ex_areturn, ex_freturn, ex_dreturn, ex_return, ex_is0, ex_is1, ex_is2, ex_is3, ex_is4, ex_is5, ex_is6, ex_is7, ex_iv1, ex_iv2, ex_iv3, ex_iv4, ex_iv5, ex_iv6, ex_iv7, ex_ip1, ex_ip2, ex_ip3, ex_ip4, ex_ip5, ex_ip6, ex_ip7, ex_iu1, ex_iu2, ex_iu3, ex_iu4, ex_iu5, ex_iu6, ex_iu7, List.getD_cons_zero, List.getD_cons_succ, List.set_cons_zero, List.set_cons_succ, isI_i, isA_r, isD_d, isF_f, GInc, ko_v, ko_n, cat_i2, cat_r2, cat_n2, cat_f2, cat_d2, cat_l2, Nat.zero_le, Nat.zero_add, Nat.le_refl, Nat.reduceAdd, Nat.reduceLeDiff, ne_eq, not_false_eq_true, Nat.reduceEqDiff, sI_mk, wI_mk, wCp_mk, Option.toList, List.nil_append, List.cons_append, kd_20, kd_21, kd_22, kd_23, kd_24, kd_25, kd_26, kd_27, kd_28, kd_29, kd_30, kd_31, kd_32, kd_33, kd_34, kd_35, kd_36, kd_37, kd_38, kd_39, kd_40, kd_41, kd_42, kd_43, kd_44, kd_45, kd_46, kd_47, kd_48, kd_49, kd_50, kd_51, kd_52, kd_53, kd_54, hn, if_true, jb221_3, B221_3]
    refine hq N ?_
    have : noZ ([] : List Sk).reverse ++ post = L b := by rw [e]; rfl
    rw [this, upf_self]
    exact h
  | cons x t ih =>
    intro post N L h e hq
    have e2 : L b = t.reverse ++ x :: post := by rw [e]; simp
    have hx : (L b)[t.length]? = some x := by rw [e2]; have := mid_at (pre := t.reverse) (post := post) (x := x); rwa [List.length_reverse] at this
    have hnn := ik_nneg (k := t.length) (by have := (h.at hb hx).2; omega)
    have o1 := fun Q => ms1 (d := d + 1) (f := f) (Q := Q) hG h hb hx
    have rv : noZ (x :: t).reverse = noZ t.reverse ++ noZ [x] := by simp [noZ]
    rw [jb221_1]
    simp only [B221_1, List.length_cons, ik_dec, ex_iconst, ex_bipush, ex_sipush, ex_ldc, ex_ldcs, ex_fconst, ex_dconst, ex_iload_n, ex_iload, ex_aload_n, ex_aload, ex_dload_n, ex_dload, ex_fload, ex_istore_n, ex_istore, ex_fstore, ex_dstore_n, ex_dstore, ex_astore_n, ex_astore, ex_iinc, ex_ginc, ex_pop_i, ex_pop_r, ex_dup_i, ex_dup_r, ex_dup_x1, ex_dup2, ex_iadd, ex_isub, ex_imul, ex_iand, ex_ior, ex_ixor, ex_ishl, ex_ishr, ex_idiv, ex_irem, ex_ineg, ex_i2l, ex_i2c, ex_i2b, ex_i2f, ex_i2d, ex_f2d, ex_fdiv, ex_ddiv, ex_lcmp, ex_dcmp, ex_getI, ex_getR, ex_putI, ex_putB, ex_putZ, ex_putR, ex_getsI, ex_getsR, ex_iald, ex_cald, ex_iast, ex_cast, ex_aast, ex_alen, ex_copy1, ex_copy2, ex_throw, ex_goto, ex_fall, ex_if_eq, ex_ic_eq, ex_if_ne, ex_ic_ne, ex_if_lt, ex_ic_lt, ex_if_ge, ex_ic_ge, ex_if_gt, ex_ic_gt, ex_if_le, ex_ic_le, ex_switch, ex_ireturn, ex_ireturn_z, ex_ireturn_b, ex_ireturn_c, ex_areturn, ex_freturn, ex_dreturn, ex_return, ex_is0, ex_is1, ex_is2, ex_is3, ex_is4, ex_is5, ex_is6, ex_is7, ex_iv1, ex_iv2, ex_iv3, ex_iv4, ex_iv5, ex_iv6, ex_iv7, ex_ip1, ex_ip2, ex_ip3, ex_ip4, ex_ip5, ex_ip6, ex_ip7, ex_iu1, ex_iu2, ex_iu3, ex_iu4, ex_iu5, ex_iu6, ex_iu7, List.getD_cons_zero, List.getD_cons_succ, List.set_cons_zero, List.set_cons_succ, isI_i, isA_r, isD_d, isF_f, GInc, ko_v, ko_n, cat_i2, cat_r2, cat_n2, cat_f2, cat_d2, cat_l2, Nat.zero_le, Nat.zero_add, Nat.le_refl, Nat.reduceAdd, Nat.reduceLeDiff, ne_eq, not_false_eq_true, Nat.reduceEqDiff, sI_mk, wI_mk, wCp_mk, Option.toList, List.nil_append, List.cons_append, kd_20, kd_21, kd_22, kd_23, kd_24, kd_25, kd_26, kd_27, kd_28, kd_29, kd_30, kd_31, kd_32, kd_33, kd_34, kd_35, kd_36, kd_37, kd_38, kd_39, kd_40, kd_41, kd_42, kd_43, kd_44, kd_45, kd_46, kd_47, kd_48, kd_49, kd_50, kd_51, kd_52, kd_53, kd_54, hnn, if_false, o1]
    by_cases hz : kW x = 0
    · simp only [hz, ne_eq, not_true_eq_false, if_false, ex_iconst, ex_bipush, ex_sipush, ex_ldc, ex_ldcs, ex_fconst, ex_dconst, ex_iload_n, ex_iload, ex_aload_n, ex_aload, ex_dload_n, ex_dload, ex_fload, ex_istore_n, ex_istore, ex_fstore, ex_dstore_n, ex_dstore, ex_astore_n, ex_astore, ex_iinc, ex_ginc, ex_pop_i, ex_pop_r, ex_dup_i, ex_dup_r, ex_dup_x1, ex_dup2, ex_iadd, ex_isub, ex_imul, ex_iand, ex_ior, ex_ixor, ex_ishl, ex_ishr, ex_idiv, ex_irem, ex_ineg, ex_i2l, ex_i2c, ex_i2b, ex_i2f, ex_i2d, ex_f2d, ex_fdiv, ex_ddiv, ex_lcmp, ex_dcmp, ex_getI, ex_getR, ex_putI, ex_putB, ex_putZ, ex_putR, ex_getsI, ex_getsR, ex_iald, ex_cald, ex_iast, ex_cast, ex_aast, ex_alen, ex_copy1, ex_copy2, ex_throw, ex_goto, ex_fall, ex_if_eq, ex_ic_eq, ex_if_ne, ex_ic_ne, ex_if_lt, ex_ic_lt, ex_if_ge, ex_ic_ge, ex_if_gt, ex_ic_gt, ex_if_le, ex_ic_le, ex_switch, ex_ireturn, ex_ireturn_z, ex_ireturn_b, ex_ireturn_c, ex_areturn, ex_freturn, ex_dreturn, ex_return, ex_is0, ex_is1, ex_is2, ex_is3, ex_is4, ex_is5, ex_is6, ex_is7, ex_iv1, ex_iv2, ex_iv3, ex_iv4, ex_iv5, ex_iv6, ex_iv7, ex_ip1, ex_ip2, ex_ip3, ex_ip4, ex_ip5, ex_ip6, ex_ip7, ex_iu1, ex_iu2, ex_iu3, ex_iu4, ex_iu5, ex_iu6, ex_iu7, List.getD_cons_zero, List.getD_cons_succ, List.set_cons_zero, List.set_cons_succ, isI_i, isA_r, isD_d, isF_f, GInc, ko_v, ko_n, cat_i2, cat_r2, cat_n2, cat_f2, cat_d2, cat_l2, Nat.zero_le, Nat.zero_add, Nat.le_refl, Nat.reduceAdd, Nat.reduceLeDiff, ne_eq, not_false_eq_true, Nat.reduceEqDiff, sI_mk, wI_mk, wCp_mk, Option.toList, List.nil_append, List.cons_append, kd_20, kd_21, kd_22, kd_23, kd_24, kd_25, kd_26, kd_27, kd_28, kd_29, kd_30, kd_31, kd_32, kd_33, kd_34, kd_35, kd_36, kd_37, kd_38, kd_39, kd_40, kd_41, kd_42, kd_43, kd_44, kd_45, kd_46, kd_47, kd_48, kd_49, kd_50, kd_51, kd_52, kd_53, kd_54]
      have hl : ik t.length = ik t.reverse.length := by rw [List.length_reverse]
      rw [hl]
      refine mdr_ok hG h hb e2 (fun N2 h2 => ?_)
      simp only [ex_iconst, ex_bipush, ex_sipush, ex_ldc, ex_ldcs, ex_fconst, ex_dconst, ex_iload_n, ex_iload, ex_aload_n, ex_aload, ex_dload_n, ex_dload, ex_fload, ex_istore_n, ex_istore, ex_fstore, ex_dstore_n, ex_dstore, ex_astore_n, ex_astore, ex_iinc, ex_ginc, ex_pop_i, ex_pop_r, ex_dup_i, ex_dup_r, ex_dup_x1, ex_dup2, ex_iadd, ex_isub, ex_imul, ex_iand, ex_ior, ex_ixor, ex_ishl, ex_ishr, ex_idiv, ex_irem, ex_ineg, ex_i2l, ex_i2c, ex_i2b, ex_i2f, ex_i2d, ex_f2d, ex_fdiv, ex_ddiv, ex_lcmp, ex_dcmp, ex_getI, ex_getR, ex_putI, ex_putB, ex_putZ, ex_putR, ex_getsI, ex_getsR, ex_iald, ex_cald, ex_iast, ex_cast, ex_aast, ex_alen, ex_copy1, ex_copy2, ex_throw, ex_goto, ex_fall, ex_if_eq, ex_ic_eq, ex_if_ne, ex_ic_ne, ex_if_lt, ex_ic_lt, ex_if_ge, ex_ic_ge, ex_if_gt, ex_ic_gt, ex_if_le, ex_ic_le, ex_switch, ex_ireturn, ex_ireturn_z, ex_ireturn_b, ex_ireturn_c, ex_areturn, ex_freturn, ex_dreturn, ex_return, ex_is0, ex_is1, ex_is2, ex_is3, ex_is4, ex_is5, ex_is6, ex_is7, ex_iv1, ex_iv2, ex_iv3, ex_iv4, ex_iv5, ex_iv6, ex_iv7, ex_ip1, ex_ip2, ex_ip3, ex_ip4, ex_ip5, ex_ip6, ex_ip7, ex_iu1, ex_iu2, ex_iu3, ex_iu4, ex_iu5, ex_iu6, ex_iu7, List.getD_cons_zero, List.getD_cons_succ, List.set_cons_zero, List.set_cons_succ, isI_i, isA_r, isD_d, isF_f, GInc, ko_v, ko_n, cat_i2, cat_r2, cat_n2, cat_f2, cat_d2, cat_l2, Nat.zero_le, Nat.zero_add, Nat.le_refl, Nat.reduceAdd, Nat.reduceLeDiff, ne_eq, not_false_eq_true, Nat.reduceEqDiff, sI_mk, wI_mk, wCp_mk, Option.toList, List.nil_append, List.cons_append, kd_20, kd_21, kd_22, kd_23, kd_24, kd_25, kd_26, kd_27, kd_28, kd_29, kd_30, kd_31, kd_32, kd_33, kd_34, kd_35, kd_36, kd_37, kd_38, kd_39, kd_40, kd_41, kd_42, kd_43, kd_44, kd_45, kd_46, kd_47, kd_48, kd_49, kd_50, kd_51, kd_52, kd_53, kd_54, jb221_2, B221_2]
      rw [← hl]
      refine ih post N2 _ h2 (by rw [upf_eq]) (fun N3 h3 => hq N3 ?_)
      rw [upf_upf] at h3
      rw [rv]
      have : noZ [x] = [] := by simp [noZ, hz]
      rw [this, List.append_nil]
      exact h3
    · simp only [hz, ne_eq, not_false_eq_true, if_true, ex_iconst, ex_bipush, ex_sipush, ex_ldc, ex_ldcs, ex_fconst, ex_dconst, ex_iload_n, ex_iload, ex_aload_n, ex_aload, ex_dload_n, ex_dload, ex_fload, ex_istore_n, ex_istore, ex_fstore, ex_dstore_n, ex_dstore, ex_astore_n, ex_astore, ex_iinc, ex_ginc, ex_pop_i, ex_pop_r, ex_dup_i, ex_dup_r, ex_dup_x1, ex_dup2, ex_iadd, ex_isub, ex_imul, ex_iand, ex_ior, ex_ixor, ex_ishl, ex_ishr, ex_idiv, ex_irem, ex_ineg, ex_i2l, ex_i2c, ex_i2b, ex_i2f, ex_i2d, ex_f2d, ex_fdiv, ex_ddiv, ex_lcmp, ex_dcmp, ex_getI, ex_getR, ex_putI, ex_putB, ex_putZ, ex_putR, ex_getsI, ex_getsR, ex_iald, ex_cald, ex_iast, ex_cast, ex_aast, ex_alen, ex_copy1, ex_copy2, ex_throw, ex_goto, ex_fall, ex_if_eq, ex_ic_eq, ex_if_ne, ex_ic_ne, ex_if_lt, ex_ic_lt, ex_if_ge, ex_ic_ge, ex_if_gt, ex_ic_gt, ex_if_le, ex_ic_le, ex_switch, ex_ireturn, ex_ireturn_z, ex_ireturn_b, ex_ireturn_c, ex_areturn, ex_freturn, ex_dreturn, ex_return, ex_is0, ex_is1, ex_is2, ex_is3, ex_is4, ex_is5, ex_is6, ex_is7, ex_iv1, ex_iv2, ex_iv3, ex_iv4, ex_iv5, ex_iv6, ex_iv7, ex_ip1, ex_ip2, ex_ip3, ex_ip4, ex_ip5, ex_ip6, ex_ip7, ex_iu1, ex_iu2, ex_iu3, ex_iu4, ex_iu5, ex_iu6, ex_iu7, List.getD_cons_zero, List.getD_cons_succ, List.set_cons_zero, List.set_cons_succ, isI_i, isA_r, isD_d, isF_f, GInc, ko_v, ko_n, cat_i2, cat_r2, cat_n2, cat_f2, cat_d2, cat_l2, Nat.zero_le, Nat.zero_add, Nat.le_refl, Nat.reduceAdd, Nat.reduceLeDiff, ne_eq, not_false_eq_true, Nat.reduceEqDiff, sI_mk, wI_mk, wCp_mk, Option.toList, List.nil_append, List.cons_append, kd_20, kd_21, kd_22, kd_23, kd_24, kd_25, kd_26, kd_27, kd_28, kd_29, kd_30, kd_31, kd_32, kd_33, kd_34, kd_35, kd_36, kd_37, kd_38, kd_39, kd_40, kd_41, kd_42, kd_43, kd_44, kd_45, kd_46, kd_47, kd_48, kd_49, kd_50, kd_51, kd_52, kd_53, kd_54, jb221_2, B221_2]
      refine ih (x :: post) N L h e2 (fun N3 h3 => hq N3 ?_)
      rw [rv]
      have : noZ [x] = [x] := by simp [noZ, hz]
      rw [this, List.append_assoc]
      exact h3
theorem mde_ok (hG : StG r) (h : RowX N n B L ac pc mo nx) {b : Nat} (hb : b < 5) (hq : ∀ N', RowX N' n B (upf L b (noZ (L b))) ac pc mo nx → Q (.inl none) (pr f N', r)) : Cl (d + 4) 221 [vr 11 0, vi (ik b)] (pr f N, r) Q := by
  have o4 := fun Q => mb4 (d := d + 2) (f := f) (Q := Q) hG h hb
  rw [en221]
  simp only [B221_0, ex_iconst, ex_bipush, ex_sipush, ex_ldc, ex_ldcs, ex_fconst, ex_dconst, ex_iload_n, ex_iload, ex_aload_n, ex_aload, ex_dload_n, ex_dload, ex_fload, ex_istore_n, ex_istore, ex_fstore, ex_dstore_n, ex_dstore, ex_astore_n, ex_astore, ex_iinc, ex_ginc, ex_pop_i, ex_pop_r, ex_dup_i, ex_dup_r, ex_dup_x1, ex_dup2, ex_iadd, ex_isub, ex_imul, ex_iand, ex_ior, ex_ixor, ex_ishl, ex_ishr, ex_idiv, ex_irem, ex_ineg, ex_i2l, ex_i2c, ex_i2b, ex_i2f, ex_i2d, ex_f2d, ex_fdiv, ex_ddiv, ex_lcmp, ex_dcmp, ex_getI, ex_getR, ex_putI, ex_putB, ex_putZ, ex_putR, ex_getsI, ex_getsR, ex_iald, ex_cald, ex_iast, ex_cast, ex_aast, ex_alen, ex_copy1, ex_copy2, ex_throw, ex_goto, ex_fall, ex_if_eq, ex_ic_eq, ex_if_ne, ex_ic_ne, ex_if_lt, ex_ic_lt, ex_if_ge, ex_ic_ge, ex_if_gt, ex_ic_gt, ex_if_le, ex_ic_le, ex_switch, ex_ireturn, ex_ireturn_z, ex_ireturn_b, ex_ireturn_c, ex_areturn, ex_freturn, ex_dreturn, ex_return, ex_is0, ex_is1, ex_is2, ex_is3, ex_is4, ex_is5, ex_is6, ex_is7, ex_iv1, ex_iv2, ex_iv3, ex_iv4, ex_iv5, ex_iv6, ex_iv7, ex_ip1, ex_ip2, ex_ip3, ex_ip4, ex_ip5, ex_ip6, ex_ip7, ex_iu1, ex_iu2, ex_iu3, ex_iu4, ex_iu5, ex_iu6, ex_iu7, List.getD_cons_zero, List.getD_cons_succ, List.set_cons_zero, List.set_cons_succ, isI_i, isA_r, isD_d, isF_f, GInc, ko_v, ko_n, cat_i2, cat_r2, cat_n2, cat_f2, cat_d2, cat_l2, Nat.zero_le, Nat.zero_add, Nat.le_refl, Nat.reduceAdd, Nat.reduceLeDiff, ne_eq, not_false_eq_true, Nat.reduceEqDiff, sI_mk, wI_mk, wCp_mk, Option.toList, List.nil_append, List.cons_append, kd_20, kd_21, kd_22, kd_23, kd_24, kd_25, kd_26, kd_27, kd_28, kd_29, kd_30, kd_31, kd_32, kd_33, kd_34, kd_35, kd_36, kd_37, kd_38, kd_39, kd_40, kd_41, kd_42, kd_43, kd_44, kd_45, kd_46, kd_47, kd_48, kd_49, kd_50, kd_51, kd_52, kd_53, kd_54, o4, dec1]
  have := mde_lp (d := d) (f := f) (r := r) (Q := Q) hG hb (L b).reverse [] N L h (by simp) (fun N' h2 => hq N' (by simpa using h2))
  rw [List.length_reverse] at this
  exact this
/-- a sack laid among the others -/
def insR (y : Sk) : List Sk → List Sk
  | [] => [y]
  | x :: t => if kId y < kId x then x :: insR y t else y :: x :: t
theorem insR_c {y x : Sk} {t : List Sk} : insR y (x :: t) = if kId y < kId x then x :: insR y t else y :: x :: t := rfl
def insX (y : Sk) (xs : List Sk) : List Sk := (insR y xs.reverse).reverse
/-- five places moved up by five, k of them so far -/
def shU (N : Nat → Int32) (o k : Nat) : Nat → Int32 := fun i => if o ≤ i ∧ i < o + k then N (i - 5) else N i
theorem shU_s {N : Nat → Int32} {o k : Nat} (h5 : 5 ≤ o) (hk : k < 5) : updn (shU N o k) (o + k) (shU N o k (o + k - 5)) = shU N o (k + 1) := by
  funext i
  unfold updn shU
  by_cases hi : i = o + k
  · subst hi
    rw [if_pos rfl, if_neg (by omega), if_pos (by omega)]
  · rw [if_neg hi]
    by_cases h2 : o ≤ i ∧ i < o + k
    · rw [if_pos h2, if_pos (by omega)]
    · rw [if_neg h2, if_neg (by omega)]
theorem shU_0 {N : Nat → Int32} {o : Nat} : shU N o 0 = N := by
  funext i
  unfold shU
  rw [if_neg (by omega)]
theorem mly_l1 (hG : StG r) {b a : Nat} {u2 u3 u4 u5 u6 : AV} (hb : b < 5) (ha : a < 9) : ∀ (m k : Nat) (N0 : Nat → Int32), k + m = 5 → (Jx (d + 2) 203 2 [vr 11 0, vi (ik b), u2, u3, u4, u5, u6, vi (ik (a + 1)), vi (ik k)] [] (pr f (shU N0 (24 + 56 * b + 5 + 5 * (a + 1)) k), r) Q ↔ Jx (d + 2) 203 3 [vr 11 0, vi (ik b), u2, u3, u4, u5, u6, vi (ik (a + 1)), vi (ik 5)] [] (pr f (shU N0 (24 + 56 * b + 5 + 5 * (a + 1)) 5), r) Q) := by
  intro m
  induction m with
  | zero =>
    intro k N0 hk
    have hk2 : k = 5 := by omega
    subst hk2
    have hc : (5 : Int32) ≤ ik 5 := by decide
    refine jb203_2.trans ?_
    simp only [B203_2, ex_iconst, ex_bipush, ex_sipush, ex_ldc, ex_ldcs, ex_fconst, ex_dconst, ex_iload_n, ex_iload, ex_aload_n, ex_aload, ex_dload_n, ex_dload, ex_fload, ex_istore_n, ex_istore, ex_fstore, ex_dstore_n, ex_dstore, ex_astore_n, ex_astore, ex_iinc, ex_ginc, ex_pop_i, ex_pop_r, ex_dup_i, ex_dup_r, ex_dup_x1, ex_dup2, ex_iadd, ex_isub, ex_imul, ex_iand, ex_ior, ex_ixor, ex_ishl, ex_ishr, ex_idiv, ex_irem, ex_ineg, ex_i2l, ex_i2c, ex_i2b, ex_i2f, ex_i2d, ex_f2d, ex_fdiv, ex_ddiv, ex_lcmp, ex_dcmp, ex_getI, ex_getR, ex_putI, ex_putB, ex_putZ, ex_putR, ex_getsI, ex_getsR, ex_iald, ex_cald, ex_iast, ex_cast, ex_aast, ex_alen, ex_copy1, ex_copy2, ex_throw, ex_goto, ex_fall, ex_if_eq, ex_ic_eq, ex_if_ne, ex_ic_ne, ex_if_lt, ex_ic_lt, ex_if_ge, ex_ic_ge, ex_if_gt, ex_ic_gt, ex_if_le, ex_ic_le, ex_switch, ex_ireturn, ex_ireturn_z, ex_ireturn_b, ex_ireturn_c, ex_areturn, ex_freturn, ex_dreturn, ex_return, ex_is0, ex_is1, ex_is2, ex_is3, ex_is4, ex_is5, ex_is6, ex_is7, ex_iv1, ex_iv2, ex_iv3, ex_iv4, ex_iv5, ex_iv6, ex_iv7, ex_ip1, ex_ip2, ex_ip3, ex_ip4, ex_ip5, ex_ip6, ex_ip7, ex_iu1, ex_iu2, ex_iu3, ex_iu4, ex_iu5, ex_iu6, ex_iu7, List.getD_cons_zero, List.getD_cons_succ, List.set_cons_zero, List.set_cons_succ, isI_i, isA_r, isD_d, isF_f, GInc, ko_v, ko_n, cat_i2, cat_r2, cat_n2, cat_f2, cat_d2, cat_l2, Nat.zero_le, Nat.zero_add, Nat.le_refl, Nat.reduceAdd, Nat.reduceLeDiff, ne_eq, not_false_eq_true, Nat.reduceEqDiff, sI_mk, wI_mk, wCp_mk, Option.toList, List.nil_append, List.cons_append, kd_20, kd_21, kd_22, kd_23, kd_24, kd_25, kd_26, kd_27, kd_28, kd_29, kd_30, kd_31, kd_32, kd_33, kd_34, kd_35, kd_36, kd_37, kd_38, kd_39, kd_40, kd_41, kd_42, kd_43, kd_44, kd_45, kd_46, kd_47, kd_48, kd_49, kd_50, kd_51, kd_52, kd_53, kd_54, hc, if_true]
  | succ m ih =>
    intro k N0 hk
    have hc : ¬ (5 : Int32) ≤ ik k := by rw [show (5 : Int32) = ik 5 from rfl, ik_le (by omega) (by omega)]; omega
    have o1 := fun N Q => ms_ok (d := d) (f := f) (N := N) (Q := Q) hG hb (show a < 10 by omega) (show k < 5 by omega)
    have o2 := fun N v Q => mss_ok (d := d) (f := f) (N := N) (Q := Q) (v := v) hG hb (show a + 1 < 10 by omega) (show k < 5 by omega)
    have ih2 := ih (k + 1) N0 (by omega)
    have st := shU_s (N := N0) (o := 24 + 56 * b + 5 + 5 * (a + 1)) (k := k) (by omega) (by omega)
    rw [show 24 + 56 * b + 5 + 5 * (a + 1) + k - 5 = 24 + 56 * b + 5 + 5 * a + k by omega] at st
    refine jb203_2.trans ?_
    simp only [B203_2, ex_iconst, ex_bipush, ex_sipush, ex_ldc, ex_ldcs, ex_fconst, ex_dconst, ex_iload_n, ex_iload, ex_aload_n, ex_aload, ex_dload_n, ex_dload, ex_fload, ex_istore_n, ex_istore, ex_fstore, ex_dstore_n, ex_dstore, ex_astore_n, ex_astore, ex_iinc, ex_ginc, ex_pop_i, ex_pop_r, ex_dup_i, ex_dup_r, ex_dup_x1, ex_dup2, ex_iadd, ex_isub, ex_imul, ex_iand, ex_ior, ex_ixor, ex_ishl, ex_ishr, ex_idiv, ex_irem, ex_ineg, ex_i2l, ex_i2c, ex_i2b, ex_i2f, ex_i2d, ex_f2d, ex_fdiv, ex_ddiv, ex_lcmp, ex_dcmp, ex_getI, ex_getR, ex_putI, ex_putB, ex_putZ, ex_putR, ex_getsI, ex_getsR, ex_iald, ex_cald, ex_iast, ex_cast, ex_aast, ex_alen, ex_copy1, ex_copy2, ex_throw, ex_goto, ex_fall, ex_if_eq, ex_ic_eq, ex_if_ne, ex_ic_ne, ex_if_lt, ex_ic_lt, ex_if_ge, ex_ic_ge, ex_if_gt, ex_ic_gt, ex_if_le, ex_ic_le, ex_switch, ex_ireturn, ex_ireturn_z, ex_ireturn_b, ex_ireturn_c, ex_areturn, ex_freturn, ex_dreturn, ex_return, ex_is0, ex_is1, ex_is2, ex_is3, ex_is4, ex_is5, ex_is6, ex_is7, ex_iv1, ex_iv2, ex_iv3, ex_iv4, ex_iv5, ex_iv6, ex_iv7, ex_ip1, ex_ip2, ex_ip3, ex_ip4, ex_ip5, ex_ip6, ex_ip7, ex_iu1, ex_iu2, ex_iu3, ex_iu4, ex_iu5, ex_iu6, ex_iu7, List.getD_cons_zero, List.getD_cons_succ, List.set_cons_zero, List.set_cons_succ, isI_i, isA_r, isD_d, isF_f, GInc, ko_v, ko_n, cat_i2, cat_r2, cat_n2, cat_f2, cat_d2, cat_l2, Nat.zero_le, Nat.zero_add, Nat.le_refl, Nat.reduceAdd, Nat.reduceLeDiff, ne_eq, not_false_eq_true, Nat.reduceEqDiff, sI_mk, wI_mk, wCp_mk, Option.toList, List.nil_append, List.cons_append, kd_20, kd_21, kd_22, kd_23, kd_24, kd_25, kd_26, kd_27, kd_28, kd_29, kd_30, kd_31, kd_32, kd_33, kd_34, kd_35, kd_36, kd_37, kd_38, kd_39, kd_40, kd_41, kd_42, kd_43, kd_44, kd_45, kd_46, kd_47, kd_48, kd_49, kd_50, kd_51, kd_52, kd_53, kd_54, hc, if_false, dec1, ik_dec, o1, o2, st, ik_succ]
    exact ih2
/-- the sacks lie with a hole at the place of its length between -/
def Hole (N : Nat → Int32) (b : Nat) (pre post : List Sk) : Prop := (∀ j x, pre[j]? = some x → AtM N (24 + 56 * b + 5 + 5 * j) x) ∧ ∀ j x, post[j]? = some x → AtM N (24 + 56 * b + 5 + 5 * (pre.length + 1 + j)) x
theorem mly_lp (hG : StG r) {b nn : Nat} (hb : b < 5) {y : Sk} (hn : nn ≤ 9) : ∀ (t post : List Sk) (N1 : Nat → Int32) (u8 : AV), t.length + post.length = nn → Hole N1 b t.reverse post →
    (∀ (N2 : Nat → Int32) (t2 post2 : List Sk) (u9 : AV), t2.length + post2.length = nn → Hole N2 b t2.reverse post2 → (insR y t).reverse ++ post = t2.reverse ++ y :: post2 → (∀ i, ¬ (24 + 56 * b + 5 ≤ i ∧ i < 24 + 56 * b + 55) → N2 i = N1 i) → Jx (d + 2) 203 4 [vr 11 0, vi (ik b), vi (kId y), vi (kW y), vi (kP y), vi (kG y), vi (kT y), vi (ik t2.length), u9] [] (pr f N2, r) Q) →
    Jx (d + 2) 203 1 [vr 11 0, vi (ik b), vi (kId y), vi (kW y), vi (kP y), vi (kG y), vi (kT y), vi (ik t.length), u8] [] (pr f N1, r) Q := by
  intro t
  induction t with
  | nil =>
    intro post N1 u8 hl h hq
    have hc : ik 0 ≤ 0 := by decide
    rw [jb203_1]
    simp only [B203_1, List.length_nil, ex_iconst, ex_bipush, ex_sipush, ex_ldc, ex_ldcs, ex_fconst, ex_dconst, ex_iload_n, ex_iload, ex_aload_n, ex_aload, ex_dload_n, ex_dload, ex_fload, ex_istore_n, ex_istore, ex_fstore, ex_dstore_n, ex_dstore, ex_astore_n, ex_astore, ex_iinc, ex_ginc, ex_pop_i, ex_pop_r, ex_dup_i, ex_dup_r, ex_dup_x1, ex_dup2, ex_iadd, ex_isub, ex_imul, ex_iand, ex_ior, ex_ixor, ex_ishl, ex_ishr, ex_idiv, ex_irem, ex_ineg, ex_i2l, ex_i2c, ex_i2b, ex_i2f, ex_i2d, ex_f2d, ex_fdiv, ex_ddiv, ex_lcmp, ex_dcmp, ex_getI, ex_getR, ex_putI, ex_putB, ex_putZ, ex_putR, ex_getsI, ex_getsR, ex_iald, ex_cald, ex_iast, ex_cast, ex_aast, ex_alen, ex_copy1, ex_copy2, ex_throw, ex_goto, ex_fall, ex_if_eq, ex_ic_eq, ex_if_ne, ex_ic_ne, ex_if_lt, ex_ic_lt, ex_if_ge, ex_ic_ge, ex_if_gt, ex_ic_gt, ex_if_le, ex_ic_le, ex_switch, ex_ireturn, ex_ireturn_z, ex_ireturn_b, ex_ireturn_c, ex_areturn, ex_freturn, ex_dreturn, ex_return, ex_is0, ex_is1, ex_is2, ex_is3, ex_is4, ex_is5, ex_is6, ex_is7, ex_iv1, ex_iv2, ex_iv3, ex_iv4, ex_iv5, ex_iv6, ex_iv7, ex_ip1, ex_ip2, ex_ip3, ex_ip4, ex_ip5, ex_ip6, ex_ip7, ex_iu1, ex_iu2, ex_iu3, ex_iu4, ex_iu5, ex_iu6, ex_iu7, List.getD_cons_zero, List.getD_cons_succ, List.set_cons_zero, List.set_cons_succ, isI_i, isA_r, isD_d, isF_f, GInc, ko_v, ko_n, cat_i2, cat_r2, cat_n2, cat_f2, cat_d2, cat_l2, Nat.zero_le, Nat.zero_add, Nat.le_refl, Nat.reduceAdd, Nat.reduceLeDiff, ne_eq, not_false_eq_true, Nat.reduceEqDiff, sI_mk, wI_mk, wCp_mk, Option.toList, List.nil_append, List.cons_append, kd_20, kd_21, kd_22, kd_23, kd_24, kd_25, kd_26, kd_27, kd_28, kd_29, kd_30, kd_31, kd_32, kd_33, kd_34, kd_35, kd_36, kd_37, kd_38, kd_39, kd_40, kd_41, kd_42, kd_43, kd_44, kd_45, kd_46, kd_47, kd_48, kd_49, kd_50, kd_51, kd_52, kd_53, kd_54, hc, if_true]
    exact hq N1 [] post u8 hl h (by simp [insR]) (fun i _ => rfl)
  | cons x t ih =>
    intro post N1 u8 hl h hq
    simp only [List.length_cons] at hl
    have hp : ¬ ik (t.length + 1) ≤ 0 := by rw [show (0 : Int32) = ik 0 from rfl, ik_le (by omega) (by omega)]; omega
    have hx0 : (x :: t).reverse[t.length]? = some x := by
      rw [List.reverse_cons]
      have := mid_at (pre := t.reverse) (post := []) (x := x)
      rwa [List.length_reverse] at this
    have hx := h.1 _ _ hx0
    have o1 : ∀ Q, Cl (d + 2) 201 [vr 11 0, vi (ik b), vi (ik t.length), vi 0] (pr f N1, r) Q ↔ Q (.inl (some (vi (kId x)))) (pr f N1, r) := fun Q => (ms_ok hG hb (show t.length < 10 by omega) (c := 0) (by decide)).trans (by rw [Nat.add_zero, hx.1])
    have l1 := mly_l1 (d := d) (f := f) (r := r) (Q := Q) (u2 := vi (kId y)) (u3 := vi (kW y)) (u4 := vi (kP y)) (u5 := vi (kG y)) (u6 := vi (kT y)) hG hb (show t.length < 9 by omega) 5 0 N1 rfl
    rw [shU_0] at l1
    rw [jb203_1]
    simp only [B203_1, List.length_cons, ex_iconst, ex_bipush, ex_sipush, ex_ldc, ex_ldcs, ex_fconst, ex_dconst, ex_iload_n, ex_iload, ex_aload_n, ex_aload, ex_dload_n, ex_dload, ex_fload, ex_istore_n, ex_istore, ex_fstore, ex_dstore_n, ex_dstore, ex_astore_n, ex_astore, ex_iinc, ex_ginc, ex_pop_i, ex_pop_r, ex_dup_i, ex_dup_r, ex_dup_x1, ex_dup2, ex_iadd, ex_isub, ex_imul, ex_iand, ex_ior, ex_ixor, ex_ishl, ex_ishr, ex_idiv, ex_irem, ex_ineg, ex_i2l, ex_i2c, ex_i2b, ex_i2f, ex_i2d, ex_f2d, ex_fdiv, ex_ddiv, ex_lcmp, ex_dcmp, ex_getI, ex_getR, ex_putI, ex_putB, ex_putZ, ex_putR, ex_getsI, ex_getsR, ex_iald, ex_cald, ex_iast, ex_cast, ex_aast, ex_alen, ex_copy1, ex_copy2, ex_throw, ex_goto, ex_fall, ex_if_eq, ex_ic_eq, ex_if_ne, ex_ic_ne, ex_if_lt, ex_ic_lt, ex_if_ge, ex_ic_ge, ex_if_gt, ex_ic_gt, ex_if_le, ex_ic_le, ex_switch, ex_ireturn, ex_ireturn_z, ex_ireturn_b, ex_ireturn_c, ex_areturn, ex_freturn, ex_dreturn, ex_return, ex_is0, ex_is1, ex_is2, ex_is3, ex_is4, ex_is5, ex_is6, ex_is7, ex_iv1, ex_iv2, ex_iv3, ex_iv4, ex_iv5, ex_iv6, ex_iv7, ex_ip1, ex_ip2, ex_ip3, ex_ip4, ex_ip5, ex_ip6, ex_ip7, ex_iu1, ex_iu2, ex_iu3, ex_iu4, ex_iu5, ex_iu6, ex_iu7, List.getD_cons_zero, List.getD_cons_succ, List.set_cons_zero, List.set_cons_succ, isI_i, isA_r, isD_d, isF_f, GInc, ko_v, ko_n, cat_i2, cat_r2, cat_n2, cat_f2, cat_d2, cat_l2, Nat.zero_le, Nat.zero_add, Nat.le_refl, Nat.reduceAdd, Nat.reduceLeDiff, ne_eq, not_false_eq_true, Nat.reduceEqDiff, sI_mk, wI_mk, wCp_mk, Option.toList, List.nil_append, List.cons_append, kd_20, kd_21, kd_22, kd_23, kd_24, kd_25, kd_26, kd_27, kd_28, kd_29, kd_30, kd_31, kd_32, kd_33, kd_34, kd_35, kd_36, kd_37, kd_38, kd_39, kd_40, kd_41, kd_42, kd_43, kd_44, kd_45, kd_46, kd_47, kd_48, kd_49, kd_50, kd_51, kd_52, kd_53, kd_54, hp, if_false, dec1, ik_dec, o1]
    by_cases hlt : kId y < kId x
    · have hle : ¬ kId x ≤ kId y := le_lt_i.mpr hlt
      simp only [hle, if_false, ex_iconst, ex_bipush, ex_sipush, ex_ldc, ex_ldcs, ex_fconst, ex_dconst, ex_iload_n, ex_iload, ex_aload_n, ex_aload, ex_dload_n, ex_dload, ex_fload, ex_istore_n, ex_istore, ex_fstore, ex_dstore_n, ex_dstore, ex_astore_n, ex_astore, ex_iinc, ex_ginc, ex_pop_i, ex_pop_r, ex_dup_i, ex_dup_r, ex_dup_x1, ex_dup2, ex_iadd, ex_isub, ex_imul, ex_iand, ex_ior, ex_ixor, ex_ishl, ex_ishr, ex_idiv, ex_irem, ex_ineg, ex_i2l, ex_i2c, ex_i2b, ex_i2f, ex_i2d, ex_f2d, ex_fdiv, ex_ddiv, ex_lcmp, ex_dcmp, ex_getI, ex_getR, ex_putI, ex_putB, ex_putZ, ex_putR, ex_getsI, ex_getsR, ex_iald, ex_cald, ex_iast, ex_cast, ex_aast, ex_alen, ex_copy1, ex_copy2, ex_throw, ex_goto, ex_fall, ex_if_eq, ex_ic_eq, ex_if_ne, ex_ic_ne, ex_if_lt, ex_ic_lt, ex_if_ge, ex_ic_ge, ex_if_gt, ex_ic_gt, ex_if_le, ex_ic_le, ex_switch, ex_ireturn, ex_ireturn_z, ex_ireturn_b, ex_ireturn_c, ex_areturn, ex_freturn, ex_dreturn, ex_return, ex_is0, ex_is1, ex_is2, ex_is3, ex_is4, ex_is5, ex_is6, ex_is7, ex_iv1, ex_iv2, ex_iv3, ex_iv4, ex_iv5, ex_iv6, ex_iv7, ex_ip1, ex_ip2, ex_ip3, ex_ip4, ex_ip5, ex_ip6, ex_ip7, ex_iu1, ex_iu2, ex_iu3, ex_iu4, ex_iu5, ex_iu6, ex_iu7, List.getD_cons_zero, List.getD_cons_succ, List.set_cons_zero, List.set_cons_succ, isI_i, isA_r, isD_d, isF_f, GInc, ko_v, ko_n, cat_i2, cat_r2, cat_n2, cat_f2, cat_d2, cat_l2, Nat.zero_le, Nat.zero_add, Nat.le_refl, Nat.reduceAdd, Nat.reduceLeDiff, ne_eq, not_false_eq_true, Nat.reduceEqDiff, sI_mk, wI_mk, wCp_mk, Option.toList, List.nil_append, List.cons_append, kd_20, kd_21, kd_22, kd_23, kd_24, kd_25, kd_26, kd_27, kd_28, kd_29, kd_30, kd_31, kd_32, kd_33, kd_34, kd_35, kd_36, kd_37, kd_38, kd_39, kd_40, kd_41, kd_42, kd_43, kd_44, kd_45, kd_46, kd_47, kd_48, kd_49, kd_50, kd_51, kd_52, kd_53, kd_54]
      refine l1.mpr ?_
      rw [jb203_3]
      simp only [B203_3, ex_iconst, ex_bipush, ex_sipush, ex_ldc, ex_ldcs, ex_fconst, ex_dconst, ex_iload_n, ex_iload, ex_aload_n, ex_aload, ex_dload_n, ex_dload, ex_fload, ex_istore_n, ex_istore, ex_fstore, ex_dstore_n, ex_dstore, ex_astore_n, ex_astore, ex_iinc, ex_ginc, ex_pop_i, ex_pop_r, ex_dup_i, ex_dup_r, ex_dup_x1, ex_dup2, ex_iadd, ex_isub, ex_imul, ex_iand, ex_ior, ex_ixor, ex_ishl, ex_ishr, ex_idiv, ex_irem, ex_ineg, ex_i2l, ex_i2c, ex_i2b, ex_i2f, ex_i2d, ex_f2d, ex_fdiv, ex_ddiv, ex_lcmp, ex_dcmp, ex_getI, ex_getR, ex_putI, ex_putB, ex_putZ, ex_putR, ex_getsI, ex_getsR, ex_iald, ex_cald, ex_iast, ex_cast, ex_aast, ex_alen, ex_copy1, ex_copy2, ex_throw, ex_goto, ex_fall, ex_if_eq, ex_ic_eq, ex_if_ne, ex_ic_ne, ex_if_lt, ex_ic_lt, ex_if_ge, ex_ic_ge, ex_if_gt, ex_ic_gt, ex_if_le, ex_ic_le, ex_switch, ex_ireturn, ex_ireturn_z, ex_ireturn_b, ex_ireturn_c, ex_areturn, ex_freturn, ex_dreturn, ex_return, ex_is0, ex_is1, ex_is2, ex_is3, ex_is4, ex_is5, ex_is6, ex_is7, ex_iv1, ex_iv2, ex_iv3, ex_iv4, ex_iv5, ex_iv6, ex_iv7, ex_ip1, ex_ip2, ex_ip3, ex_ip4, ex_ip5, ex_ip6, ex_ip7, ex_iu1, ex_iu2, ex_iu3, ex_iu4, ex_iu5, ex_iu6, ex_iu7, List.getD_cons_zero, List.getD_cons_succ, List.set_cons_zero, List.set_cons_succ, isI_i, isA_r, isD_d, isF_f, GInc, ko_v, ko_n, cat_i2, cat_r2, cat_n2, cat_f2, cat_d2, cat_l2, Nat.zero_le, Nat.zero_add, Nat.le_refl, Nat.reduceAdd, Nat.reduceLeDiff, ne_eq, not_false_eq_true, Nat.reduceEqDiff, sI_mk, wI_mk, wCp_mk, Option.toList, List.nil_append, List.cons_append, kd_20, kd_21, kd_22, kd_23, kd_24, kd_25, kd_26, kd_27, kd_28, kd_29, kd_30, kd_31, kd_32, kd_33, kd_34, kd_35, kd_36, kd_37, kd_38, kd_39, kd_40, kd_41, kd_42, kd_43, kd_44, kd_45, kd_46, kd_47, kd_48, kd_49, kd_50, kd_51, kd_52, kd_53, kd_54, ik_dec]
      have hole : Hole (shU N1 (24 + 56 * b + 5 + 5 * (t.length + 1)) 5) b t.reverse (x :: post) := by
        refine ⟨fun j z hz => ?_, fun j z hz => ?_⟩
        · have hlt2 := (List.getElem?_eq_some_iff.mp hz).1
          rw [List.length_reverse] at hlt2
          refine (h.1 j z ?_).cg (fun c hc => ?_)
          · rw [List.reverse_cons, List.getElem?_append_left (by simpa using hlt2)]
            exact hz
          · unfold shU
            rw [if_neg (by omega)]
        · rw [List.length_reverse]
          cases j with
          | zero =>
            have e0 : x = z := by simpa using hz
            subst e0
            have sh : ∀ c, c < 5 → shU N1 (24 + 56 * b + 5 + 5 * (t.length + 1)) 5 (24 + 56 * b + 5 + 5 * (t.length + 1 + 0) + c) = N1 (24 + 56 * b + 5 + 5 * t.length + c) := fun c hc => by
              unfold shU
              rw [if_pos (by omega)]
              exact congrArg N1 (by omega)
            exact ⟨(sh 0 (by decide)).trans hx.1, (sh 1 (by decide)).trans hx.2.1, (sh 2 (by decide)).trans hx.2.2.1, (sh 3 (by decide)).trans hx.2.2.2.1, (sh 4 (by decide)).trans hx.2.2.2.2⟩
          | succ j =>
            have := h.2 j z (by simpa using hz)
            simp only [List.length_reverse, List.length_cons] at this
            rw [show t.length + 1 + 1 + j = t.length + 1 + (j + 1) by omega] at this
            refine this.cg (fun c hc => ?_)
            unfold shU
            rw [if_neg (by omega)]
      refine ih (x :: post) _ _ (by simp; omega) hole (fun N2 t2 post2 u9 q1 q2 q3 q4 => hq N2 t2 post2 u9 q1 q2 ?_ (fun i hi => (q4 i hi).trans ?_))
      · rw [← q3]
        rw [insR_c, if_pos hlt, List.reverse_cons, List.append_assoc]
        rfl
      · unfold shU
        rw [if_neg (by omega)]
    · have hle : kId x ≤ kId y := lt_le_i.mp hlt
      simp only [hle, if_true]
      refine hq N1 (x :: t) post u8 (by simp; omega) h ?_ (fun i _ => rfl)
      rw [insR_c, if_neg hlt, List.reverse_cons, List.append_assoc]
      rfl
theorem mly_ok (hG : StG r) (h : RowX N n B L ac pc mo nx) {b : Nat} (hb : b < 5) {y : Sk} (hl : (L b).length ≤ 9) (hq : ∀ N', RowX N' n B (upf L b (insX y (L b))) ac pc mo nx → Q (.inl none) (pr f N', r)) : Cl (d + 3) 203 [vr 11 0, vi (ik b), vi (kId y), vi (kW y), vi (kP y), vi (kG y), vi (kT y)] (pr f N, r) Q := by
  have o4 := fun Q => mb4 (d := d + 1) (f := f) (Q := Q) hG h hb
  have hx := h.2.2.2.2.2.2.2 b hb
  rw [en203]
  simp only [B203_0, ex_iconst, ex_bipush, ex_sipush, ex_ldc, ex_ldcs, ex_fconst, ex_dconst, ex_iload_n, ex_iload, ex_aload_n, ex_aload, ex_dload_n, ex_dload, ex_fload, ex_istore_n, ex_istore, ex_fstore, ex_dstore_n, ex_dstore, ex_astore_n, ex_astore, ex_iinc, ex_ginc, ex_pop_i, ex_pop_r, ex_dup_i, ex_dup_r, ex_dup_x1, ex_dup2, ex_iadd, ex_isub, ex_imul, ex_iand, ex_ior, ex_ixor, ex_ishl, ex_ishr, ex_idiv, ex_irem, ex_ineg, ex_i2l, ex_i2c, ex_i2b, ex_i2f, ex_i2d, ex_f2d, ex_fdiv, ex_ddiv, ex_lcmp, ex_dcmp, ex_getI, ex_getR, ex_putI, ex_putB, ex_putZ, ex_putR, ex_getsI, ex_getsR, ex_iald, ex_cald, ex_iast, ex_cast, ex_aast, ex_alen, ex_copy1, ex_copy2, ex_throw, ex_goto, ex_fall, ex_if_eq, ex_ic_eq, ex_if_ne, ex_ic_ne, ex_if_lt, ex_ic_lt, ex_if_ge, ex_ic_ge, ex_if_gt, ex_ic_gt, ex_if_le, ex_ic_le, ex_switch, ex_ireturn, ex_ireturn_z, ex_ireturn_b, ex_ireturn_c, ex_areturn, ex_freturn, ex_dreturn, ex_return, ex_is0, ex_is1, ex_is2, ex_is3, ex_is4, ex_is5, ex_is6, ex_is7, ex_iv1, ex_iv2, ex_iv3, ex_iv4, ex_iv5, ex_iv6, ex_iv7, ex_ip1, ex_ip2, ex_ip3, ex_ip4, ex_ip5, ex_ip6, ex_ip7, ex_iu1, ex_iu2, ex_iu3, ex_iu4, ex_iu5, ex_iu6, ex_iu7, List.getD_cons_zero, List.getD_cons_succ, List.set_cons_zero, List.set_cons_succ, isI_i, isA_r, isD_d, isF_f, GInc, ko_v, ko_n, cat_i2, cat_r2, cat_n2, cat_f2, cat_d2, cat_l2, Nat.zero_le, Nat.zero_add, Nat.le_refl, Nat.reduceAdd, Nat.reduceLeDiff, ne_eq, not_false_eq_true, Nat.reduceEqDiff, sI_mk, wI_mk, wCp_mk, Option.toList, List.nil_append, List.cons_append, kd_20, kd_21, kd_22, kd_23, kd_24, kd_25, kd_26, kd_27, kd_28, kd_29, kd_30, kd_31, kd_32, kd_33, kd_34, kd_35, kd_36, kd_37, kd_38, kd_39, kd_40, kd_41, kd_42, kd_43, kd_44, kd_45, kd_46, kd_47, kd_48, kd_49, kd_50, kd_51, kd_52, kd_53, kd_54, o4]
  have lp := mly_lp (d := d) (f := f) (r := r) (Q := Q) hG hb (y := y) hl (L b).reverse [] N unk (by simp) ⟨fun j x hj => hx.2.2 j x (by simpa using hj), fun j x hj => by simp at hj⟩
  rw [List.length_reverse] at lp
  refine lp (fun N2 t2 post2 u9 q1 q2 q3 q4 => ?_)
  have b4 : ∀ (N : Nat → Int32) (v : Int32) Q, N (24 + 56 * b + 4) = v → (Cl (d + 2) 196 [vr 11 0, vi (ik b), vi 4] (pr f N, r) Q ↔ Q (.inl (some (vi v))) (pr f N, r)) := fun N v Q hv => (mb_ok hG hb (o := 4) (by decide)).trans (by rw [hv])
  have s0 := fun N v Q => mss0 (d := d) (f := f) (N := N) (Q := Q) (v := v) hG hb (show t2.length < 10 by omega)
  have s1 := fun N v Q => mss1 (d := d) (f := f) (N := N) (Q := Q) (v := v) hG hb (show t2.length < 10 by omega)
  have s2 := fun N v Q => mss2 (d := d) (f := f) (N := N) (Q := Q) (v := v) hG hb (show t2.length < 10 by omega)
  have s3 := fun N v Q => mss3 (d := d) (f := f) (N := N) (Q := Q) (v := v) hG hb (show t2.length < 10 by omega)
  have s4 := fun N v Q => mss4 (d := d) (f := f) (N := N) (Q := Q) (v := v) hG hb (show t2.length < 10 by omega)
  have o5 := fun N v Q => mset4 (d := d + 1) (f := f) (N := N) (Q := Q) (v := v) hG hb
  have ec := fun Q => b4 (updn (updn (updn (updn (updn N2 (24 + 56 * b + 5 + 5 * t2.length) (kId y)) (24 + 56 * b + 5 + 5 * t2.length + 1) (kW y)) (24 + 56 * b + 5 + 5 * t2.length + 2) (kP y)) (24 + 56 * b + 5 + 5 * t2.length + 3) (kG y)) (24 + 56 * b + 5 + 5 * t2.length + 4) (kT y)) (ik (L b).length) Q (by
    rw [updn_ne (by omega), updn_ne (by omega), updn_ne (by omega), updn_ne (by omega), updn_ne (by omega), q4 _ (by omega)]
    exact hx.1)
  rw [jb203_4]
  simp only [B203_4, ex_iconst, ex_bipush, ex_sipush, ex_ldc, ex_ldcs, ex_fconst, ex_dconst, ex_iload_n, ex_iload, ex_aload_n, ex_aload, ex_dload_n, ex_dload, ex_fload, ex_istore_n, ex_istore, ex_fstore, ex_dstore_n, ex_dstore, ex_astore_n, ex_astore, ex_iinc, ex_ginc, ex_pop_i, ex_pop_r, ex_dup_i, ex_dup_r, ex_dup_x1, ex_dup2, ex_iadd, ex_isub, ex_imul, ex_iand, ex_ior, ex_ixor, ex_ishl, ex_ishr, ex_idiv, ex_irem, ex_ineg, ex_i2l, ex_i2c, ex_i2b, ex_i2f, ex_i2d, ex_f2d, ex_fdiv, ex_ddiv, ex_lcmp, ex_dcmp, ex_getI, ex_getR, ex_putI, ex_putB, ex_putZ, ex_putR, ex_getsI, ex_getsR, ex_iald, ex_cald, ex_iast, ex_cast, ex_aast, ex_alen, ex_copy1, ex_copy2, ex_throw, ex_goto, ex_fall, ex_if_eq, ex_ic_eq, ex_if_ne, ex_ic_ne, ex_if_lt, ex_ic_lt, ex_if_ge, ex_ic_ge, ex_if_gt, ex_ic_gt, ex_if_le, ex_ic_le, ex_switch, ex_ireturn, ex_ireturn_z, ex_ireturn_b, ex_ireturn_c, ex_areturn, ex_freturn, ex_dreturn, ex_return, ex_is0, ex_is1, ex_is2, ex_is3, ex_is4, ex_is5, ex_is6, ex_is7, ex_iv1, ex_iv2, ex_iv3, ex_iv4, ex_iv5, ex_iv6, ex_iv7, ex_ip1, ex_ip2, ex_ip3, ex_ip4, ex_ip5, ex_ip6, ex_ip7, ex_iu1, ex_iu2, ex_iu3, ex_iu4, ex_iu5, ex_iu6, ex_iu7, List.getD_cons_zero, List.getD_cons_succ, List.set_cons_zero, List.set_cons_succ, isI_i, isA_r, isD_d, isF_f, GInc, ko_v, ko_n, cat_i2, cat_r2, cat_n2, cat_f2, cat_d2, cat_l2, Nat.zero_le, Nat.zero_add, Nat.le_refl, Nat.reduceAdd, Nat.reduceLeDiff, ne_eq, not_false_eq_true, Nat.reduceEqDiff, sI_mk, wI_mk, wCp_mk, Option.toList, List.nil_append, List.cons_append, kd_20, kd_21, kd_22, kd_23, kd_24, kd_25, kd_26, kd_27, kd_28, kd_29, kd_30, kd_31, kd_32, kd_33, kd_34, kd_35, kd_36, kd_37, kd_38, kd_39, kd_40, kd_41, kd_42, kd_43, kd_44, kd_45, kd_46, kd_47, kd_48, kd_49, kd_50, kd_51, kd_52, kd_53, kd_54, s0, s1, s2, s3, s4, ec, o5, ik_succ]
  have ei : insX y (L b) = t2.reverse ++ y :: post2 := by
    unfold insX
    rw [← q3, List.append_nil]
  have el : (insX y (L b)).length = (L b).length + 1 := by rw [ei, List.length_append, List.length_cons, List.length_reverse]; omega
  refine hq _ (h.lay hb (fun i hi => ?_) ⟨?_, by omega, fun j z hz => ?_⟩)
  · rw [updn_ne (by omega), updn_ne (by omega), updn_ne (by omega), updn_ne (by omega), updn_ne (by omega), updn_ne (by omega)]
    exact q4 i (by omega)
  · rw [updn_eq, el]
  · rw [ei] at hz
    by_cases hj : j = t2.length
    · have hy : y = z := by
        rw [List.getElem?_append_right (by simp; omega), List.length_reverse, hj, Nat.sub_self] at hz
        simpa using hz
      subst hy
      subst hj
      refine ⟨?_, ?_, ?_, ?_, ?_⟩
      · rw [updn_ne (by omega), updn_ne (by omega), updn_ne (by omega), updn_ne (by omega), updn_ne (by omega), updn_eq]
      · rw [updn_ne (by omega), updn_ne (by omega), updn_ne (by omega), updn_ne (by omega), updn_eq]
      · rw [updn_ne (by omega), updn_ne (by omega), updn_ne (by omega), updn_eq]
      · rw [updn_ne (by omega), updn_ne (by omega), updn_eq]
      · rw [updn_ne (by omega), updn_eq]
    · have hA : AtM N2 (24 + 56 * b + 5 + 5 * j) z := by
        by_cases hlt : j < t2.length
        · rw [List.getElem?_append_left (by simpa using hlt)] at hz
          exact q2.1 j z hz
        · rw [List.getElem?_append_right (by simp; omega), List.length_reverse, show j - t2.length = (j - t2.length - 1) + 1 by omega] at hz
          have := q2.2 (j - t2.length - 1) z (by simpa using hz)
          rw [List.length_reverse, show t2.length + 1 + (j - t2.length - 1) = j by omega] at this
          exact this
      refine hA.cg (fun c hc => ?_)
      rw [updn_ne (by omega), updn_ne (by omega), updn_ne (by omega), updn_ne (by omega), updn_ne (by omega), updn_ne (by omega)]
end Mops
