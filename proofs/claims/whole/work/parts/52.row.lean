/-! the model's row: how the data lie in it, how it is read and written -/
/-- the cells with the row N as the model's now -/
def pr (f : SF) (N : Nat → Int32) : SF := fun t i k => if t = 43 ∧ i = 0 then N k else f t i k
theorem pr_43 {f : SF} {N : Nat → Int32} {k : Nat} : pr f N 43 0 k = N k := rfl
theorem pr_ne {f : SF} {N : Nat → Int32} {t i k : Nat} (h : t ≠ 43) : pr f N t i k = f t i k := by
  unfold pr
  rw [if_neg (fun z => h z.1)]
theorem pr_11 {f : SF} {N : Nat → Int32} {k : Nat} : pr f N 11 0 k = f 11 0 k := pr_ne (by decide)
theorem pr_self {f : SF} : pr f (f 43 0) = f := by
  funext t i k
  unfold pr
  split
  · rename_i h; rw [h.1, h.2]
  · rfl
theorem pr_up {f : SF} {N : Nat → Int32} {k : Nat} {v : Int32} : up3 (pr f N) 43 0 k v = pr f (updn N k v) := by
  funext a b j
  unfold up3 pr updn
  by_cases h : a = 43 ∧ b = 0
  · obtain ⟨rfl, rfl⟩ := h
    by_cases hj : j = k <;> simp [hj]
  · rw [if_neg h, if_neg h, if_neg (fun z => h ⟨z.1, z.2.1⟩)]
theorem pr_up1 {f : SF} {N : Nat → Int32} {t k : Nat} {v : Int32} (h : t ≠ 43) : up3 (pr f N) t 0 k v = pr (up3 f t 0 k v) N := by
  funext a b j
  unfold up3 pr
  by_cases h1 : a = 43 ∧ b = 0
  · obtain ⟨rfl, rfl⟩ := h1
    rw [if_neg (fun z => h z.1.symm), if_pos ⟨rfl, rfl⟩, if_pos ⟨rfl, rfl⟩]
  · rw [if_neg h1, if_neg h1]
theorem pr_u11 {f : SF} {N : Nat → Int32} {k : Nat} {v : Int32} : up3 (pr f N) 11 0 k v = pr (up3 f 11 0 k v) N := pr_up1 (by decide)
theorem pr_u47 {f : SF} {N : Nat → Int32} {k : Nat} {v : Int32} : up3 (pr f N) 47 0 k v = pr (up3 f 47 0 k v) N := pr_up1 (by decide)
theorem updn_eq {a : Nat → Int32} {j : Nat} {v : Int32} : updn a j v j = v := by unfold updn; rw [if_pos rfl]
theorem updn_ne {a : Nat → Int32} {j k : Nat} {v : Int32} (h : k ≠ j) : updn a j v k = a k := by unfold updn; rw [if_neg h]
/-- the sack x at the place o of the row -/
def AtM (N : Nat → Int32) (o : Nat) (x : Sk) : Prop := N o = kId x ∧ N (o + 1) = kW x ∧ N (o + 2) = kP x ∧ N (o + 3) = kG x ∧ N (o + 4) = kT x
/-- the sacks xs of the bin b -/
def LayX (N : Nat → Int32) (b : Nat) (xs : List Sk) : Prop := N (24 + 56 * b + 4) = ik xs.length ∧ xs.length ≤ 10 ∧ ∀ j x, xs[j]? = some x → AtM N (24 + 56 * b + 5 + 5 * j) x
def AtBn (N : Nat → Int32) (b : Nat) (q : Bn) : Prop := N (24 + 56 * b) = bC q ∧ N (24 + 56 * b + 1) = bM q ∧ N (24 + 56 * b + 2) = bI q ∧ N (24 + 56 * b + 3) = bT q
def RowX (N : Nat → Int32) (n : Nat) (B : Nat → Bn) (L : Nat → List Sk) (ac pc : Nat → Int32) (mo nx : Int32) : Prop :=
  N 0 = ik n ∧ n ≤ 5 ∧ N 1 = nx ∧ N 2 = mo ∧ (∀ k, k < 8 → N (3 + k) = ac k) ∧ (∀ k, k < 12 → N (12 + k) = pc k) ∧ (∀ b, b < 5 → AtBn N b (B b)) ∧ ∀ b, b < 5 → LayX N b (L b)
def upf {α : Type} (L : Nat → α) (b : Nat) (x : α) : Nat → α := fun c => if c = b then x else L c
theorem upf_eq {α : Type} {L : Nat → α} {b : Nat} {x : α} : upf L b x b = x := by unfold upf; rw [if_pos rfl]
theorem upf_ne {α : Type} {L : Nat → α} {b c : Nat} {x : α} (h : c ≠ b) : upf L b x c = L c := by unfold upf; rw [if_neg h]
theorem upf_self {α : Type} {L : Nat → α} {b : Nat} : upf L b (L b) = L := by
  funext c
  unfold upf
  split
  · rename_i h; rw [h]
  · rfl
theorem upf_upf {α : Type} {L : Nat → α} {b : Nat} {x y : α} : upf (upf L b x) b y = upf L b y := by
  funext c
  unfold upf
  split <;> rfl
theorem AtM.cg {N N' : Nat → Int32} {o : Nat} {x : Sk} (h : AtM N o x) (e : ∀ c, c < 5 → N' (o + c) = N (o + c)) : AtM N' o x := ⟨(e 0 (by decide)).trans h.1, (e 1 (by decide)).trans h.2.1, (e 2 (by decide)).trans h.2.2.1, (e 3 (by decide)).trans h.2.2.2.1, (e 4 (by decide)).trans h.2.2.2.2⟩
theorem LayX.cg {N N' : Nat → Int32} {b : Nat} {xs : List Sk} (h : LayX N b xs) (e : ∀ i, 24 + 56 * b + 4 ≤ i → i < 24 + 56 * b + 55 → N' i = N i) : LayX N' b xs := by
  refine ⟨(e _ (by omega) (by omega)).trans h.1, h.2.1, fun j x hj => ?_⟩
  have hlt := (List.getElem?_eq_some_iff.mp hj).1
  have h10 := h.2.1
  exact (h.2.2 j x hj).cg (fun c hc => e _ (by omega) (by omega))
theorem AtBn.cg {N N' : Nat → Int32} {b : Nat} {q : Bn} (h : AtBn N b q) (e : ∀ i, 24 + 56 * b ≤ i → i < 24 + 56 * b + 4 → N' i = N i) : AtBn N' b q := ⟨(e _ (by omega) (by omega)).trans h.1, (e _ (by omega) (by omega)).trans h.2.1, (e _ (by omega) (by omega)).trans h.2.2.1, (e _ (by omega) (by omega)).trans h.2.2.2⟩
section RowW
variable {N N' : Nat → Int32} {n : Nat} {B : Nat → Bn} {L : Nat → List Sk} {ac pc : Nat → Int32} {mo nx : Int32}
theorem RowX.cg (h : RowX N n B L ac pc mo nx) (e : ∀ i, i < 304 → N' i = N i) : RowX N' n B L ac pc mo nx := by
  obtain ⟨h1, h2, h3, h4, h5, h6, h7, h8⟩ := h
  exact ⟨(e _ (by decide)).trans h1, h2, (e _ (by decide)).trans h3, (e _ (by decide)).trans h4, fun k hk => (e _ (by omega)).trans (h5 k hk), fun k hk => (e _ (by omega)).trans (h6 k hk), fun b hb => (h7 b hb).cg (fun i _ _ => e i (by omega)), fun b hb => (h8 b hb).cg (fun i _ _ => e i (by omega))⟩
/-- the sacks of the bin b are others -/
theorem RowX.lay (h : RowX N n B L ac pc mo nx) {b : Nat} (hb : b < 5) {xs : List Sk} (e : ∀ i, ¬ (24 + 56 * b + 4 ≤ i ∧ i < 24 + 56 * b + 55) → N' i = N i) (hx : LayX N' b xs) : RowX N' n B (upf L b xs) ac pc mo nx := by
  obtain ⟨h1, h2, h3, h4, h5, h6, h7, h8⟩ := h
  refine ⟨(e _ (by omega)).trans h1, h2, (e _ (by omega)).trans h3, (e _ (by omega)).trans h4, fun k hk => (e _ (by omega)).trans (h5 k hk), fun k hk => (e _ (by omega)).trans (h6 k hk), fun c hc => (h7 c hc).cg (fun i _ _ => e i (by omega)), fun c hc => ?_⟩
  by_cases hcb : c = b
  · subst hcb
    rw [upf_eq]
    exact hx
  · rw [upf_ne hcb]
    exact (h8 c hc).cg (fun i _ _ => e i (by omega))
theorem RowX.bin (h : RowX N n B L ac pc mo nx) {b : Nat} (hb : b < 5) {q : Bn} (e : ∀ i, ¬ (24 + 56 * b ≤ i ∧ i < 24 + 56 * b + 4) → N' i = N i) (hx : AtBn N' b q) : RowX N' n (upf B b q) L ac pc mo nx := by
  obtain ⟨h1, h2, h3, h4, h5, h6, h7, h8⟩ := h
  refine ⟨(e _ (by omega)).trans h1, h2, (e _ (by omega)).trans h3, (e _ (by omega)).trans h4, fun k hk => (e _ (by omega)).trans (h5 k hk), fun k hk => (e _ (by omega)).trans (h6 k hk), fun c hc => ?_, fun c hc => (h8 c hc).cg (fun i _ _ => e i (by omega))⟩
  by_cases hcb : c = b
  · subst hcb
    rw [upf_eq]
    exact hx
  · rw [upf_ne hcb]
    exact (h7 c hc).cg (fun i _ _ => e i (by omega))
theorem RowX.acc (h : RowX N n B L ac pc mo nx) {j : Nat} (hj : j < 8) {v : Int32} : RowX (updn N (3 + j) v) n B L (updn ac j v) pc mo nx := by
  obtain ⟨h1, h2, h3, h4, h5, h6, h7, h8⟩ := h
  refine ⟨(updn_ne (by omega)).trans h1, h2, (updn_ne (by omega)).trans h3, (updn_ne (by omega)).trans h4, fun k hk => ?_, fun k hk => (updn_ne (by omega)).trans (h6 k hk), fun c hc => (h7 c hc).cg (fun i _ _ => updn_ne (by omega)), fun c hc => (h8 c hc).cg (fun i _ _ => updn_ne (by omega))⟩
  by_cases hk2 : k = j
  · subst hk2; rw [updn_eq, updn_eq]
  · rw [updn_ne (by omega), updn_ne hk2]; exact h5 k hk
theorem RowX.prc (h : RowX N n B L ac pc mo nx) {j : Nat} (hj : j < 12) {v : Int32} : RowX (updn N (12 + j) v) n B L ac (updn pc j v) mo nx := by
  obtain ⟨h1, h2, h3, h4, h5, h6, h7, h8⟩ := h
  refine ⟨(updn_ne (by omega)).trans h1, h2, (updn_ne (by omega)).trans h3, (updn_ne (by omega)).trans h4, fun k hk => (updn_ne (by omega)).trans (h5 k hk), fun k hk => ?_, fun c hc => (h7 c hc).cg (fun i _ _ => updn_ne (by omega)), fun c hc => (h8 c hc).cg (fun i _ _ => updn_ne (by omega))⟩
  by_cases hk2 : k = j
  · subst hk2; rw [updn_eq, updn_eq]
  · rw [updn_ne (by omega), updn_ne hk2]; exact h6 k hk
theorem RowX.mon (h : RowX N n B L ac pc mo nx) {v : Int32} : RowX (updn N 2 v) n B L ac pc v nx := by
  obtain ⟨h1, h2, h3, h4, h5, h6, h7, h8⟩ := h
  exact ⟨(updn_ne (by omega)).trans h1, h2, (updn_ne (by omega)).trans h3, updn_eq, fun k hk => (updn_ne (by omega)).trans (h5 k hk), fun k hk => (updn_ne (by omega)).trans (h6 k hk), fun c hc => (h7 c hc).cg (fun i _ _ => updn_ne (by omega)), fun c hc => (h8 c hc).cg (fun i _ _ => updn_ne (by omega))⟩
theorem RowX.nxt (h : RowX N n B L ac pc mo nx) {v : Int32} : RowX (updn N 1 v) n B L ac pc mo v := by
  obtain ⟨h1, h2, h3, h4, h5, h6, h7, h8⟩ := h
  exact ⟨(updn_ne (by omega)).trans h1, h2, updn_eq, (updn_ne (by omega)).trans h4, fun k hk => (updn_ne (by omega)).trans (h5 k hk), fun k hk => (updn_ne (by omega)).trans (h6 k hk), fun c hc => (h7 c hc).cg (fun i _ _ => updn_ne (by omega)), fun c hc => (h8 c hc).cg (fun i _ _ => updn_ne (by omega))⟩
theorem RowX.num (h : RowX N n B L ac pc mo nx) {m : Nat} (hm : m ≤ 5) : RowX (updn N 0 (ik m)) m B L ac pc mo nx := by
  obtain ⟨h1, h2, h3, h4, h5, h6, h7, h8⟩ := h
  exact ⟨updn_eq, hm, (updn_ne (by omega)).trans h3, (updn_ne (by omega)).trans h4, fun k hk => (updn_ne (by omega)).trans (h5 k hk), fun k hk => (updn_ne (by omega)).trans (h6 k hk), fun c hc => (h7 c hc).cg (fun i _ _ => updn_ne (by omega)), fun c hc => (h8 c hc).cg (fun i _ _ => updn_ne (by omega))⟩
theorem RowX.b0 (h : RowX N n B L ac pc mo nx) {b : Nat} (hb : b < 5) : N (24 + 56 * b + 0) = bC (B b) ∧ N (24 + 56 * b + 1) = bM (B b) ∧ N (24 + 56 * b + 2) = bI (B b) ∧ N (24 + 56 * b + 3) = bT (B b) ∧ N (24 + 56 * b + 4) = ik (L b).length ∧ (L b).length ≤ 10 :=
  ⟨(h.2.2.2.2.2.2.1 b hb).1, (h.2.2.2.2.2.2.1 b hb).2.1, (h.2.2.2.2.2.2.1 b hb).2.2.1, (h.2.2.2.2.2.2.1 b hb).2.2.2, (h.2.2.2.2.2.2.2 b hb).1, (h.2.2.2.2.2.2.2 b hb).2.1⟩
theorem RowX.at (h : RowX N n B L ac pc mo nx) {b : Nat} (hb : b < 5) {j : Nat} {x : Sk} (hx : (L b)[j]? = some x) : AtM N (24 + 56 * b + 5 + 5 * j) x ∧ j < 10 := by
  have := (h.2.2.2.2.2.2.2 b hb)
  exact ⟨this.2.2 j x hx, Nat.lt_of_lt_of_le (List.getElem?_eq_some_iff.mp hx).1 this.2.1⟩
end RowW
theorem i24 {k o : Nat} : (24 : Int32) + 56 * ik k + ik o = ik (24 + 56 * k + o) := by rw [show (24 : Int32) = ik 24 from rfl, show (56 : Int32) = ik 56 from rfl, ik_mul, ik_add, ik_add]
theorem i5 {k o : Nat} : (5 : Int32) + 5 * ik k + ik o = ik (5 + 5 * k + o) := by rw [show (5 : Int32) = ik 5 from rfl, ik_mul, ik_add, ik_add]
section Mod
variable {d : Nat} {f : SF} {r : SR} {s : St} {Q : Ot → St → Prop} {N : Nat → Int32} {n : Nat} {B : Nat → Bn} {L : Nat → List Sk} {ac pc : Nat → Int32} {mo nx : Int32}
theorem mb_ok (hG : StG r) {k o : Nat} (hk : k < 5) (ho : o < 56) : Cl (d + 1) 196 [vr 11 0, vi (ik k), vi (ik o)] (pr f N, r) Q ↔ Q (.inl (some (vi (N (24 + 56 * k + o))))) (pr f N, r) := by
  have hi : inb (ik (24 + 56 * k + o)) 304 := (inb_ik (by omega)).mpr (by omega)
  have hx : ix (ik (24 + 56 * k + o)) = 24 + 56 * k + o := ix_ik (by omega)
  rw [en196]
  simp only [B196_0, ex_iconst, ex_bipush, ex_sipush, ex_ldc, ex_ldcs, ex_fconst, ex_dconst, ex_iload_n, ex_iload, ex_aload_n, ex_aload, ex_dload_n, ex_dload, ex_fload, ex_istore_n, ex_istore, ex_fstore, ex_dstore_n, ex_dstore, ex_astore_n, ex_astore, ex_iinc, ex_ginc, ex_pop_i, ex_pop_r, ex_dup_i, ex_dup_r, ex_dup_x1, ex_dup2, ex_iadd, ex_isub, ex_imul, ex_iand, ex_ior, ex_ixor, ex_ishl, ex_ishr, ex_idiv, ex_irem, ex_ineg, ex_i2l, ex_i2c, ex_i2b, ex_i2f, ex_i2d, ex_f2d, ex_fdiv, ex_ddiv, ex_lcmp, ex_dcmp, ex_getI, ex_getR, ex_putI, ex_putB, ex_putZ, ex_putR, ex_getsI, ex_getsR, ex_iald, ex_cald, ex_iast, ex_cast, ex_aast, ex_alen, ex_copy1, ex_copy2, ex_throw, ex_goto, ex_fall, ex_if_eq, ex_ic_eq, ex_if_ne, ex_ic_ne, ex_if_lt, ex_ic_lt, ex_if_ge, ex_ic_ge, ex_if_gt, ex_ic_gt, ex_if_le, ex_ic_le, ex_switch, ex_ireturn, ex_ireturn_z, ex_ireturn_b, ex_ireturn_c, ex_areturn, ex_freturn, ex_dreturn, ex_return, ex_is0, ex_is1, ex_is2, ex_is3, ex_is4, ex_is5, ex_is6, ex_is7, ex_iv1, ex_iv2, ex_iv3, ex_iv4, ex_iv5, ex_iv6, ex_iv7, ex_ip1, ex_ip2, ex_ip3, ex_ip4, ex_ip5, ex_ip6, ex_ip7, ex_iu1, ex_iu2, ex_iu3, ex_iu4, ex_iu5, ex_iu6, ex_iu7, List.getD_cons_zero, List.getD_cons_succ, List.set_cons_zero, List.set_cons_succ, isI_i, isA_r, isD_d, isF_f, GInc, ko_v, ko_n, cat_i2, cat_r2, cat_n2, cat_f2, cat_d2, cat_l2, Nat.zero_le, Nat.zero_add, Nat.le_refl, Nat.reduceAdd, Nat.reduceLeDiff, ne_eq, not_false_eq_true, Nat.reduceEqDiff, sI_mk, wI_mk, wCp_mk, Option.toList, List.nil_append, List.cons_append, kd_20, kd_21, kd_22, kd_23, kd_24, kd_25, kd_26, kd_27, kd_28, kd_29, kd_30, kd_31, kd_32, kd_33, kd_34, kd_35, kd_36, kd_37, kd_38, kd_39, kd_40, kd_41, kd_42, kd_43, kd_44, kd_45, kd_46, kd_47, kd_48, kd_49, kd_50, kd_51, kd_52, kd_53, kd_54, rg0_0 hG, rg0_1 hG, rg0_2 hG, rg0_4 hG, rg0_5 hG, rg0_6 hG, rg0_7 hG, rg0_8 hG, rg6_0 hG, rg8_0 hG, rg8_1 hG, rg8_4 hG, rg8_5 hG, rg8_6 hG, rg8_7 hG, rg9_0 hG, rg9_2 hG, rg9_3 hG, rg11_0 hG, rg11_1 hG, rg11_2 hG, rg11_3 hG, rg11_4 hG, rg11_5 hG, rg11_15 hG, rg11_17 hG, rg11_18 hG, rg11_19 hG, rl32 hG, rl33 hG, rl34 hG, rl35 hG, rl36 hG, rl37 hG, rl38 hG, rl39 hG, rl40 hG, rl41 hG, rl43 hG, rl44 hG, rl45 hG, rl46 hG, rl47 hG, rl48 hG, rl49 hG, rl50 hG, rl51 hG, rl52 hG, i24, hi, hx, pr_43]
theorem mset_ok (hG : StG r) {k o : Nat} {v : Int32} (hk : k < 5) (ho : o < 56) : Cl (d + 1) 190 [vr 11 0, vi (ik k), vi (ik o), vi v] (pr f N, r) Q ↔ Q (.inl none) (pr f (updn N (24 + 56 * k + o) v), r) := by
  have hi : inb (ik (24 + 56 * k + o)) 304 := (inb_ik (by omega)).mpr (by omega)
  have hx : ix (ik (24 + 56 * k + o)) = 24 + 56 * k + o := ix_ik (by omega)
  rw [en190]
  simp only [B190_0, ex_iconst, ex_bipush, ex_sipush, ex_ldc, ex_ldcs, ex_fconst, ex_dconst, ex_iload_n, ex_iload, ex_aload_n, ex_aload, ex_dload_n, ex_dload, ex_fload, ex_istore_n, ex_istore, ex_fstore, ex_dstore_n, ex_dstore, ex_astore_n, ex_astore, ex_iinc, ex_ginc, ex_pop_i, ex_pop_r, ex_dup_i, ex_dup_r, ex_dup_x1, ex_dup2, ex_iadd, ex_isub, ex_imul, ex_iand, ex_ior, ex_ixor, ex_ishl, ex_ishr, ex_idiv, ex_irem, ex_ineg, ex_i2l, ex_i2c, ex_i2b, ex_i2f, ex_i2d, ex_f2d, ex_fdiv, ex_ddiv, ex_lcmp, ex_dcmp, ex_getI, ex_getR, ex_putI, ex_putB, ex_putZ, ex_putR, ex_getsI, ex_getsR, ex_iald, ex_cald, ex_iast, ex_cast, ex_aast, ex_alen, ex_copy1, ex_copy2, ex_throw, ex_goto, ex_fall, ex_if_eq, ex_ic_eq, ex_if_ne, ex_ic_ne, ex_if_lt, ex_ic_lt, ex_if_ge, ex_ic_ge, ex_if_gt, ex_ic_gt, ex_if_le, ex_ic_le, ex_switch, ex_ireturn, ex_ireturn_z, ex_ireturn_b, ex_ireturn_c, ex_areturn, ex_freturn, ex_dreturn, ex_return, ex_is0, ex_is1, ex_is2, ex_is3, ex_is4, ex_is5, ex_is6, ex_is7, ex_iv1, ex_iv2, ex_iv3, ex_iv4, ex_iv5, ex_iv6, ex_iv7, ex_ip1, ex_ip2, ex_ip3, ex_ip4, ex_ip5, ex_ip6, ex_ip7, ex_iu1, ex_iu2, ex_iu3, ex_iu4, ex_iu5, ex_iu6, ex_iu7, List.getD_cons_zero, List.getD_cons_succ, List.set_cons_zero, List.set_cons_succ, isI_i, isA_r, isD_d, isF_f, GInc, ko_v, ko_n, cat_i2, cat_r2, cat_n2, cat_f2, cat_d2, cat_l2, Nat.zero_le, Nat.zero_add, Nat.le_refl, Nat.reduceAdd, Nat.reduceLeDiff, ne_eq, not_false_eq_true, Nat.reduceEqDiff, sI_mk, wI_mk, wCp_mk, Option.toList, List.nil_append, List.cons_append, kd_20, kd_21, kd_22, kd_23, kd_24, kd_25, kd_26, kd_27, kd_28, kd_29, kd_30, kd_31, kd_32, kd_33, kd_34, kd_35, kd_36, kd_37, kd_38, kd_39, kd_40, kd_41, kd_42, kd_43, kd_44, kd_45, kd_46, kd_47, kd_48, kd_49, kd_50, kd_51, kd_52, kd_53, kd_54, rg0_0 hG, rg0_1 hG, rg0_2 hG, rg0_4 hG, rg0_5 hG, rg0_6 hG, rg0_7 hG, rg0_8 hG, rg6_0 hG, rg8_0 hG, rg8_1 hG, rg8_4 hG, rg8_5 hG, rg8_6 hG, rg8_7 hG, rg9_0 hG, rg9_2 hG, rg9_3 hG, rg11_0 hG, rg11_1 hG, rg11_2 hG, rg11_3 hG, rg11_4 hG, rg11_5 hG, rg11_15 hG, rg11_17 hG, rg11_18 hG, rg11_19 hG, rl32 hG, rl33 hG, rl34 hG, rl35 hG, rl36 hG, rl37 hG, rl38 hG, rl39 hG, rl40 hG, rl41 hG, rl43 hG, rl44 hG, rl45 hG, rl46 hG, rl47 hG, rl48 hG, rl49 hG, rl50 hG, rl51 hG, rl52 hG, i24, hi, hx, pr_up]
theorem ms_ok (hG : StG r) {k j c : Nat} (hk : k < 5) (hj : j < 10) (hc : c < 5) : Cl (d + 2) 201 [vr 11 0, vi (ik k), vi (ik j), vi (ik c)] (pr f N, r) Q ↔ Q (.inl (some (vi (N (24 + 56 * k + 5 + 5 * j + c))))) (pr f N, r) := by
  have o := fun Q => mb_ok (d := d) (f := f) (N := N) (Q := Q) hG hk (show 5 + 5 * j + c < 56 by omega)
  rw [show 24 + 56 * k + (5 + 5 * j + c) = 24 + 56 * k + 5 + 5 * j + c by omega] at o
  rw [en201]
  simp only [B201_0, ex_iconst, ex_bipush, ex_sipush, ex_ldc, ex_ldcs, ex_fconst, ex_dconst, ex_iload_n, ex_iload, ex_aload_n, ex_aload, ex_dload_n, ex_dload, ex_fload, ex_istore_n, ex_istore, ex_fstore, ex_dstore_n, ex_dstore, ex_astore_n, ex_astore, ex_iinc, ex_ginc, ex_pop_i, ex_pop_r, ex_dup_i, ex_dup_r, ex_dup_x1, ex_dup2, ex_iadd, ex_isub, ex_imul, ex_iand, ex_ior, ex_ixor, ex_ishl, ex_ishr, ex_idiv, ex_irem, ex_ineg, ex_i2l, ex_i2c, ex_i2b, ex_i2f, ex_i2d, ex_f2d, ex_fdiv, ex_ddiv, ex_lcmp, ex_dcmp, ex_getI, ex_getR, ex_putI, ex_putB, ex_putZ, ex_putR, ex_getsI, ex_getsR, ex_iald, ex_cald, ex_iast, ex_cast, ex_aast, ex_alen, ex_copy1, ex_copy2, ex_throw, ex_goto, ex_fall, ex_if_eq, ex_ic_eq, ex_if_ne, ex_ic_ne, ex_if_lt, ex_ic_lt, ex_if_ge, ex_ic_ge, ex_if_gt, ex_ic_gt, ex_if_le, ex_ic_le, ex_switch, ex_ireturn, ex_ireturn_z, ex_ireturn_b, ex_ireturn_c, ex_areturn, ex_freturn, ex_dreturn, ex_return, ex_is0, ex_is1, ex_is2, ex_is3, ex_is4, ex_is5, ex_is6, ex_is7, ex_iv1, ex_iv2, ex_iv3, ex_iv4, ex_iv5, ex_iv6, ex_iv7, ex_ip1, ex_ip2, ex_ip3, ex_ip4, ex_ip5, ex_ip6, ex_ip7, ex_iu1, ex_iu2, ex_iu3, ex_iu4, ex_iu5, ex_iu6, ex_iu7, List.getD_cons_zero, List.getD_cons_succ, List.set_cons_zero, List.set_cons_succ, isI_i, isA_r, isD_d, isF_f, GInc, ko_v, ko_n, cat_i2, cat_r2, cat_n2, cat_f2, cat_d2, cat_l2, Nat.zero_le, Nat.zero_add, Nat.le_refl, Nat.reduceAdd, Nat.reduceLeDiff, ne_eq, not_false_eq_true, Nat.reduceEqDiff, sI_mk, wI_mk, wCp_mk, Option.toList, List.nil_append, List.cons_append, kd_20, kd_21, kd_22, kd_23, kd_24, kd_25, kd_26, kd_27, kd_28, kd_29, kd_30, kd_31, kd_32, kd_33, kd_34, kd_35, kd_36, kd_37, kd_38, kd_39, kd_40, kd_41, kd_42, kd_43, kd_44, kd_45, kd_46, kd_47, kd_48, kd_49, kd_50, kd_51, kd_52, kd_53, kd_54, i5, o]
theorem mss_ok (hG : StG r) {k j c : Nat} {v : Int32} (hk : k < 5) (hj : j < 10) (hc : c < 5) : Cl (d + 2) 204 [vr 11 0, vi (ik k), vi (ik j), vi (ik c), vi v] (pr f N, r) Q ↔ Q (.inl none) (pr f (updn N (24 + 56 * k + 5 + 5 * j + c) v), r) := by
  have o := fun Q => mset_ok (d := d) (f := f) (N := N) (Q := Q) (v := v) hG hk (show 5 + 5 * j + c < 56 by omega)
  rw [show 24 + 56 * k + (5 + 5 * j + c) = 24 + 56 * k + 5 + 5 * j + c by omega] at o
  rw [en204]
  simp only [B204_0, ex_iconst, ex_bipush, ex_sipush, ex_ldc, ex_ldcs, ex_fconst, ex_dconst, ex_iload_n, ex_iload, ex_aload_n, ex_aload, ex_dload_n, ex_dload, ex_fload, ex_istore_n, ex_istore, ex_fstore, ex_dstore_n, ex_dstore, ex_astore_n, ex_astore, ex_iinc, ex_ginc, ex_pop_i, ex_pop_r, ex_dup_i, ex_dup_r, ex_dup_x1, ex_dup2, ex_iadd, ex_isub, ex_imul, ex_iand, ex_ior, ex_ixor, ex_ishl, ex_ishr, ex_idiv, ex_irem, ex_ineg, ex_i2l, ex_i2c, ex_i2b, ex_i2f, ex_i2d, ex_f2d, ex_fdiv, ex_ddiv, ex_lcmp, ex_dcmp, ex_getI, ex_getR, ex_putI, ex_putB, ex_putZ, ex_putR, ex_getsI, ex_getsR, ex_iald, ex_cald, ex_iast, ex_cast, ex_aast, ex_alen, ex_copy1, ex_copy2, ex_throw, ex_goto, ex_fall, ex_if_eq, ex_ic_eq, ex_if_ne, ex_ic_ne, ex_if_lt, ex_ic_lt, ex_if_ge, ex_ic_ge, ex_if_gt, ex_ic_gt, ex_if_le, ex_ic_le, ex_switch, ex_ireturn, ex_ireturn_z, ex_ireturn_b, ex_ireturn_c, ex_areturn, ex_freturn, ex_dreturn, ex_return, ex_is0, ex_is1, ex_is2, ex_is3, ex_is4, ex_is5, ex_is6, ex_is7, ex_iv1, ex_iv2, ex_iv3, ex_iv4, ex_iv5, ex_iv6, ex_iv7, ex_ip1, ex_ip2, ex_ip3, ex_ip4, ex_ip5, ex_ip6, ex_ip7, ex_iu1, ex_iu2, ex_iu3, ex_iu4, ex_iu5, ex_iu6, ex_iu7, List.getD_cons_zero, List.getD_cons_succ, List.set_cons_zero, List.set_cons_succ, isI_i, isA_r, isD_d, isF_f, GInc, ko_v, ko_n, cat_i2, cat_r2, cat_n2, cat_f2, cat_d2, cat_l2, Nat.zero_le, Nat.zero_add, Nat.le_refl, Nat.reduceAdd, Nat.reduceLeDiff, ne_eq, not_false_eq_true, Nat.reduceEqDiff, sI_mk, wI_mk, wCp_mk, Option.toList, List.nil_append, List.cons_append, kd_20, kd_21, kd_22, kd_23, kd_24, kd_25, kd_26, kd_27, kd_28, kd_29, kd_30, kd_31, kd_32, kd_33, kd_34, kd_35, kd_36, kd_37, kd_38, kd_39, kd_40, kd_41, kd_42, kd_43, kd_44, kd_45, kd_46, kd_47, kd_48, kd_49, kd_50, kd_51, kd_52, kd_53, kd_54, i5, o]
/-- a bin's values by name -/
theorem mb0 (hG : StG r) (h : RowX N n B L ac pc mo nx) {k : Nat} (hk : k < 5) : Cl (d + 1) 196 [vr 11 0, vi (ik k), vi 0] (pr f N, r) Q ↔ Q (.inl (some (vi (bC (B k))))) (pr f N, r) := (mb_ok hG hk (by decide)).trans (by rw [(h.b0 hk).1])
theorem mb1 (hG : StG r) (h : RowX N n B L ac pc mo nx) {k : Nat} (hk : k < 5) : Cl (d + 1) 196 [vr 11 0, vi (ik k), vi 1] (pr f N, r) Q ↔ Q (.inl (some (vi (bM (B k))))) (pr f N, r) := (mb_ok hG hk (by decide)).trans (by rw [(h.b0 hk).2.1])
theorem mb2 (hG : StG r) (h : RowX N n B L ac pc mo nx) {k : Nat} (hk : k < 5) : Cl (d + 1) 196 [vr 11 0, vi (ik k), vi 2] (pr f N, r) Q ↔ Q (.inl (some (vi (bI (B k))))) (pr f N, r) := (mb_ok hG hk (by decide)).trans (by rw [(h.b0 hk).2.2.1])
theorem mb3 (hG : StG r) (h : RowX N n B L ac pc mo nx) {k : Nat} (hk : k < 5) : Cl (d + 1) 196 [vr 11 0, vi (ik k), vi 3] (pr f N, r) Q ↔ Q (.inl (some (vi (bT (B k))))) (pr f N, r) := (mb_ok hG hk (by decide)).trans (by rw [(h.b0 hk).2.2.2.1])
theorem mb4 (hG : StG r) (h : RowX N n B L ac pc mo nx) {k : Nat} (hk : k < 5) : Cl (d + 1) 196 [vr 11 0, vi (ik k), vi 4] (pr f N, r) Q ↔ Q (.inl (some (vi (ik (L k).length)))) (pr f N, r) := (mb_ok hG hk (by decide)).trans (by rw [(h.b0 hk).2.2.2.2.1])
theorem ms0 (hG : StG r) (h : RowX N n B L ac pc mo nx) {k : Nat} (hk : k < 5) {j : Nat} {x : Sk} (hx : (L k)[j]? = some x) : Cl (d + 2) 201 [vr 11 0, vi (ik k), vi (ik j), vi 0] (pr f N, r) Q ↔ Q (.inl (some (vi (kId x)))) (pr f N, r) := (ms_ok hG hk (h.at hk hx).2 (by decide)).trans (by rw [← (h.at hk hx).1.1]; rfl)
theorem ms1 (hG : StG r) (h : RowX N n B L ac pc mo nx) {k : Nat} (hk : k < 5) {j : Nat} {x : Sk} (hx : (L k)[j]? = some x) : Cl (d + 2) 201 [vr 11 0, vi (ik k), vi (ik j), vi 1] (pr f N, r) Q ↔ Q (.inl (some (vi (kW x)))) (pr f N, r) := (ms_ok hG hk (h.at hk hx).2 (by decide)).trans (by rw [← (h.at hk hx).1.2.1])
theorem ms2 (hG : StG r) (h : RowX N n B L ac pc mo nx) {k : Nat} (hk : k < 5) {j : Nat} {x : Sk} (hx : (L k)[j]? = some x) : Cl (d + 2) 201 [vr 11 0, vi (ik k), vi (ik j), vi 2] (pr f N, r) Q ↔ Q (.inl (some (vi (kP x)))) (pr f N, r) := (ms_ok hG hk (h.at hk hx).2 (by decide)).trans (by rw [← (h.at hk hx).1.2.2.1])
theorem ms3 (hG : StG r) (h : RowX N n B L ac pc mo nx) {k : Nat} (hk : k < 5) {j : Nat} {x : Sk} (hx : (L k)[j]? = some x) : Cl (d + 2) 201 [vr 11 0, vi (ik k), vi (ik j), vi 3] (pr f N, r) Q ↔ Q (.inl (some (vi (kG x)))) (pr f N, r) := (ms_ok hG hk (h.at hk hx).2 (by decide)).trans (by rw [← (h.at hk hx).1.2.2.2.1])
theorem ms4 (hG : StG r) (h : RowX N n B L ac pc mo nx) {k : Nat} (hk : k < 5) {j : Nat} {x : Sk} (hx : (L k)[j]? = some x) : Cl (d + 2) 201 [vr 11 0, vi (ik k), vi (ik j), vi 4] (pr f N, r) Q ↔ Q (.inl (some (vi (kT x)))) (pr f N, r) := (ms_ok hG hk (h.at hk hx).2 (by decide)).trans (by rw [← (h.at hk hx).1.2.2.2.2])
/-- sums over a bin's sacks -/
def wgX (xs : List Sk) (a : Int32) : Int32 := xs.foldl (fun a x => a + kW x) a
def vlX (xs : List Sk) (a : Int32) : Int32 := xs.foldl (fun a x => a + kW x * kP x) a
/-- the place of the sack z among a bin's -/
def plX (z : Int32) : List Sk → Nat → Int32
  | [], _ => -1
  | x :: xs, k => if kId x = z then ik k else plX z xs (k + 1)
theorem plX_c {z : Int32} {x : Sk} {xs : List Sk} {k : Nat} : plX z (x :: xs) k = if kId x = z then ik k else plX z xs (k + 1) := rfl
theorem mwt_lp (hG : StG r) (h : RowX N n B L ac pc mo nx) {b : Nat} (hb : b < 5) : ∀ (post pre : List Sk) (a : Int32), L b = pre ++ post → (Jx (d + 2) 200 1 [vr 11 0, vi (ik b), vi a, vi (ik pre.length)] [] (pr f N, r) Q ↔ Q (.inl (some (vi (wgX post a)))) (pr f N, r)) := by
  have h10 := (h.b0 hb).2.2.2.2.2
  intro post
  induction post with
  | nil =>
    intro pre a e
    rw [List.append_nil] at e
    have hc := le_self_i (a := ik pre.length)
    have o4 := fun Q => mb4 (d := d + 1) (f := f) (Q := Q) hG h hb
    rw [e] at o4
    rw [jb200_1]
    simp only [B200_1, B200_2, jb200_2, ex_iconst, ex_bipush, ex_sipush, ex_ldc, ex_ldcs, ex_fconst, ex_dconst, ex_iload_n, ex_iload, ex_aload_n, ex_aload, ex_dload_n, ex_dload, ex_fload, ex_istore_n, ex_istore, ex_fstore, ex_dstore_n, ex_dstore, ex_astore_n, ex_astore, ex_iinc, ex_ginc, ex_pop_i, ex_pop_r, ex_dup_i, ex_dup_r, ex_dup_x1, ex_dup2, ex_iadd, ex_isub, ex_imul, ex_iand, ex_ior, ex_ixor, ex_ishl, ex_ishr, ex_idiv, ex_irem, ex_ineg, ex_i2l, ex_i2c, ex_i2b, ex_i2f, ex_i2d, ex_f2d, ex_fdiv, ex_ddiv, ex_lcmp, ex_dcmp, ex_getI, ex_getR, ex_putI, ex_putB, ex_putZ, ex_putR, ex_getsI, ex_getsR, ex_iald, ex_cald, ex_iast, ex_cast, ex_aast, ex_alen, ex_copy1, ex_copy2, ex_throw, ex_goto, ex_fall, ex_if_eq, ex_ic_eq, ex_if_ne, ex_ic_ne, ex_if_lt, ex_ic_lt, ex_if_ge, ex_ic_ge, ex_if_gt, ex_ic_gt, ex_if_le, ex_ic_le, ex_switch, ex_ireturn, ex_ireturn_z, ex_ireturn_b, ex_ireturn_c, ex_areturn, ex_freturn, ex_dreturn, ex_return, ex_is0, ex_is1, ex_is2, ex_is3, ex_is4, ex_is5, ex_is6, ex_is7, ex_iv1, ex_iv2, ex_iv3, ex_iv4, ex_iv5, ex_iv6, ex_iv7, ex_ip1, ex_ip2, ex_ip3, ex_ip4, ex_ip5, ex_ip6, ex_ip7, ex_iu1, ex_iu2, ex_iu3, ex_iu4, ex_iu5, ex_iu6, ex_iu7, List.getD_cons_zero, List.getD_cons_succ, List.set_cons_zero, List.set_cons_succ, isI_i, isA_r, isD_d, isF_f, GInc, ko_v, ko_n, cat_i2, cat_r2, cat_n2, cat_f2, cat_d2, cat_l2, Nat.zero_le, Nat.zero_add, Nat.le_refl, Nat.reduceAdd, Nat.reduceLeDiff, ne_eq, not_false_eq_true, Nat.reduceEqDiff, sI_mk, wI_mk, wCp_mk, Option.toList, List.nil_append, List.cons_append, kd_20, kd_21, kd_22, kd_23, kd_24, kd_25, kd_26, kd_27, kd_28, kd_29, kd_30, kd_31, kd_32, kd_33, kd_34, kd_35, kd_36, kd_37, kd_38, kd_39, kd_40, kd_41, kd_42, kd_43, kd_44, kd_45, kd_46, kd_47, kd_48, kd_49, kd_50, kd_51, kd_52, kd_53, kd_54, o4, hc, if_true]
    rfl
  | cons x post ih =>
    intro pre a e
    have o4 := fun Q => mb4 (d := d + 1) (f := f) (Q := Q) hG h hb
    rw [e] at o4 h10
    have hn := len_gt (pre := pre) (post := post) (x := x) (by omega)
    have hx : (L b)[pre.length]? = some x := by rw [e]; exact mid_at
    have o1 := fun Q => ms1 (d := d) (f := f) (Q := Q) hG h hb hx
    have ih2 := fun a => ih (pre ++ [x]) a (by rw [e]; exact app_one)
    rw [len_one] at ih2
    rw [jb200_1]
    simp only [B200_1, ex_iconst, ex_bipush, ex_sipush, ex_ldc, ex_ldcs, ex_fconst, ex_dconst, ex_iload_n, ex_iload, ex_aload_n, ex_aload, ex_dload_n, ex_dload, ex_fload, ex_istore_n, ex_istore, ex_fstore, ex_dstore_n, ex_dstore, ex_astore_n, ex_astore, ex_iinc, ex_ginc, ex_pop_i, ex_pop_r, ex_dup_i, ex_dup_r, ex_dup_x1, ex_dup2, ex_iadd, ex_isub, ex_imul, ex_iand, ex_ior, ex_ixor, ex_ishl, ex_ishr, ex_idiv, ex_irem, ex_ineg, ex_i2l, ex_i2c, ex_i2b, ex_i2f, ex_i2d, ex_f2d, ex_fdiv, ex_ddiv, ex_lcmp, ex_dcmp, ex_getI, ex_getR, ex_putI, ex_putB, ex_putZ, ex_putR, ex_getsI, ex_getsR, ex_iald, ex_cald, ex_iast, ex_cast, ex_aast, ex_alen, ex_copy1, ex_copy2, ex_throw, ex_goto, ex_fall, ex_if_eq, ex_ic_eq, ex_if_ne, ex_ic_ne, ex_if_lt, ex_ic_lt, ex_if_ge, ex_ic_ge, ex_if_gt, ex_ic_gt, ex_if_le, ex_ic_le, ex_switch, ex_ireturn, ex_ireturn_z, ex_ireturn_b, ex_ireturn_c, ex_areturn, ex_freturn, ex_dreturn, ex_return, ex_is0, ex_is1, ex_is2, ex_is3, ex_is4, ex_is5, ex_is6, ex_is7, ex_iv1, ex_iv2, ex_iv3, ex_iv4, ex_iv5, ex_iv6, ex_iv7, ex_ip1, ex_ip2, ex_ip3, ex_ip4, ex_ip5, ex_ip6, ex_ip7, ex_iu1, ex_iu2, ex_iu3, ex_iu4, ex_iu5, ex_iu6, ex_iu7, List.getD_cons_zero, List.getD_cons_succ, List.set_cons_zero, List.set_cons_succ, isI_i, isA_r, isD_d, isF_f, GInc, ko_v, ko_n, cat_i2, cat_r2, cat_n2, cat_f2, cat_d2, cat_l2, Nat.zero_le, Nat.zero_add, Nat.le_refl, Nat.reduceAdd, Nat.reduceLeDiff, ne_eq, not_false_eq_true, Nat.reduceEqDiff, sI_mk, wI_mk, wCp_mk, Option.toList, List.nil_append, List.cons_append, kd_20, kd_21, kd_22, kd_23, kd_24, kd_25, kd_26, kd_27, kd_28, kd_29, kd_30, kd_31, kd_32, kd_33, kd_34, kd_35, kd_36, kd_37, kd_38, kd_39, kd_40, kd_41, kd_42, kd_43, kd_44, kd_45, kd_46, kd_47, kd_48, kd_49, kd_50, kd_51, kd_52, kd_53, kd_54, o4, hn, if_false, o1, ik_succ, ih2]
    rfl
theorem mwt_ok (hG : StG r) (h : RowX N n B L ac pc mo nx) {b : Nat} (hb : b < 5) : Cl (d + 3) 200 [vr 11 0, vi (ik b)] (pr f N, r) Q ↔ Q (.inl (some (vi (wgX (L b) 0)))) (pr f N, r) := by
  rw [en200]
  simp only [B200_0, ex_iconst, ex_bipush, ex_sipush, ex_ldc, ex_ldcs, ex_fconst, ex_dconst, ex_iload_n, ex_iload, ex_aload_n, ex_aload, ex_dload_n, ex_dload, ex_fload, ex_istore_n, ex_istore, ex_fstore, ex_dstore_n, ex_dstore, ex_astore_n, ex_astore, ex_iinc, ex_ginc, ex_pop_i, ex_pop_r, ex_dup_i, ex_dup_r, ex_dup_x1, ex_dup2, ex_iadd, ex_isub, ex_imul, ex_iand, ex_ior, ex_ixor, ex_ishl, ex_ishr, ex_idiv, ex_irem, ex_ineg, ex_i2l, ex_i2c, ex_i2b, ex_i2f, ex_i2d, ex_f2d, ex_fdiv, ex_ddiv, ex_lcmp, ex_dcmp, ex_getI, ex_getR, ex_putI, ex_putB, ex_putZ, ex_putR, ex_getsI, ex_getsR, ex_iald, ex_cald, ex_iast, ex_cast, ex_aast, ex_alen, ex_copy1, ex_copy2, ex_throw, ex_goto, ex_fall, ex_if_eq, ex_ic_eq, ex_if_ne, ex_ic_ne, ex_if_lt, ex_ic_lt, ex_if_ge, ex_ic_ge, ex_if_gt, ex_ic_gt, ex_if_le, ex_ic_le, ex_switch, ex_ireturn, ex_ireturn_z, ex_ireturn_b, ex_ireturn_c, ex_areturn, ex_freturn, ex_dreturn, ex_return, ex_is0, ex_is1, ex_is2, ex_is3, ex_is4, ex_is5, ex_is6, ex_is7, ex_iv1, ex_iv2, ex_iv3, ex_iv4, ex_iv5, ex_iv6, ex_iv7, ex_ip1, ex_ip2, ex_ip3, ex_ip4, ex_ip5, ex_ip6, ex_ip7, ex_iu1, ex_iu2, ex_iu3, ex_iu4, ex_iu5, ex_iu6, ex_iu7, List.getD_cons_zero, List.getD_cons_succ, List.set_cons_zero, List.set_cons_succ, isI_i, isA_r, isD_d, isF_f, GInc, ko_v, ko_n, cat_i2, cat_r2, cat_n2, cat_f2, cat_d2, cat_l2, Nat.zero_le, Nat.zero_add, Nat.le_refl, Nat.reduceAdd, Nat.reduceLeDiff, ne_eq, not_false_eq_true, Nat.reduceEqDiff, sI_mk, wI_mk, wCp_mk, Option.toList, List.nil_append, List.cons_append, kd_20, kd_21, kd_22, kd_23, kd_24, kd_25, kd_26, kd_27, kd_28, kd_29, kd_30, kd_31, kd_32, kd_33, kd_34, kd_35, kd_36, kd_37, kd_38, kd_39, kd_40, kd_41, kd_42, kd_43, kd_44, kd_45, kd_46, kd_47, kd_48, kd_49, kd_50, kd_51, kd_52, kd_53, kd_54]
  exact mwt_lp hG h hb (L b) [] 0 rfl
theorem mvl_lp (hG : StG r) (h : RowX N n B L ac pc mo nx) {b : Nat} (hb : b < 5) : ∀ (post pre : List Sk) (a : Int32), L b = pre ++ post → (Jx (d + 2) 258 1 [vr 11 0, vi (ik b), vi a, vi (ik pre.length)] [] (pr f N, r) Q ↔ Q (.inl (some (vi (vlX post a)))) (pr f N, r)) := by
  have h10 := (h.b0 hb).2.2.2.2.2
  intro post
  induction post with
  | nil =>
    intro pre a e
    rw [List.append_nil] at e
    have hc := le_self_i (a := ik pre.length)
    have o4 := fun Q => mb4 (d := d + 1) (f := f) (Q := Q) hG h hb
    rw [e] at o4
    rw [jb258_1]
    simp only [B258_1, B258_2, jb258_2, ex_iconst, ex_bipush, ex_sipush, ex_ldc, ex_ldcs, ex_fconst, ex_dconst, ex_iload_n, ex_iload, ex_aload_n, ex_aload, ex_dload_n, ex_dload, ex_fload, ex_istore_n, ex_istore, ex_fstore, ex_dstore_n, ex_dstore, ex_astore_n, ex_astore, ex_iinc, ex_ginc, ex_pop_i, ex_pop_r, ex_dup_i, ex_dup_r, ex_dup_x1, ex_dup2, ex_iadd, ex_isub, ex_imul, ex_iand, ex_ior, ex_ixor, ex_ishl, ex_ishr, ex_idiv, ex_irem, ex_ineg, ex_i2l, ex_i2c, ex_i2b, ex_i2f, ex_i2d, ex_f2d, ex_fdiv, ex_ddiv, ex_lcmp, ex_dcmp, ex_getI, ex_getR, ex_putI, ex_putB, ex_putZ, ex_putR, ex_getsI, ex_getsR, ex_iald, ex_cald, ex_iast, ex_cast, ex_aast, ex_alen, ex_copy1, ex_copy2, ex_throw, ex_goto, ex_fall, ex_if_eq, ex_ic_eq, ex_if_ne, ex_ic_ne, ex_if_lt, ex_ic_lt, ex_if_ge, ex_ic_ge, ex_if_gt, ex_ic_gt, ex_if_le, ex_ic_le, ex_switch, ex_ireturn, ex_ireturn_z, ex_ireturn_b, ex_ireturn_c, ex_areturn, ex_freturn, ex_dreturn, ex_return, ex_is0, ex_is1, ex_is2, ex_is3, ex_is4, ex_is5, ex_is6, ex_is7, ex_iv1, ex_iv2, ex_iv3, ex_iv4, ex_iv5, ex_iv6, ex_iv7, ex_ip1, ex_ip2, ex_ip3, ex_ip4, ex_ip5, ex_ip6, ex_ip7, ex_iu1, ex_iu2, ex_iu3, ex_iu4, ex_iu5, ex_iu6, ex_iu7, List.getD_cons_zero, List.getD_cons_succ, List.set_cons_zero, List.set_cons_succ, isI_i, isA_r, isD_d, isF_f, GInc, ko_v, ko_n, cat_i2, cat_r2, cat_n2, cat_f2, cat_d2, cat_l2, Nat.zero_le, Nat.zero_add, Nat.le_refl, Nat.reduceAdd, Nat.reduceLeDiff, ne_eq, not_false_eq_true, Nat.reduceEqDiff, sI_mk, wI_mk, wCp_mk, Option.toList, List.nil_append, List.cons_append, kd_20, kd_21, kd_22, kd_23, kd_24, kd_25, kd_26, kd_27, kd_28, kd_29, kd_30, kd_31, kd_32, kd_33, kd_34, kd_35, kd_36, kd_37, kd_38, kd_39, kd_40, kd_41, kd_42, kd_43, kd_44, kd_45, kd_46, kd_47, kd_48, kd_49, kd_50, kd_51, kd_52, kd_53, kd_54, o4, hc, if_true]
    rfl
  | cons x post ih =>
    intro pre a e
    have o4 := fun Q => mb4 (d := d + 1) (f := f) (Q := Q) hG h hb
    rw [e] at o4 h10
    have hn := len_gt (pre := pre) (post := post) (x := x) (by omega)
    have hx : (L b)[pre.length]? = some x := by rw [e]; exact mid_at
    have o1 := fun Q => ms1 (d := d) (f := f) (Q := Q) hG h hb hx
    have o2 := fun Q => ms2 (d := d) (f := f) (Q := Q) hG h hb hx
    have ih2 := fun a => ih (pre ++ [x]) a (by rw [e]; exact app_one)
    rw [len_one] at ih2
    rw [jb258_1]
    simp only [B258_1, ex_iconst, ex_bipush, ex_sipush, ex_ldc, ex_ldcs, ex_fconst, ex_dconst, ex_iload_n, ex_iload, ex_aload_n, ex_aload, ex_dload_n, ex_dload, ex_fload, ex_istore_n, ex_istore, ex_fstore, ex_dstore_n, ex_dstore, ex_astore_n, ex_astore, ex_iinc, ex_ginc, ex_pop_i, ex_pop_r, ex_dup_i, ex_dup_r, ex_dup_x1, ex_dup2, ex_iadd, ex_isub, ex_imul, ex_iand, ex_ior, ex_ixor, ex_ishl, ex_ishr, ex_idiv, ex_irem, ex_ineg, ex_i2l, ex_i2c, ex_i2b, ex_i2f, ex_i2d, ex_f2d, ex_fdiv, ex_ddiv, ex_lcmp, ex_dcmp, ex_getI, ex_getR, ex_putI, ex_putB, ex_putZ, ex_putR, ex_getsI, ex_getsR, ex_iald, ex_cald, ex_iast, ex_cast, ex_aast, ex_alen, ex_copy1, ex_copy2, ex_throw, ex_goto, ex_fall, ex_if_eq, ex_ic_eq, ex_if_ne, ex_ic_ne, ex_if_lt, ex_ic_lt, ex_if_ge, ex_ic_ge, ex_if_gt, ex_ic_gt, ex_if_le, ex_ic_le, ex_switch, ex_ireturn, ex_ireturn_z, ex_ireturn_b, ex_ireturn_c, ex_areturn, ex_freturn, ex_dreturn, ex_return, ex_is0, ex_is1, ex_is2, ex_is3, ex_is4, ex_is5, ex_is6, ex_is7, ex_iv1, ex_iv2, ex_iv3, ex_iv4, ex_iv5, ex_iv6, ex_iv7, ex_ip1, ex_ip2, ex_ip3, ex_ip4, ex_ip5, ex_ip6, ex_ip7, ex_iu1, ex_iu2, ex_iu3, ex_iu4, ex_iu5, ex_iu6, ex_iu7, List.getD_cons_zero, List.getD_cons_succ, List.set_cons_zero, List.set_cons_succ, isI_i, isA_r, isD_d, isF_f, GInc, ko_v, ko_n, cat_i2, cat_r2, cat_n2, cat_f2, cat_d2, cat_l2, Nat.zero_le, Nat.zero_add, Nat.le_refl, Nat.reduceAdd, Nat.reduceLeDiff, ne_eq, not_false_eq_true, Nat.reduceEqDiff, sI_mk, wI_mk, wCp_mk, Option.toList, List.nil_append, List.cons_append, kd_20, kd_21, kd_22, kd_23, kd_24, kd_25, kd_26, kd_27, kd_28, kd_29, kd_30, kd_31, kd_32, kd_33, kd_34, kd_35, kd_36, kd_37, kd_38, kd_39, kd_40, kd_41, kd_42, kd_43, kd_44, kd_45, kd_46, kd_47, kd_48, kd_49, kd_50, kd_51, kd_52, kd_53, kd_54, o4, hn, if_false, o1, o2, ik_succ, ih2]
    rfl
theorem mvl_ok (hG : StG r) (h : RowX N n B L ac pc mo nx) {b : Nat} (hb : b < 5) : Cl (d + 3) 258 [vr 11 0, vi (ik b)] (pr f N, r) Q ↔ Q (.inl (some (vi (vlX (L b) 0)))) (pr f N, r) := by
  rw [en258]
  simp only [B258_0, ex_iconst, ex_bipush, ex_sipush, ex_ldc, ex_ldcs, ex_fconst, ex_dconst, ex_iload_n, ex_iload, ex_aload_n, ex_aload, ex_dload_n, ex_dload, ex_fload, ex_istore_n, ex_istore, ex_fstore, ex_dstore_n, ex_dstore, ex_astore_n, ex_astore, ex_iinc, ex_ginc, ex_pop_i, ex_pop_r, ex_dup_i, ex_dup_r, ex_dup_x1, ex_dup2, ex_iadd, ex_isub, ex_imul, ex_iand, ex_ior, ex_ixor, ex_ishl, ex_ishr, ex_idiv, ex_irem, ex_ineg, ex_i2l, ex_i2c, ex_i2b, ex_i2f, ex_i2d, ex_f2d, ex_fdiv, ex_ddiv, ex_lcmp, ex_dcmp, ex_getI, ex_getR, ex_putI, ex_putB, ex_putZ, ex_putR, ex_getsI, ex_getsR, ex_iald, ex_cald, ex_iast, ex_cast, ex_aast, ex_alen, ex_copy1, ex_copy2, ex_throw, ex_goto, ex_fall, ex_if_eq, ex_ic_eq, ex_if_ne, ex_ic_ne, ex_if_lt, ex_ic_lt, ex_if_ge, ex_ic_ge, ex_if_gt, ex_ic_gt, ex_if_le, ex_ic_le, ex_switch, ex_ireturn, ex_ireturn_z, ex_ireturn_b, ex_ireturn_c, ex_areturn, ex_freturn, ex_dreturn, ex_return, ex_is0, ex_is1, ex_is2, ex_is3, ex_is4, ex_is5, ex_is6, ex_is7, ex_iv1, ex_iv2, ex_iv3, ex_iv4, ex_iv5, ex_iv6, ex_iv7, ex_ip1, ex_ip2, ex_ip3, ex_ip4, ex_ip5, ex_ip6, ex_ip7, ex_iu1, ex_iu2, ex_iu3, ex_iu4, ex_iu5, ex_iu6, ex_iu7, List.getD_cons_zero, List.getD_cons_succ, List.set_cons_zero, List.set_cons_succ, isI_i, isA_r, isD_d, isF_f, GInc, ko_v, ko_n, cat_i2, cat_r2, cat_n2, cat_f2, cat_d2, cat_l2, Nat.zero_le, Nat.zero_add, Nat.le_refl, Nat.reduceAdd, Nat.reduceLeDiff, ne_eq, not_false_eq_true, Nat.reduceEqDiff, sI_mk, wI_mk, wCp_mk, Option.toList, List.nil_append, List.cons_append, kd_20, kd_21, kd_22, kd_23, kd_24, kd_25, kd_26, kd_27, kd_28, kd_29, kd_30, kd_31, kd_32, kd_33, kd_34, kd_35, kd_36, kd_37, kd_38, kd_39, kd_40, kd_41, kd_42, kd_43, kd_44, kd_45, kd_46, kd_47, kd_48, kd_49, kd_50, kd_51, kd_52, kd_53, kd_54]
  exact mvl_lp hG h hb (L b) [] 0 rfl
theorem mpl_lp (hG : StG r) (h : RowX N n B L ac pc mo nx) {b : Nat} (hb : b < 5) {z : Int32} : ∀ (post pre : List Sk), L b = pre ++ post → (Jx (d + 2) 208 1 [vr 11 0, vi (ik b), vi z, vi (ik pre.length)] [] (pr f N, r) Q ↔ Q (.inl (some (vi (plX z post pre.length)))) (pr f N, r)) := by
  have h10 := (h.b0 hb).2.2.2.2.2
  intro post
  induction post with
  | nil =>
    intro pre e
    rw [List.append_nil] at e
    have hc := le_self_i (a := ik pre.length)
    have o4 := fun Q => mb4 (d := d + 1) (f := f) (Q := Q) hG h hb
    rw [e] at o4
    rw [jb208_1]
    simp only [B208_1, B208_3, jb208_3, ex_iconst, ex_bipush, ex_sipush, ex_ldc, ex_ldcs, ex_fconst, ex_dconst, ex_iload_n, ex_iload, ex_aload_n, ex_aload, ex_dload_n, ex_dload, ex_fload, ex_istore_n, ex_istore, ex_fstore, ex_dstore_n, ex_dstore, ex_astore_n, ex_astore, ex_iinc, ex_ginc, ex_pop_i, ex_pop_r, ex_dup_i, ex_dup_r, ex_dup_x1, ex_dup2, ex_iadd, ex_isub, ex_imul, ex_iand, ex_ior, ex_ixor, ex_ishl, ex_ishr, ex_idiv, ex_irem, ex_ineg, ex_i2l, ex_i2c, ex_i2b, ex_i2f, ex_i2d, ex_f2d, ex_fdiv, ex_ddiv, ex_lcmp, ex_dcmp, ex_getI, ex_getR, ex_putI, ex_putB, ex_putZ, ex_putR, ex_getsI, ex_getsR, ex_iald, ex_cald, ex_iast, ex_cast, ex_aast, ex_alen, ex_copy1, ex_copy2, ex_throw, ex_goto, ex_fall, ex_if_eq, ex_ic_eq, ex_if_ne, ex_ic_ne, ex_if_lt, ex_ic_lt, ex_if_ge, ex_ic_ge, ex_if_gt, ex_ic_gt, ex_if_le, ex_ic_le, ex_switch, ex_ireturn, ex_ireturn_z, ex_ireturn_b, ex_ireturn_c, ex_areturn, ex_freturn, ex_dreturn, ex_return, ex_is0, ex_is1, ex_is2, ex_is3, ex_is4, ex_is5, ex_is6, ex_is7, ex_iv1, ex_iv2, ex_iv3, ex_iv4, ex_iv5, ex_iv6, ex_iv7, ex_ip1, ex_ip2, ex_ip3, ex_ip4, ex_ip5, ex_ip6, ex_ip7, ex_iu1, ex_iu2, ex_iu3, ex_iu4, ex_iu5, ex_iu6, ex_iu7, List.getD_cons_zero, List.getD_cons_succ, List.set_cons_zero, List.set_cons_succ, isI_i, isA_r, isD_d, isF_f, GInc, ko_v, ko_n, cat_i2, cat_r2, cat_n2, cat_f2, cat_d2, cat_l2, Nat.zero_le, Nat.zero_add, Nat.le_refl, Nat.reduceAdd, Nat.reduceLeDiff, ne_eq, not_false_eq_true, Nat.reduceEqDiff, sI_mk, wI_mk, wCp_mk, Option.toList, List.nil_append, List.cons_append, kd_20, kd_21, kd_22, kd_23, kd_24, kd_25, kd_26, kd_27, kd_28, kd_29, kd_30, kd_31, kd_32, kd_33, kd_34, kd_35, kd_36, kd_37, kd_38, kd_39, kd_40, kd_41, kd_42, kd_43, kd_44, kd_45, kd_46, kd_47, kd_48, kd_49, kd_50, kd_51, kd_52, kd_53, kd_54, o4, hc, if_true]
    rfl
  | cons x post ih =>
    intro pre e
    have o4 := fun Q => mb4 (d := d + 1) (f := f) (Q := Q) hG h hb
    rw [e] at o4 h10
    have hn := len_gt (pre := pre) (post := post) (x := x) (by omega)
    have hx : (L b)[pre.length]? = some x := by rw [e]; exact mid_at
    have o1 := fun Q => ms0 (d := d) (f := f) (Q := Q) hG h hb hx
    have ih2 := ih (pre ++ [x]) (by rw [e]; exact app_one)
    rw [len_one] at ih2
    rw [jb208_1]
    simp only [B208_1, ex_iconst, ex_bipush, ex_sipush, ex_ldc, ex_ldcs, ex_fconst, ex_dconst, ex_iload_n, ex_iload, ex_aload_n, ex_aload, ex_dload_n, ex_dload, ex_fload, ex_istore_n, ex_istore, ex_fstore, ex_dstore_n, ex_dstore, ex_astore_n, ex_astore, ex_iinc, ex_ginc, ex_pop_i, ex_pop_r, ex_dup_i, ex_dup_r, ex_dup_x1, ex_dup2, ex_iadd, ex_isub, ex_imul, ex_iand, ex_ior, ex_ixor, ex_ishl, ex_ishr, ex_idiv, ex_irem, ex_ineg, ex_i2l, ex_i2c, ex_i2b, ex_i2f, ex_i2d, ex_f2d, ex_fdiv, ex_ddiv, ex_lcmp, ex_dcmp, ex_getI, ex_getR, ex_putI, ex_putB, ex_putZ, ex_putR, ex_getsI, ex_getsR, ex_iald, ex_cald, ex_iast, ex_cast, ex_aast, ex_alen, ex_copy1, ex_copy2, ex_throw, ex_goto, ex_fall, ex_if_eq, ex_ic_eq, ex_if_ne, ex_ic_ne, ex_if_lt, ex_ic_lt, ex_if_ge, ex_ic_ge, ex_if_gt, ex_ic_gt, ex_if_le, ex_ic_le, ex_switch, ex_ireturn, ex_ireturn_z, ex_ireturn_b, ex_ireturn_c, ex_areturn, ex_freturn, ex_dreturn, ex_return, ex_is0, ex_is1, ex_is2, ex_is3, ex_is4, ex_is5, ex_is6, ex_is7, ex_iv1, ex_iv2, ex_iv3, ex_iv4, ex_iv5, ex_iv6, ex_iv7, ex_ip1, ex_ip2, ex_ip3, ex_ip4, ex_ip5, ex_ip6, ex_ip7, ex_iu1, ex_iu2, ex_iu3, ex_iu4, ex_iu5, ex_iu6, ex_iu7, List.getD_cons_zero, List.getD_cons_succ, List.set_cons_zero, List.set_cons_succ, isI_i, isA_r, isD_d, isF_f, GInc, ko_v, ko_n, cat_i2, cat_r2, cat_n2, cat_f2, cat_d2, cat_l2, Nat.zero_le, Nat.zero_add, Nat.le_refl, Nat.reduceAdd, Nat.reduceLeDiff, ne_eq, not_false_eq_true, Nat.reduceEqDiff, sI_mk, wI_mk, wCp_mk, Option.toList, List.nil_append, List.cons_append, kd_20, kd_21, kd_22, kd_23, kd_24, kd_25, kd_26, kd_27, kd_28, kd_29, kd_30, kd_31, kd_32, kd_33, kd_34, kd_35, kd_36, kd_37, kd_38, kd_39, kd_40, kd_41, kd_42, kd_43, kd_44, kd_45, kd_46, kd_47, kd_48, kd_49, kd_50, kd_51, kd_52, kd_53, kd_54, o4, hn, if_false, o1, ik_succ, B208_2, jb208_2, ih2]
    rw [plX_c]
    by_cases hz : kId x = z <;> simp [hz]
theorem mpl_ok (hG : StG r) (h : RowX N n B L ac pc mo nx) {b : Nat} (hb : b < 5) {z : Int32} : Cl (d + 3) 208 [vr 11 0, vi (ik b), vi z] (pr f N, r) Q ↔ Q (.inl (some (vi (plX z (L b) 0)))) (pr f N, r) := by
  rw [en208]
  simp only [B208_0, ex_iconst, ex_bipush, ex_sipush, ex_ldc, ex_ldcs, ex_fconst, ex_dconst, ex_iload_n, ex_iload, ex_aload_n, ex_aload, ex_dload_n, ex_dload, ex_fload, ex_istore_n, ex_istore, ex_fstore, ex_dstore_n, ex_dstore, ex_astore_n, ex_astore, ex_iinc, ex_ginc, ex_pop_i, ex_pop_r, ex_dup_i, ex_dup_r, ex_dup_x1, ex_dup2, ex_iadd, ex_isub, ex_imul, ex_iand, ex_ior, ex_ixor, ex_ishl, ex_ishr, ex_idiv, ex_irem, ex_ineg, ex_i2l, ex_i2c, ex_i2b, ex_i2f, ex_i2d, ex_f2d, ex_fdiv, ex_ddiv, ex_lcmp, ex_dcmp, ex_getI, ex_getR, ex_putI, ex_putB, ex_putZ, ex_putR, ex_getsI, ex_getsR, ex_iald, ex_cald, ex_iast, ex_cast, ex_aast, ex_alen, ex_copy1, ex_copy2, ex_throw, ex_goto, ex_fall, ex_if_eq, ex_ic_eq, ex_if_ne, ex_ic_ne, ex_if_lt, ex_ic_lt, ex_if_ge, ex_ic_ge, ex_if_gt, ex_ic_gt, ex_if_le, ex_ic_le, ex_switch, ex_ireturn, ex_ireturn_z, ex_ireturn_b, ex_ireturn_c, ex_areturn, ex_freturn, ex_dreturn, ex_return, ex_is0, ex_is1, ex_is2, ex_is3, ex_is4, ex_is5, ex_is6, ex_is7, ex_iv1, ex_iv2, ex_iv3, ex_iv4, ex_iv5, ex_iv6, ex_iv7, ex_ip1, ex_ip2, ex_ip3, ex_ip4, ex_ip5, ex_ip6, ex_ip7, ex_iu1, ex_iu2, ex_iu3, ex_iu4, ex_iu5, ex_iu6, ex_iu7, List.getD_cons_zero, List.getD_cons_succ, List.set_cons_zero, List.set_cons_succ, isI_i, isA_r, isD_d, isF_f, GInc, ko_v, ko_n, cat_i2, cat_r2, cat_n2, cat_f2, cat_d2, cat_l2, Nat.zero_le, Nat.zero_add, Nat.le_refl, Nat.reduceAdd, Nat.reduceLeDiff, ne_eq, not_false_eq_true, Nat.reduceEqDiff, sI_mk, wI_mk, wCp_mk, Option.toList, List.nil_append, List.cons_append, kd_20, kd_21, kd_22, kd_23, kd_24, kd_25, kd_26, kd_27, kd_28, kd_29, kd_30, kd_31, kd_32, kd_33, kd_34, kd_35, kd_36, kd_37, kd_38, kd_39, kd_40, kd_41, kd_42, kd_43, kd_44, kd_45, kd_46, kd_47, kd_48, kd_49, kd_50, kd_51, kd_52, kd_53, kd_54]
  exact mpl_lp hG h hb (L b) [] rfl
/-- the bin of the sack z, from the bin k on, n of them -/
def bwX (L : Nat → List Sk) (z : Int32) : Nat → Nat → Int32
  | 0, _ => -1
  | m + 1, k => if plX z (L k) 0 < 0 then bwX L z m (k + 1) else ik k
theorem bwX_c {L : Nat → List Sk} {z : Int32} {m k : Nat} : bwX L z (m + 1) k = if plX z (L k) 0 < 0 then bwX L z m (k + 1) else ik k := rfl
theorem inb0 : inb (0 : Int32) 304 := inbB_iff.mp (by decide)
theorem ixn0 : ix (0 : Int32) = 0 := by decide
theorem inb1 : inb (1 : Int32) 304 := inbB_iff.mp (by decide)
theorem ixn1 : ix (1 : Int32) = 1 := by decide
theorem inb2 : inb (2 : Int32) 304 := inbB_iff.mp (by decide)
theorem ixn2 : ix (2 : Int32) = 2 := by decide
theorem mbw_lp (hG : StG r) (h : RowX N n B L ac pc mo nx) {z : Int32} : ∀ (m k : Nat), k + m = n → (Jx (d + 3) 207 1 [vr 11 0, vi z, vi (ik k)] [] (pr f N, r) Q ↔ Q (.inl (some (vi (bwX L z m k)))) (pr f N, r)) := by
  have h0 := h.1
  have h5 := h.2.1
  intro m
  induction m with
  | zero =>
    intro k hk
    have hc : ik n ≤ ik k := by rw [ik_le (by omega) (by omega)]; omega
    rw [jb207_1]
    simp only [B207_1, B207_3, jb207_3, ex_iconst, ex_bipush, ex_sipush, ex_ldc, ex_ldcs, ex_fconst, ex_dconst, ex_iload_n, ex_iload, ex_aload_n, ex_aload, ex_dload_n, ex_dload, ex_fload, ex_istore_n, ex_istore, ex_fstore, ex_dstore_n, ex_dstore, ex_astore_n, ex_astore, ex_iinc, ex_ginc, ex_pop_i, ex_pop_r, ex_dup_i, ex_dup_r, ex_dup_x1, ex_dup2, ex_iadd, ex_isub, ex_imul, ex_iand, ex_ior, ex_ixor, ex_ishl, ex_ishr, ex_idiv, ex_irem, ex_ineg, ex_i2l, ex_i2c, ex_i2b, ex_i2f, ex_i2d, ex_f2d, ex_fdiv, ex_ddiv, ex_lcmp, ex_dcmp, ex_getI, ex_getR, ex_putI, ex_putB, ex_putZ, ex_putR, ex_getsI, ex_getsR, ex_iald, ex_cald, ex_iast, ex_cast, ex_aast, ex_alen, ex_copy1, ex_copy2, ex_throw, ex_goto, ex_fall, ex_if_eq, ex_ic_eq, ex_if_ne, ex_ic_ne, ex_if_lt, ex_ic_lt, ex_if_ge, ex_ic_ge, ex_if_gt, ex_ic_gt, ex_if_le, ex_ic_le, ex_switch, ex_ireturn, ex_ireturn_z, ex_ireturn_b, ex_ireturn_c, ex_areturn, ex_freturn, ex_dreturn, ex_return, ex_is0, ex_is1, ex_is2, ex_is3, ex_is4, ex_is5, ex_is6, ex_is7, ex_iv1, ex_iv2, ex_iv3, ex_iv4, ex_iv5, ex_iv6, ex_iv7, ex_ip1, ex_ip2, ex_ip3, ex_ip4, ex_ip5, ex_ip6, ex_ip7, ex_iu1, ex_iu2, ex_iu3, ex_iu4, ex_iu5, ex_iu6, ex_iu7, List.getD_cons_zero, List.getD_cons_succ, List.set_cons_zero, List.set_cons_succ, isI_i, isA_r, isD_d, isF_f, GInc, ko_v, ko_n, cat_i2, cat_r2, cat_n2, cat_f2, cat_d2, cat_l2, Nat.zero_le, Nat.zero_add, Nat.le_refl, Nat.reduceAdd, Nat.reduceLeDiff, ne_eq, not_false_eq_true, Nat.reduceEqDiff, sI_mk, wI_mk, wCp_mk, Option.toList, List.nil_append, List.cons_append, kd_20, kd_21, kd_22, kd_23, kd_24, kd_25, kd_26, kd_27, kd_28, kd_29, kd_30, kd_31, kd_32, kd_33, kd_34, kd_35, kd_36, kd_37, kd_38, kd_39, kd_40, kd_41, kd_42, kd_43, kd_44, kd_45, kd_46, kd_47, kd_48, kd_49, kd_50, kd_51, kd_52, kd_53, kd_54, rg0_0 hG, rg0_1 hG, rg0_2 hG, rg0_4 hG, rg0_5 hG, rg0_6 hG, rg0_7 hG, rg0_8 hG, rg6_0 hG, rg8_0 hG, rg8_1 hG, rg8_4 hG, rg8_5 hG, rg8_6 hG, rg8_7 hG, rg9_0 hG, rg9_2 hG, rg9_3 hG, rg11_0 hG, rg11_1 hG, rg11_2 hG, rg11_3 hG, rg11_4 hG, rg11_5 hG, rg11_15 hG, rg11_17 hG, rg11_18 hG, rg11_19 hG, rl32 hG, rl33 hG, rl34 hG, rl35 hG, rl36 hG, rl37 hG, rl38 hG, rl39 hG, rl40 hG, rl41 hG, rl43 hG, rl44 hG, rl45 hG, rl46 hG, rl47 hG, rl48 hG, rl49 hG, rl50 hG, rl51 hG, rl52 hG, inb0, ixn0, pr_43, h0, hc, if_true]
    rfl
  | succ m ih =>
    intro k hk
    have hc : ¬ ik n ≤ ik k := by rw [ik_le (by omega) (by omega)]; omega
    have o := fun Q => mpl_ok (d := d) (f := f) (Q := Q) hG h (show k < 5 by omega) (z := z)
    have ih2 := ih (k + 1) (by omega)
    rw [jb207_1]
    simp only [B207_1, ex_iconst, ex_bipush, ex_sipush, ex_ldc, ex_ldcs, ex_fconst, ex_dconst, ex_iload_n, ex_iload, ex_aload_n, ex_aload, ex_dload_n, ex_dload, ex_fload, ex_istore_n, ex_istore, ex_fstore, ex_dstore_n, ex_dstore, ex_astore_n, ex_astore, ex_iinc, ex_ginc, ex_pop_i, ex_pop_r, ex_dup_i, ex_dup_r, ex_dup_x1, ex_dup2, ex_iadd, ex_isub, ex_imul, ex_iand, ex_ior, ex_ixor, ex_ishl, ex_ishr, ex_idiv, ex_irem, ex_ineg, ex_i2l, ex_i2c, ex_i2b, ex_i2f, ex_i2d, ex_f2d, ex_fdiv, ex_ddiv, ex_lcmp, ex_dcmp, ex_getI, ex_getR, ex_putI, ex_putB, ex_putZ, ex_putR, ex_getsI, ex_getsR, ex_iald, ex_cald, ex_iast, ex_cast, ex_aast, ex_alen, ex_copy1, ex_copy2, ex_throw, ex_goto, ex_fall, ex_if_eq, ex_ic_eq, ex_if_ne, ex_ic_ne, ex_if_lt, ex_ic_lt, ex_if_ge, ex_ic_ge, ex_if_gt, ex_ic_gt, ex_if_le, ex_ic_le, ex_switch, ex_ireturn, ex_ireturn_z, ex_ireturn_b, ex_ireturn_c, ex_areturn, ex_freturn, ex_dreturn, ex_return, ex_is0, ex_is1, ex_is2, ex_is3, ex_is4, ex_is5, ex_is6, ex_is7, ex_iv1, ex_iv2, ex_iv3, ex_iv4, ex_iv5, ex_iv6, ex_iv7, ex_ip1, ex_ip2, ex_ip3, ex_ip4, ex_ip5, ex_ip6, ex_ip7, ex_iu1, ex_iu2, ex_iu3, ex_iu4, ex_iu5, ex_iu6, ex_iu7, List.getD_cons_zero, List.getD_cons_succ, List.set_cons_zero, List.set_cons_succ, isI_i, isA_r, isD_d, isF_f, GInc, ko_v, ko_n, cat_i2, cat_r2, cat_n2, cat_f2, cat_d2, cat_l2, Nat.zero_le, Nat.zero_add, Nat.le_refl, Nat.reduceAdd, Nat.reduceLeDiff, ne_eq, not_false_eq_true, Nat.reduceEqDiff, sI_mk, wI_mk, wCp_mk, Option.toList, List.nil_append, List.cons_append, kd_20, kd_21, kd_22, kd_23, kd_24, kd_25, kd_26, kd_27, kd_28, kd_29, kd_30, kd_31, kd_32, kd_33, kd_34, kd_35, kd_36, kd_37, kd_38, kd_39, kd_40, kd_41, kd_42, kd_43, kd_44, kd_45, kd_46, kd_47, kd_48, kd_49, kd_50, kd_51, kd_52, kd_53, kd_54, rg0_0 hG, rg0_1 hG, rg0_2 hG, rg0_4 hG, rg0_5 hG, rg0_6 hG, rg0_7 hG, rg0_8 hG, rg6_0 hG, rg8_0 hG, rg8_1 hG, rg8_4 hG, rg8_5 hG, rg8_6 hG, rg8_7 hG, rg9_0 hG, rg9_2 hG, rg9_3 hG, rg11_0 hG, rg11_1 hG, rg11_2 hG, rg11_3 hG, rg11_4 hG, rg11_5 hG, rg11_15 hG, rg11_17 hG, rg11_18 hG, rg11_19 hG, rl32 hG, rl33 hG, rl34 hG, rl35 hG, rl36 hG, rl37 hG, rl38 hG, rl39 hG, rl40 hG, rl41 hG, rl43 hG, rl44 hG, rl45 hG, rl46 hG, rl47 hG, rl48 hG, rl49 hG, rl50 hG, rl51 hG, rl52 hG, inb0, ixn0, pr_43, h0, hc, if_false, o, ik_succ, B207_2, jb207_2, ih2]
    rw [bwX_c]
    by_cases hz : plX z (L k) 0 < 0 <;> simp [hz]
theorem mbw_ok (hG : StG r) (h : RowX N n B L ac pc mo nx) {z : Int32} : Cl (d + 4) 207 [vr 11 0, vi z] (pr f N, r) Q ↔ Q (.inl (some (vi (bwX L z n 0)))) (pr f N, r) := by
  rw [en207]
  simp only [B207_0, ex_iconst, ex_bipush, ex_sipush, ex_ldc, ex_ldcs, ex_fconst, ex_dconst, ex_iload_n, ex_iload, ex_aload_n, ex_aload, ex_dload_n, ex_dload, ex_fload, ex_istore_n, ex_istore, ex_fstore, ex_dstore_n, ex_dstore, ex_astore_n, ex_astore, ex_iinc, ex_ginc, ex_pop_i, ex_pop_r, ex_dup_i, ex_dup_r, ex_dup_x1, ex_dup2, ex_iadd, ex_isub, ex_imul, ex_iand, ex_ior, ex_ixor, ex_ishl, ex_ishr, ex_idiv, ex_irem, ex_ineg, ex_i2l, ex_i2c, ex_i2b, ex_i2f, ex_i2d, ex_f2d, ex_fdiv, ex_ddiv, ex_lcmp, ex_dcmp, ex_getI, ex_getR, ex_putI, ex_putB, ex_putZ, ex_putR, ex_getsI, ex_getsR, ex_iald, ex_cald, ex_iast, ex_cast, ex_aast, ex_alen, ex_copy1, ex_copy2, ex_throw, ex_goto, ex_fall, ex_if_eq, ex_ic_eq, ex_if_ne, ex_ic_ne, ex_if_lt, ex_ic_lt, ex_if_ge, ex_ic_ge, ex_if_gt, ex_ic_gt, ex_if_le, ex_ic_le, ex_switch, ex_ireturn, ex_ireturn_z, ex_ireturn_b, ex_ireturn_c, ex_areturn, ex_freturn, ex_dreturn, ex_return, ex_is0, ex_is1, ex_is2, ex_is3, ex_is4, ex_is5, ex_is6, ex_is7, ex_iv1, ex_iv2, ex_iv3, ex_iv4, ex_iv5, ex_iv6, ex_iv7, ex_ip1, ex_ip2, ex_ip3, ex_ip4, ex_ip5, ex_ip6, ex_ip7, ex_iu1, ex_iu2, ex_iu3, ex_iu4, ex_iu5, ex_iu6, ex_iu7, List.getD_cons_zero, List.getD_cons_succ, List.set_cons_zero, List.set_cons_succ, isI_i, isA_r, isD_d, isF_f, GInc, ko_v, ko_n, cat_i2, cat_r2, cat_n2, cat_f2, cat_d2, cat_l2, Nat.zero_le, Nat.zero_add, Nat.le_refl, Nat.reduceAdd, Nat.reduceLeDiff, ne_eq, not_false_eq_true, Nat.reduceEqDiff, sI_mk, wI_mk, wCp_mk, Option.toList, List.nil_append, List.cons_append, kd_20, kd_21, kd_22, kd_23, kd_24, kd_25, kd_26, kd_27, kd_28, kd_29, kd_30, kd_31, kd_32, kd_33, kd_34, kd_35, kd_36, kd_37, kd_38, kd_39, kd_40, kd_41, kd_42, kd_43, kd_44, kd_45, kd_46, kd_47, kd_48, kd_49, kd_50, kd_51, kd_52, kd_53, kd_54]
  exact mbw_lp hG h n 0 (by omega)
theorem min_in {v lo hi : Int32} : Cl (d + 1) 184 [vi v, vi lo, vi hi] s Q ↔ Q (.inl (some (vi (b01 (inR v lo hi))))) s := by
  rw [en184]
  simp only [B184_0, ex_iconst, ex_bipush, ex_sipush, ex_ldc, ex_ldcs, ex_fconst, ex_dconst, ex_iload_n, ex_iload, ex_aload_n, ex_aload, ex_dload_n, ex_dload, ex_fload, ex_istore_n, ex_istore, ex_fstore, ex_dstore_n, ex_dstore, ex_astore_n, ex_astore, ex_iinc, ex_ginc, ex_pop_i, ex_pop_r, ex_dup_i, ex_dup_r, ex_dup_x1, ex_dup2, ex_iadd, ex_isub, ex_imul, ex_iand, ex_ior, ex_ixor, ex_ishl, ex_ishr, ex_idiv, ex_irem, ex_ineg, ex_i2l, ex_i2c, ex_i2b, ex_i2f, ex_i2d, ex_f2d, ex_fdiv, ex_ddiv, ex_lcmp, ex_dcmp, ex_getI, ex_getR, ex_putI, ex_putB, ex_putZ, ex_putR, ex_getsI, ex_getsR, ex_iald, ex_cald, ex_iast, ex_cast, ex_aast, ex_alen, ex_copy1, ex_copy2, ex_throw, ex_goto, ex_fall, ex_if_eq, ex_ic_eq, ex_if_ne, ex_ic_ne, ex_if_lt, ex_ic_lt, ex_if_ge, ex_ic_ge, ex_if_gt, ex_ic_gt, ex_if_le, ex_ic_le, ex_switch, ex_ireturn, ex_ireturn_z, ex_ireturn_b, ex_ireturn_c, ex_areturn, ex_freturn, ex_dreturn, ex_return, ex_is0, ex_is1, ex_is2, ex_is3, ex_is4, ex_is5, ex_is6, ex_is7, ex_iv1, ex_iv2, ex_iv3, ex_iv4, ex_iv5, ex_iv6, ex_iv7, ex_ip1, ex_ip2, ex_ip3, ex_ip4, ex_ip5, ex_ip6, ex_ip7, ex_iu1, ex_iu2, ex_iu3, ex_iu4, ex_iu5, ex_iu6, ex_iu7, List.getD_cons_zero, List.getD_cons_succ, List.set_cons_zero, List.set_cons_succ, isI_i, isA_r, isD_d, isF_f, GInc, ko_v, ko_n, cat_i2, cat_r2, cat_n2, cat_f2, cat_d2, cat_l2, Nat.zero_le, Nat.zero_add, Nat.le_refl, Nat.reduceAdd, Nat.reduceLeDiff, ne_eq, not_false_eq_true, Nat.reduceEqDiff, sI_mk, wI_mk, wCp_mk, Option.toList, List.nil_append, List.cons_append, kd_20, kd_21, kd_22, kd_23, kd_24, kd_25, kd_26, kd_27, kd_28, kd_29, kd_30, kd_31, kd_32, kd_33, kd_34, kd_35, kd_36, kd_37, kd_38, kd_39, kd_40, kd_41, kd_42, kd_43, kd_44, kd_45, kd_46, kd_47, kd_48, kd_49, kd_50, kd_51, kd_52, kd_53, kd_54, jb184_1, B184_1, jb184_2, B184_2]
  by_cases h1 : v < lo
  · have h1' : ¬ lo ≤ v := fun z => lt_le_i.mpr z h1
    simp [h1, h1', inR, b01, ex_ireturn_z]
  · have h1' := lt_le_i.mp h1
    by_cases h2 : hi < v
    · have h2' : ¬ v ≤ hi := fun z => lt_le_i.mpr z h2
      simp [h1, h1', h2, h2', inR, b01, ex_ireturn_z]
    · have h2' := lt_le_i.mp h2
      simp [h1, h1', h2, h2', inR, b01, ex_ireturn_z]
theorem mism_ok {m : Int32} : Cl (d + 1) 185 [vi m] s Q ↔ Q (.inl (some (vi (b01 (isMB m))))) s := by
  rw [en185]
  simp only [B185_0, ex_iconst, ex_bipush, ex_sipush, ex_ldc, ex_ldcs, ex_fconst, ex_dconst, ex_iload_n, ex_iload, ex_aload_n, ex_aload, ex_dload_n, ex_dload, ex_fload, ex_istore_n, ex_istore, ex_fstore, ex_dstore_n, ex_dstore, ex_astore_n, ex_astore, ex_iinc, ex_ginc, ex_pop_i, ex_pop_r, ex_dup_i, ex_dup_r, ex_dup_x1, ex_dup2, ex_iadd, ex_isub, ex_imul, ex_iand, ex_ior, ex_ixor, ex_ishl, ex_ishr, ex_idiv, ex_irem, ex_ineg, ex_i2l, ex_i2c, ex_i2b, ex_i2f, ex_i2d, ex_f2d, ex_fdiv, ex_ddiv, ex_lcmp, ex_dcmp, ex_getI, ex_getR, ex_putI, ex_putB, ex_putZ, ex_putR, ex_getsI, ex_getsR, ex_iald, ex_cald, ex_iast, ex_cast, ex_aast, ex_alen, ex_copy1, ex_copy2, ex_throw, ex_goto, ex_fall, ex_if_eq, ex_ic_eq, ex_if_ne, ex_ic_ne, ex_if_lt, ex_ic_lt, ex_if_ge, ex_ic_ge, ex_if_gt, ex_ic_gt, ex_if_le, ex_ic_le, ex_switch, ex_ireturn, ex_ireturn_z, ex_ireturn_b, ex_ireturn_c, ex_areturn, ex_freturn, ex_dreturn, ex_return, ex_is0, ex_is1, ex_is2, ex_is3, ex_is4, ex_is5, ex_is6, ex_is7, ex_iv1, ex_iv2, ex_iv3, ex_iv4, ex_iv5, ex_iv6, ex_iv7, ex_ip1, ex_ip2, ex_ip3, ex_ip4, ex_ip5, ex_ip6, ex_ip7, ex_iu1, ex_iu2, ex_iu3, ex_iu4, ex_iu5, ex_iu6, ex_iu7, List.getD_cons_zero, List.getD_cons_succ, List.set_cons_zero, List.set_cons_succ, isI_i, isA_r, isD_d, isF_f, GInc, ko_v, ko_n, cat_i2, cat_r2, cat_n2, cat_f2, cat_d2, cat_l2, Nat.zero_le, Nat.zero_add, Nat.le_refl, Nat.reduceAdd, Nat.reduceLeDiff, ne_eq, not_false_eq_true, Nat.reduceEqDiff, sI_mk, wI_mk, wCp_mk, Option.toList, List.nil_append, List.cons_append, kd_20, kd_21, kd_22, kd_23, kd_24, kd_25, kd_26, kd_27, kd_28, kd_29, kd_30, kd_31, kd_32, kd_33, kd_34, kd_35, kd_36, kd_37, kd_38, kd_39, kd_40, kd_41, kd_42, kd_43, kd_44, kd_45, kd_46, kd_47, kd_48, kd_49, kd_50, kd_51, kd_52, kd_53, kd_54, jb185_1, B185_1, jb185_2, B185_2, jb185_3, B185_3]
  by_cases h1 : m = 102
  · simp [h1, isMB, b01, ex_ireturn_z]
  · by_cases h2 : m = 108
    · simp [h2, isMB, b01, ex_ireturn_z]
    · by_cases h3 : m = 104
      · simp [h3, isMB, b01, ex_ireturn_z]
      · simp [h1, h2, h3, isMB, b01, ex_ireturn_z]
/-- is there such a bin among n -/
def isBn (n : Nat) (b : Int32) : Bool := decide (0 ≤ b) && decide (b < ik n)
theorem isBn_k {n : Nat} {b : Int32} (h : isBn n b = true) (h5 : n ≤ 5) : ∃ k, b = ik k ∧ k < n := by
  simp only [isBn, Bool.and_eq_true, decide_eq_true_eq] at h
  rcases i32_cases b with ⟨k, hk, rfl⟩ | hb
  · exact ⟨k, rfl, (ik_lt hk (by omega)).mp h.2⟩
  · exact absurd h.1 (le_lt_i.mpr hb)
theorem inR_isBn {n : Nat} {b : Int32} (h5 : n ≤ 5) : inR b 0 (ik n - 1) = isBn n b := by
  have : (b ≤ ik n - 1) ↔ b < ik n := by
    rcases (show n = 0 ∨ n = 1 ∨ n = 2 ∨ n = 3 ∨ n = 4 ∨ n = 5 by omega) with rfl | rfl | rfl | rfl | rfl | rfl <;> rw [Int32.le_iff_toInt_le, Int32.lt_iff_toInt_lt]
    · show b.toInt ≤ -1 ↔ b.toInt < 0; omega
    · show b.toInt ≤ 0 ↔ b.toInt < 1; omega
    · show b.toInt ≤ 1 ↔ b.toInt < 2; omega
    · show b.toInt ≤ 2 ↔ b.toInt < 3; omega
    · show b.toInt ≤ 3 ↔ b.toInt < 4; omega
    · show b.toInt ≤ 4 ↔ b.toInt < 5; omega
  unfold inR isBn
  simp [this]
theorem mis_ok (hG : StG r) (h : RowX N n B L ac pc mo nx) {b : Int32} : Cl (d + 2) 194 [vr 11 0, vi b] (pr f N, r) Q ↔ Q (.inl (some (vi (b01 (isBn n b))))) (pr f N, r) := by
  have h0 := h.1
  rw [en194]
  simp only [B194_0, ex_iconst, ex_bipush, ex_sipush, ex_ldc, ex_ldcs, ex_fconst, ex_dconst, ex_iload_n, ex_iload, ex_aload_n, ex_aload, ex_dload_n, ex_dload, ex_fload, ex_istore_n, ex_istore, ex_fstore, ex_dstore_n, ex_dstore, ex_astore_n, ex_astore, ex_iinc, ex_ginc, ex_pop_i, ex_pop_r, ex_dup_i, ex_dup_r, ex_dup_x1, ex_dup2, ex_iadd, ex_isub, ex_imul, ex_iand, ex_ior, ex_ixor, ex_ishl, ex_ishr, ex_idiv, ex_irem, ex_ineg, ex_i2l, ex_i2c, ex_i2b, ex_i2f, ex_i2d, ex_f2d, ex_fdiv, ex_ddiv, ex_lcmp, ex_dcmp, ex_getI, ex_getR, ex_putI, ex_putB, ex_putZ, ex_putR, ex_getsI, ex_getsR, ex_iald, ex_cald, ex_iast, ex_cast, ex_aast, ex_alen, ex_copy1, ex_copy2, ex_throw, ex_goto, ex_fall, ex_if_eq, ex_ic_eq, ex_if_ne, ex_ic_ne, ex_if_lt, ex_ic_lt, ex_if_ge, ex_ic_ge, ex_if_gt, ex_ic_gt, ex_if_le, ex_ic_le, ex_switch, ex_ireturn, ex_ireturn_z, ex_ireturn_b, ex_ireturn_c, ex_areturn, ex_freturn, ex_dreturn, ex_return, ex_is0, ex_is1, ex_is2, ex_is3, ex_is4, ex_is5, ex_is6, ex_is7, ex_iv1, ex_iv2, ex_iv3, ex_iv4, ex_iv5, ex_iv6, ex_iv7, ex_ip1, ex_ip2, ex_ip3, ex_ip4, ex_ip5, ex_ip6, ex_ip7, ex_iu1, ex_iu2, ex_iu3, ex_iu4, ex_iu5, ex_iu6, ex_iu7, List.getD_cons_zero, List.getD_cons_succ, List.set_cons_zero, List.set_cons_succ, isI_i, isA_r, isD_d, isF_f, GInc, ko_v, ko_n, cat_i2, cat_r2, cat_n2, cat_f2, cat_d2, cat_l2, Nat.zero_le, Nat.zero_add, Nat.le_refl, Nat.reduceAdd, Nat.reduceLeDiff, ne_eq, not_false_eq_true, Nat.reduceEqDiff, sI_mk, wI_mk, wCp_mk, Option.toList, List.nil_append, List.cons_append, kd_20, kd_21, kd_22, kd_23, kd_24, kd_25, kd_26, kd_27, kd_28, kd_29, kd_30, kd_31, kd_32, kd_33, kd_34, kd_35, kd_36, kd_37, kd_38, kd_39, kd_40, kd_41, kd_42, kd_43, kd_44, kd_45, kd_46, kd_47, kd_48, kd_49, kd_50, kd_51, kd_52, kd_53, kd_54, rg0_0 hG, rg0_1 hG, rg0_2 hG, rg0_4 hG, rg0_5 hG, rg0_6 hG, rg0_7 hG, rg0_8 hG, rg6_0 hG, rg8_0 hG, rg8_1 hG, rg8_4 hG, rg8_5 hG, rg8_6 hG, rg8_7 hG, rg9_0 hG, rg9_2 hG, rg9_3 hG, rg11_0 hG, rg11_1 hG, rg11_2 hG, rg11_3 hG, rg11_4 hG, rg11_5 hG, rg11_15 hG, rg11_17 hG, rg11_18 hG, rg11_19 hG, rl32 hG, rl33 hG, rl34 hG, rl35 hG, rl36 hG, rl37 hG, rl38 hG, rl39 hG, rl40 hG, rl41 hG, rl43 hG, rl44 hG, rl45 hG, rl46 hG, rl47 hG, rl48 hG, rl49 hG, rl50 hG, rl51 hG, rl52 hG, inb0, ixn0, pr_43, h0, min_in, inR_isBn h.2.1]
  exact ex_ireturn_z (b01_or _)
end Mod
