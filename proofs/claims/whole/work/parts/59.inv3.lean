/-! a change that is fine keeps what holds of the data -/
theorem ik_of {v : Int32} {lo hi : Nat} (hlo : lo < 2147483648) (hh : hi < 2147483648) (h : inR v (ik lo) (ik hi) = true) : ∃ k, v = ik k ∧ lo ≤ k ∧ k ≤ hi := by
  obtain ⟨h1, h2⟩ := inR_iff.mp h
  rcases i32_cases v with ⟨k, hk, rfl⟩ | hv
  · exact ⟨k, rfl, (ik_le hlo hk).mp h1, (ik_le hk hh).mp h2⟩
  · exfalso
    have := ik_nn hlo
    rw [Int32.le_iff_toInt_le] at h1 this
    rw [Int32.lt_iff_toInt_lt] at hv
    omega
theorem hasB_of {D : Dt} {b : Int32} {c : Bool} (h5 : (dBs D).length ≤ 5) (h : jInB D b c = 0) : (∃ k, b = ik k ∧ k < (dBs D).length) ∧ c = true := ⟨hasB_k (jInB_has h) h5, jInB_ok h⟩
theorem fB_nil {n : Nat} {xs : List Sk} (hn : n ≤ 5) (h : ∀ x ∈ xs, ∃ k, k < n ∧ kB x = ik k) {j : Nat} (hj : n ≤ j) (hj5 : j < 1000) : fB j xs = [] := by
  unfold fB
  rw [List.filter_eq_nil_iff]
  intro x hx
  obtain ⟨k, hk, e⟩ := h x hx
  rw [e]
  simp only [decide_eq_true_eq]
  rw [ik_inj (by omega) (by omega)]
  omega
theorem bn_app {bs : List Bn} {q : Bn} {X Y : List Sk × (Nat → Int32) × (Nat → Int32) × Int32 × Int32} {j : Nat} : bnAt (bs ++ [q], X) j = if j = bs.length then q else bnAt (bs, Y) j := by
  unfold bnAt
  show (bs ++ [q]).getD j _ = if j = bs.length then q else bs.getD j _
  rw [List.getD_eq_getElem?_getD, List.getD_eq_getElem?_getD]
  by_cases h : j = bs.length
  · subst h
    rw [if_pos rfl, mid_at]
    rfl
  · rw [if_neg h]
    by_cases h2 : j < bs.length
    · rw [List.getElem?_append_left h2]
    · rw [List.getElem?_eq_none (by simp; omega), List.getElem?_eq_none (by omega)]
theorem OkS.mono {n m : Nat} {x : Sk} (h : OkS n x) (hm : n ≤ m) : OkS m x := by
  obtain ⟨a, b, c, d, k, hk, e⟩ := h
  exact ⟨a, b, c, d, k, by omega, e⟩
theorem inv_bin {U : Nat} {D : Dt} (h : Inv U D) {c m : Int32} (hJ : (jBin D c m).1 = 0) : Inv (U + 1) (dBs D ++ [(c, m, 0, 0)], D.2) := by
  obtain ⟨⟨⟨h5, hB⟩, ⟨s1, s2, s3, s4⟩, hP, hA⟩, hN⟩ := h
  unfold jBin at hJ
  by_cases hc : (inR c 20 400 && isMB m) = true
  · rw [if_pos hc] at hJ
    rw [Bool.and_eq_true] at hc
    by_cases hl : ik (dBs D).length < 5
    · have hlt : (dBs D).length < 5 := by
        rw [show (5 : Int32) = ik 5 from rfl, ik_lt (by omega) (by decide)] at hl
        exact hl
      obtain ⟨k, ek, k1, k2⟩ := ik_of (lo := 20) (hi := 400) (by decide) (by decide) hc.1
      refine ⟨⟨⟨by show (dBs D ++ [(c, m, 0, 0)]).length ≤ 5; rw [len_one]; omega, fun q hq => ?_⟩, ?_, hP, hA⟩, hN.up (by omega)⟩
      · rcases List.mem_append.mp hq with hq | hq
        · exact hB q hq
        · rw [List.mem_singleton.mp hq]
          exact ⟨⟨k, ek, k1, k2⟩, hc.2, ⟨0, rfl, by decide⟩, 0, rfl, by decide⟩
      · show InvS (dBs D ++ [(c, m, 0, 0)]).length (dNx D) _ (dSs D)
        rw [len_one]
        refine ⟨fun x hx => (s1 x hx).mono (by omega), s2, s3, fun j hj => ?_⟩
        rw [bn_app (Y := D.2)]
        by_cases hjl : j = (dBs D).length
        · rw [fB_nil (n := (dBs D).length) h5 (fun x hx => (s1 x hx).2.2.2.2) (by omega) (by omega)]
          exact ⟨Nat.zero_le _, Nat.zero_le _⟩
        · rw [if_neg hjl]
          exact s4 j (by omega)
    · rw [if_neg hl] at hJ
      exact absurd hJ (by decide)
  · rw [if_neg hc] at hJ
    exact absurd hJ (by decide)
theorem Inv.setB {U : Nat} {D : Dt} (h : Inv U D) {k t : Nat} {v : Int32} (hk : k < (dBs D).length) (ht : t ≠ 20) (hq : OkB (setBn t (bnAt D k) v)) : Inv (U + 1) (setD t k v D) := ⟨h.1.setD hk ht hq h.1.2.1 h.1.2.2.2, h.2.up (by omega)⟩
theorem room_n {D : Dt} (h : InvC D) {k w : Nat} (hk : k < (dBs D).length) (hw : w ≤ 60) (hJ : (jRoom D (ik k) (ik w) (capOf D (ik k))).1 = 0) : (fB k (dSs D)).length ≤ 9 ∧ nws (fB k (dSs D)) + w ≤ ix (bC (bnAt D k)) := by
  obtain ⟨h1, h2⟩ := jRoom_0 hJ
  obtain ⟨⟨c, ec, -, hc⟩, -⟩ := h.okB hk
  have h5 := h.1.1
  obtain ⟨h3, h4⟩ := h.2.1.2.2.2 k hk
  rw [num_fB, Int32.zero_add, show (10 : Int32) = ik 10 from rfl, ik_le (by decide) (by omega)] at h1
  have ecap : capOf D (ik k) = ik c := by
    unfold capOf
    rw [ix_ik (by omega)]
    exact ec
  rw [ec, ix_ik (by omega)] at h4 ⊢
  rw [ecap, kg_nws h, ik_sub h4, ik_le (by omega) (by omega)] at h2
  exact ⟨by omega, by omega⟩
theorem InvA.store {ac : Nat → Int32} {xs : List Sk} (h : InvA ac xs) {y : Sk} {w p : Int32} (hw : kW y = w) (hp : kP y = p) : InvA (updn (updn ac 0 (ac 0 + w)) 5 (ac 5 + w * p)) (xs ++ [y]) := by
  obtain ⟨h1, h2⟩ := h
  have e1 : wgX [y] 0 = w := by show 0 + kW y = w; rw [hw, Int32.zero_add]
  have e2 : vlX [y] 0 = w * p := by show 0 + kW y * kP y = w * p; rw [hw, hp, Int32.zero_add]
  constructor
  · rw [updn_ne (by decide), updn_eq, updn_ne (by decide), updn_ne (by decide), updn_ne (by decide), updn_ne (by decide), updn_ne (by decide), updn_ne (by decide), wgX_app, e1, h1]
    grind
  · rw [updn_eq, updn_ne (by decide), updn_ne (by decide), updn_ne (by decide), updn_ne (by decide), vlX_app, e2, h2]
    grind
theorem InvA.sift {ac : Nat → Int32} {xs ys : List Sk} (h : InvA ac xs) {c l : Int32} (h1 : vlX ys 0 + c = vlX xs 0 + ac 7) (h2 : wgX ys 0 + l = wgX xs 0 + 0) : InvA (updn (updn ac 7 c) 3 (ac 3 + l)) ys := by
  obtain ⟨g1, g2⟩ := h
  constructor
  · rw [updn_eq, updn_ne (by decide), updn_ne (by decide), updn_ne (by decide), updn_ne (by decide), updn_ne (by decide), updn_ne (by decide), g1]
    grind
  · rw [updn_ne (by decide), updn_ne (by decide), updn_ne (by decide), updn_ne (by decide), updn_ne (by decide), updn_eq]
    grind
theorem InvA.sell {ac : Nat → Int32} {xs ys : List Sk} (h : InvA ac xs) {c l q : Int32} (h1 : vlX ys 0 + c = vlX xs 0 + ac 6) (h2 : wgX ys 0 + l = wgX xs 0) : InvA (updn (updn (updn ac 6 c) 1 (ac 1 + l)) 4 q) ys := by
  obtain ⟨g1, g2⟩ := h
  constructor
  · rw [updn_ne (by decide), updn_ne (by decide), updn_ne (by decide), updn_ne (by decide), updn_eq, updn_ne (by decide), updn_ne (by decide), updn_ne (by decide), updn_ne (by decide), updn_ne (by decide), updn_ne (by decide), g1, ← h2]
    grind
  · rw [updn_ne (by decide), updn_ne (by decide), updn_ne (by decide), updn_ne (by decide), updn_ne (by decide), updn_eq, updn_ne (by decide), updn_ne (by decide), updn_ne (by decide)]
    grind
theorem inv_store {U : Nat} {D : Dt} (h : Inv U D) (hU : U < 1000000) {b w p g : Int32} (hJ : (jSack D b w p g).1 = 0) : Inv (U + 1) (storeD b w p g D).2 := by
  obtain ⟨hC, ⟨m, em, hm⟩, ⟨z, ez, hz⟩, ⟨s, es, hs⟩⟩ := h
  have hC2 := hC
  obtain ⟨⟨h5, hB⟩, ⟨s1, s2, s3, s4⟩, hP, hA⟩ := hC2
  unfold jSack at hJ
  by_cases hj : jInB D b (inR w 1 60 && inR p 1 30 && inR g 0 9) = 0
  · rw [if_pos hj] at hJ
    obtain ⟨⟨k, rfl, hk⟩, hv⟩ := hasB_of h5 hj
    rw [Bool.and_eq_true, Bool.and_eq_true] at hv
    obtain ⟨w', rfl, w1, w2⟩ := ik_of (lo := 1) (hi := 60) (by decide) (by decide) hv.1.1
    obtain ⟨p', rfl, p1, p2⟩ := ik_of (lo := 1) (hi := 30) (by decide) (by decide) hv.1.2
    obtain ⟨g', rfl, g1, g2⟩ := ik_of (lo := 0) (hi := 9) (by decide) (by decide) hv.2
    obtain ⟨r1, r2⟩ := room_n hC hk w2 hJ
    have hnx : dNx D < dNx D + 1 := by rw [em, ik_succ, ik_lt (by omega) (by omega)]; omega
    have tr : ∀ {a b c : Int32}, a < b → b < c → a < c := fun {a b c} h1 h2 => by
      rw [Int32.lt_iff_toInt_lt] at *
      omega
    refine ⟨⟨⟨h5, hB⟩, ⟨fun x hx => ?_, ?_, fun x hx => ?_, fun j hj => ?_⟩, hP, InvA.store hA rfl rfl⟩, ⟨m + 1, ?_, by omega⟩, ⟨z, ez, by omega⟩, s + w', ?_, by omega⟩
    · rcases List.mem_append.mp hx with hx | hx
      · exact s1 x hx
      · rw [List.mem_singleton.mp hx]
        exact ⟨by show (0 : Int32) ≤ dNx D; rw [em]; exact ik_nn (by omega), ⟨w', rfl, w1, w2⟩, ⟨p', rfl, p1, p2⟩, ⟨g', rfl, g2⟩, k, hk, rfl⟩
    · show (dSs D ++ [_]).Pairwise _
      rw [List.pairwise_append]
      refine ⟨s2, List.pairwise_singleton _ _, fun x hx y hy => ?_⟩
      rw [List.mem_singleton.mp hy]
      exact s3 x hx
    · rcases List.mem_append.mp hx with hx | hx
      · exact tr (s3 x hx) hnx
      · rw [List.mem_singleton.mp hx]
        exact hnx
    · show (fB j (dSs D ++ [_])).length ≤ 10 ∧ nws (fB j (dSs D ++ [_])) ≤ _
      obtain ⟨t1, t2⟩ := s4 j hj
      rw [fB_app, fB_c, List.length_append, nws_app]
      have hj' : j < (dBs D).length := hj
      by_cases hjk : j = k
      · subst hjk
        have e1 : kB ((dNx D, ik w', ik p', ik g', dMo D, ik j) : Sk) = ik j := rfl
        rw [if_pos e1, nws_c]
        show _ + (0 + 1) ≤ 10 ∧ _ + (ix (ik w') + nws []) ≤ ix (bC (bnAt D j))
        rw [ix_ik (by omega)]
        refine ⟨by omega, ?_⟩
        show _ + (w' + 0) ≤ _
        omega
      · have e1 : ¬ kB ((dNx D, ik w', ik p', ik g', dMo D, ik k) : Sk) = ik j := fun z => by
          have := (ik_inj (by omega) (by omega)).mp (show ik k = ik j from z)
          omega
        rw [if_neg e1]
        exact ⟨t1, t2⟩
    · show dNx D + 1 = _
      rw [em, ik_succ]
    · show updn (updn (dAc D) 0 (dAc D 0 + ik w')) 5 (dAc D 5 + ik w' * ik p') 0 = _
      rw [updn_ne (by decide), updn_eq, es, ik_add]
  · rw [if_neg hj] at hJ
    exact absurd hJ hj
theorem fnd_split {D : Dt} {z : Int32} {x : Sk} (h : fndS D z = some x) : ∃ pre post, dSs D = pre ++ x :: post ∧ kId x = z ∧ slL z (dSs D) 0 = ik pre.length := by
  rcases fnd_sl (xs := dSs D) (z := z) (o := 0) with ⟨h1, -⟩ | ⟨pre, y, post, h1, h2, h3, h4, -⟩
  · unfold fndS at h
    rw [h1] at h
    cases h
  · unfold fndS at h
    rw [h2] at h
    cases h
    rw [Nat.zero_add] at h4
    exact ⟨pre, post, h1, h3, h4⟩
theorem inv_move {U : Nat} {D : Dt} (h : Inv U D) {z b : Int32} (hJ : (jMove D z b).1 = 0) : Inv (U + 1) (moveD z b D) := by
  obtain ⟨hC, hN⟩ := h
  have hC2 := hC
  obtain ⟨⟨h5, hB⟩, ⟨s1, s2, s3, s4⟩, hP, hA⟩ := hC2
  unfold jMove at hJ
  cases hf : fndS D z with
  | none => rw [hf] at hJ; exact absurd (show (-2 : Int32) = 0 from hJ) (by decide)
  | some x =>
    rw [hf] at hJ
    dsimp only at hJ
    by_cases hb : hasB D b = true
    · rw [if_pos hb] at hJ
      by_cases hs : kB x = b
      · rw [if_pos hs] at hJ; exact absurd (show (4 : Int32) = 0 from hJ) (by decide)
      · rw [if_neg hs] at hJ
        obtain ⟨k, rfl, hk⟩ := hasB_k hb h5
        obtain ⟨pre, post, e, hz, -⟩ := fnd_split hf
        have hx : x ∈ dSs D := by rw [e]; simp
        obtain ⟨o1, ⟨w, ew, w1, w2⟩, o3, o4, o5⟩ := s1 x hx
        rw [ew] at hJ
        obtain ⟨r1, r2⟩ := room_n hC hk w2 hJ
        have hu := hC.uq
        rw [e] at hu
        have em := map_mid (b := ik k) hz hu
        rw [← e] at em
        have sub : ∀ y ∈ pre ++ setB x (ik k) :: post, y = setB x (ik k) ∨ y ∈ dSs D := fun y hy => by
          rw [e]
          rcases List.mem_append.mp hy with hy | hy
          · exact Or.inr (List.mem_append_left _ hy)
          · rcases List.mem_cons.mp hy with hy | hy
            · exact Or.inl hy
            · exact Or.inr (List.mem_append_right _ (List.mem_cons_of_mem _ hy))
        unfold moveD
        rw [em]
        rw [e] at s2
        refine ⟨⟨⟨h5, hB⟩, ⟨fun y hy => ?_, ?_, fun y hy => ?_, fun j hj => ?_⟩, hP, ?_, ?_⟩, hN.up (by omega)⟩
        · rcases sub y hy with rfl | hy
          · exact ⟨o1, ⟨w, ew, w1, w2⟩, o3, o4, k, hk, rfl⟩
          · exact s1 y hy
        · show (pre ++ setB x (ik k) :: post).Pairwise _
          rw [List.pairwise_append, List.pairwise_cons] at s2 ⊢
          refine ⟨s2.1, s2.2.1, fun y hy q hq => ?_⟩
          rcases List.mem_cons.mp hq with rfl | hq
          · exact s2.2.2 y hy x List.mem_cons_self
          · exact s2.2.2 y hy q (List.mem_cons_of_mem _ hq)
        · rcases sub y hy with rfl | hy
          · exact s3 x hx
          · exact s3 y hy
        · show (fB j (pre ++ setB x (ik k) :: post)).length ≤ 10 ∧ nws (fB j (pre ++ setB x (ik k) :: post)) ≤ ix (bC (bnAt D j))
          have hj' : j < (dBs D).length := hj
          obtain ⟨t1, t2⟩ := s4 j hj'
          rw [e, fB_app, fB_c, List.length_append] at t1
          rw [e, fB_app, fB_c, nws_app] at t2
          rw [fB_app, fB_c, List.length_append, nws_app]
          by_cases hjk : j = k
          · subst hjk
            have e2 : kB (setB x (ik j)) = ik j := rfl
            rw [if_pos e2]
            rw [e, fB_app, fB_c, if_neg hs, List.length_append] at r1
            rw [e, fB_app, fB_c, if_neg hs, nws_app] at r2
            rw [nws_c, List.length_cons]
            show _ + (_ + 1) ≤ 10 ∧ _ + (ix (kW x) + _) ≤ _
            rw [ew, ix_ik (by omega)]
            exact ⟨by omega, by omega⟩
          · have e2 : ¬ kB (setB x (ik k)) = ik j := fun z => by
              have := (ik_inj (by omega) (by omega)).mp (show ik k = ik j from z)
              omega
            rw [if_neg e2]
            by_cases hbx : kB x = ik j
            · rw [if_pos hbx, List.length_cons] at t1
              rw [if_pos hbx, nws_c] at t2
              exact ⟨by omega, by omega⟩
            · rw [if_neg hbx] at t1 t2
              exact ⟨t1, t2⟩
        · have := hA.1
          rw [e] at this
          rw [wgX_app, wgX_c] at this ⊢
          exact this
        · have := hA.2
          rw [e] at this
          rw [vlX_app, vlX_c] at this ⊢
          exact this
    · rw [if_neg hb] at hJ; exact absurd (show (-1 : Int32) = 0 from hJ) (by decide)
theorem inv_sift {U : Nat} {D : Dt} (h : Inv U D) {b m : Int32} (hJ : jInB D b (inR m 1 9) = 0) : Inv (U + 1) (siftD b m D).2 := by
  obtain ⟨hC, hN⟩ := h
  obtain ⟨⟨k, rfl, hk⟩, hv⟩ := hasB_of hC.1.1 hJ
  obtain ⟨m', rfl, m1, m2⟩ := ik_of (lo := 1) (hi := 9) (by decide) (by decide) hv
  obtain ⟨l1, l2⟩ := siftL_ls (b := ik k) m2 (xs := dSs D) (c := dAc D 7) (h0 := 0) (fun x hx => ⟨_, hC.2.1.1 x hx⟩)
  obtain ⟨v1, v2⟩ := siftL_v (b := ik k) (m := ik m') (xs := dSs D) (c := dAc D 7) (h0 := 0)
  have hS := hC.2.1.ls (B2 := bnAt D) l1 (fun _ _ => rfl)
  rw [noE_id l2] at hS
  refine ⟨⟨hC.1, hS, hC.2.2.1, InvA.sift hC.2.2.2 v1 v2⟩, ?_⟩
  · obtain ⟨a, b, s, es, hs⟩ := hN.up (show U ≤ U + 1 by omega)
    refine ⟨a, b, s, ?_, hs⟩
    exact es
theorem slo_lt {b : Int32} : ∀ (xs : List Sk) (o : Nat), (slo b xs o).Pairwise (· < ·) ∧ ∀ k ∈ slo b xs o, o ≤ k
  | [], _ => ⟨List.Pairwise.nil, fun k hk => by cases hk⟩
  | x :: xs, o => by
    obtain ⟨a, c⟩ := slo_lt (b := b) xs (o + 1)
    rw [slo_c]
    by_cases h : kB x = b
    · rw [if_pos h, List.pairwise_cons]
      refine ⟨⟨fun k hk => by have := c k hk; omega, a⟩, fun k hk => ?_⟩
      rcases List.mem_cons.mp hk with rfl | hk
      · exact Nat.le_refl _
      · have := c k hk; omega
    · rw [if_neg h]
      exact ⟨a, fun k hk => by have := c k hk; omega⟩
theorem slo_nd {b : Int32} (xs : List Sk) (o : Nat) : (slo b xs o).Nodup := (slo_lt xs o).1.imp (fun {x y} h => by omega)
theorem inv_sell {U : Nat} {D : Dt} (h : Inv U D) {b kg : Int32} (hJ : (jSale D b kg).1 = 0) : Inv (U + 1) (sellD (ix b) kg D).2 := by
  obtain ⟨hC, hN⟩ := h
  unfold jSale at hJ
  by_cases hj : jInB D b (inR kg 1 400) = 0
  · rw [if_pos hj] at hJ
    obtain ⟨⟨k, rfl, hk⟩, hv⟩ := hasB_of hC.1.1 hj
    obtain ⟨m, rfl, m1, m2⟩ := ik_of (lo := 1) (hi := 400) (by decide) (by decide) hv
    have h5 := hC.1.1
    have hn := nws_400 hC hk
    have hle : m ≤ nws (fB k (dSs D)) := by
      by_cases hx : ik m ≤ kgL (ik k) (dSs D) 0
      · rw [kg_nws hC, ik_le (by omega) (by omega)] at hx
        exact hx
      · rw [if_neg hx] at hJ
        exact absurd (show (5 : Int32) = 0 from hJ) (by decide)
    rw [ix_ik (by omega)]
    have hlt : ∀ j ∈ ordS (bM (bnAt D k)) (dSs D) (ik k), j < (dSs D).length := fun j hj => ordS_lt hj
    have hls := sellG_ls (ks := ordS (bM (bnAt D k)) (dSs D) (ik k)) (xs := dSs D) (m := m) (c := dAc D 6) (fun x hx => (hC.2.1.1 x hx).wk) hlt (by omega)
    have hgv := sellG_v (ks := ordS (bM (bnAt D k)) (dSs D) (ik k)) (xs := dSs D) (l := ik m) (c := dAc D 6) hlt
    have hpl : sumK (ordS (bM (bnAt D k)) (dSs D) (ik k)) (dSs D) = nws (fB k (dSs D)) := by
      rw [ord_plc, ← sumK_plc (m := bM (bnAt D k))]
      unfold sumK
      rw [List.map_map]
      congr 1
      refine List.map_congr_left (fun j hj => ?_)
      have := (slo_pl (b := k) (dSs D) 0 j (plc_lt hj)).2.2.1
      rw [Nat.sub_zero] at this
      show ix (kW ((dSs D).getD ((slo (ik k) (dSs D) 0).getD j 0) sk0)) = _
      rw [this]
    have hnd : (ordS (bM (bnAt D k)) (dSs D) (ik k)).Nodup := ordS_perm.nodup_iff.mpr (slo_nd _ _)
    have hgw := sellG_w (ks := ordS (bM (bnAt D k)) (dSs D) (ik k)) (xs := dSs D) (m := m) (c := dAc D 6) hC.good hnd hlt (by omega)
    rw [hpl, Nat.min_eq_left hle] at hgw
    have hnE := wgX_noE hls.good
    have hS := hC.2.1.ls (B2 := bnAt D) hls (fun _ _ => rfl)
    rw [← hnE.2] at hgv
    rw [← hnE.1] at hgw
    refine ⟨⟨hC.1, hS, hC.2.2.1, InvA.sell hC.2.2.2 hgv hgw⟩, ?_⟩
    · obtain ⟨a, b, s, es, hs⟩ := hN.up (show U ≤ U + 1 by omega)
      refine ⟨a, b, s, ?_, hs⟩
      exact es
  · rw [if_neg hj] at hJ
    exact absurd hJ hj
theorem inv_pass {U : Nat} {D : Dt} (h : Inv U D) {n : Nat} (hn : n ≤ 24) : Inv (U + 1) (passD n D).2 := by
  obtain ⟨hC, ⟨m, em, hm⟩, ⟨z, ez, hz⟩, ⟨s, es, hs⟩⟩ := h
  rw [pass_E]
  obtain ⟨a, b, c, d⟩ := inv_months n D 0 z hC ez
  exact ⟨a, ⟨m, b.trans em, by omega⟩, ⟨z + n, c, by omega⟩, s, d.trans es, by omega⟩
theorem inv_do {U : Nat} {D : Dt} (h : Inv U D) (hU : U < 1000000) : ∀ {k : Nat} {a b c e : Int32}, k < 10 → (judgeK D k a b c e).1 = 0 → Inv (U + 1) (doK D k a b c e).2
  | 0, a, b, c, e, _, hJ => inv_bin h hJ
  | 1, a, b, c, e, _, hJ => by
    obtain ⟨⟨k, rfl, hk⟩, hv⟩ := hasB_of h.1.1.1 hJ
    obtain ⟨q1, q2, q3, q4⟩ := h.1.okB hk
    show Inv (U + 1) (setD 21 (ix (ik k)) b D)
    rw [ix_ik (by have := h.1.1.1; omega)]
    exact h.setB hk (by decide) ⟨q1, hv, q3, q4⟩
  | 2, a, b, c, e, _, hJ => inv_store h hU hJ
  | 3, a, b, c, e, _, hJ => inv_move h hJ
  | 4, a, b, c, e, _, hJ => by
    obtain ⟨⟨k, rfl, hk⟩, hv⟩ := hasB_of h.1.1.1 hJ
    obtain ⟨q1, q2, q3, q4⟩ := h.1.okB hk
    obtain ⟨v, rfl, -, v2⟩ := ik_of (lo := 0) (hi := 20) (by decide) (by decide) hv
    show Inv (U + 1) (setD 22 (ix (ik k)) (ik v) D)
    rw [ix_ik (by have := h.1.1.1; omega)]
    exact h.setB hk (by decide) ⟨q1, q2, ⟨v, rfl, v2⟩, q4⟩
  | 5, a, b, c, e, _, hJ => by
    obtain ⟨⟨k, rfl, hk⟩, hv⟩ := hasB_of h.1.1.1 hJ
    obtain ⟨q1, q2, q3, q4⟩ := h.1.okB hk
    obtain ⟨v, rfl, -, v2⟩ := ik_of (lo := 0) (hi := 9) (by decide) (by decide) hv
    show Inv (U + 1) (setD 23 (ix (ik k)) (ik v) D)
    rw [ix_ik (by have := h.1.1.1; omega)]
    exact h.setB hk (by decide) ⟨q1, q2, q3, v, rfl, v2⟩
  | 6, a, b, c, e, _, hJ => by
    have hv := ifm3 hJ
    rw [Bool.and_eq_true] at hv
    obtain ⟨k, rfl, -, k2⟩ := ik_of (lo := 0) (hi := 11) (by decide) (by decide) hv.1
    obtain ⟨v, rfl, v1, v2⟩ := ik_of (lo := 1) (hi := 30) (by decide) (by decide) hv.2
    refine ⟨⟨h.1.1, h.1.2.1, fun j hj => ?_, h.1.2.2.2⟩, h.2.up (by omega)⟩
    show ∃ p, updn (dPr D) (ix (ik k)) (ik v) j = ik p ∧ _
    rw [ix_ik (by omega)]
    by_cases hjk : j = k
    · subst hjk
      rw [updn_eq]
      exact ⟨v, rfl, v1, v2⟩
    · rw [updn_ne hjk]
      exact h.1.2.2.1 j hj
  | 7, a, b, c, e, _, hJ => inv_sift h hJ
  | 8, a, b, c, e, _, hJ => inv_sell h hJ
  | 9, a, b, c, e, _, hJ => by
    have hv := ifm3 hJ
    obtain ⟨n, rfl, -, n2⟩ := ik_of (lo := 1) (hi := 24) (by decide) (by decide) hv
    show Inv (U + 1) (passD (ix (ik n)) D).2
    rw [ix_ik (by omega)]
    exact inv_pass h n2
  | k + 10, a, b, c, e, hk, _ => by omega
