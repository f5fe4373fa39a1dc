/-! what holds of the data throughout -/
def OkS (n : Nat) (x : Sk) : Prop := (0 : Int32) ≤ kId x ∧ (∃ w, kW x = ik w ∧ 1 ≤ w ∧ w ≤ 60) ∧ (∃ p, kP x = ik p ∧ 1 ≤ p ∧ p ≤ 30) ∧ (∃ g, kG x = ik g ∧ g ≤ 9) ∧ ∃ k, k < n ∧ kB x = ik k
def nws (xs : List Sk) : Nat := (xs.map (fun x => ix (kW x))).sum
def OkB (q : Bn) : Prop := (∃ c, bC q = ik c ∧ 20 ≤ c ∧ c ≤ 400) ∧ isMB (bM q) = true ∧ (∃ m, bI q = ik m ∧ m ≤ 20) ∧ ∃ t, bT q = ik t ∧ t ≤ 9
/-- the sacks: ids rise, below the next number -/
def InvS (n : Nat) (nx : Int32) (B : Nat → Bn) (xs : List Sk) : Prop := (∀ x ∈ xs, OkS n x) ∧ xs.Pairwise (fun x y => kId x < kId y) ∧ (∀ x ∈ xs, kId x < nx) ∧ ∀ k, k < n → (fB k xs).length ≤ 10 ∧ nws (fB k xs) ≤ ix (bC (B k))
def InvA (ac : Nat → Int32) (xs : List Sk) : Prop := ac 0 = ac 1 + ac 2 + ac 3 + wgX xs 0 ∧ vlX xs 0 = ac 5 - ac 6 - ac 7
def InvN (U : Nat) (D : Dt) : Prop := (∃ m, dNx D = ik m ∧ m ≤ U) ∧ (∃ m, dMo D = ik m ∧ m ≤ 24 * U) ∧ ∃ s, dAc D 0 = ik s ∧ s ≤ 60 * U
def InvC (D : Dt) : Prop := ((dBs D).length ≤ 5 ∧ ∀ q ∈ dBs D, OkB q) ∧ InvS (dBs D).length (dNx D) (bnAt D) (dSs D) ∧ (∀ k, k < 12 → ∃ p, dPr D k = ik p ∧ 1 ≤ p ∧ p ≤ 30) ∧ InvA (dAc D) (dSs D)
def Inv (U : Nat) (D : Dt) : Prop := InvC D ∧ InvN U D
theorem InvN.up {U V : Nat} {D : Dt} (h : InvN U D) (hU : U ≤ V) : InvN V D := by
  obtain ⟨⟨a, a1, a2⟩, ⟨b, b1, b2⟩, ⟨c, c1, c2⟩⟩ := h
  exact ⟨⟨a, a1, by omega⟩, ⟨b, b1, by omega⟩, ⟨c, c1, by omega⟩⟩
theorem Inv.up {U V : Nat} {D : Dt} (h : Inv U D) (hU : U ≤ V) : Inv V D := ⟨h.1, h.2.up hU⟩
theorem InvC.okB {D : Dt} (h : InvC D) {k : Nat} (hk : k < (dBs D).length) : OkB (bnAt D k) := by
  refine h.1.2 _ ?_
  unfold bnAt
  rw [List.getD_eq_getElem?_getD, List.getElem?_eq_getElem hk]
  exact List.getElem_mem hk
theorem InvC.good {D : Dt} (h : InvC D) : GoodW (dSs D) := fun x hx => by
  obtain ⟨-, ⟨w, e, -, h2⟩, -⟩ := h.2.1.1 x hx
  exact ⟨w, e, h2⟩
theorem InvC.pos {D : Dt} (h : InvC D) : ∀ x ∈ dSs D, 0 < kW x := fun x hx => by
  obtain ⟨-, ⟨w, e, h1, h2⟩, -⟩ := h.2.1.1 x hx
  rw [e, show (0 : Int32) = ik 0 from rfl, ik_lt (by decide) (by omega)]
  omega
theorem InvC.inb {D : Dt} (h : InvC D) : ∀ x ∈ dSs D, ∃ k, k < (dBs D).length ∧ kB x = ik k := fun x hx => (h.2.1.1 x hx).2.2.2.2
theorem InvC.uq {D : Dt} (h : InvC D) : (dSs D).Pairwise (fun x y => kId x ≠ kId y) := h.2.1.2.1.imp (fun {x y} hxy e => by
  rw [e] at hxy
  exact lt_le_i.mpr le_self_i hxy)
theorem Inv.fit {U : Nat} {D : Dt} (h : Inv U D) (hU : U < 1000000) : Fit D := by
  refine ⟨fun k hk => by rw [slo_fB]; exact (h.1.2.1.2.2.2 k hk).1, h.1.inb, h.1.uq, ?_⟩
  obtain ⟨m, e, hm⟩ := h.2.2.1
  exact ⟨m, e, by omega⟩
theorem qsL_fB {b : Nat} : ∀ (xs : List Sk), qsL (ik b) xs = (fB b xs).map (fun x => (ix (kW x), ix (kW x) * ix (kP x)))
  | [] => rfl
  | x :: xs => by
    rw [qsL_c, fB_c]
    by_cases h : kB x = ik b
    · rw [if_pos h, if_pos h, List.map_cons, qsL_fB xs]
    · rw [if_neg h, if_neg h, qsL_fB xs]
theorem InvC.fitP {D : Dt} (h : InvC D) : FitP D := by
  refine ⟨fun x hx => ?_, fun k hk => ?_, h.2.2.1⟩
  · obtain ⟨-, a, b, -⟩ := h.2.1.1 x hx
    exact ⟨a, b⟩
  · obtain ⟨⟨c, ec, -, hc⟩, -⟩ := h.okB hk
    have h2 := (h.2.1.2.2.2 k hk).2
    rw [ec, ix_ik (by omega)] at h2
    refine ⟨?_, c, ec, hc⟩
    rw [qsL_fB, List.map_map]
    exact Nat.le_trans h2 hc
/-- natural sums -/
theorem nws_c {x : Sk} {xs : List Sk} : nws (x :: xs) = ix (kW x) + nws xs := by simp [nws]
theorem nws_app {xs ys : List Sk} : nws (xs ++ ys) = nws xs + nws ys := by simp [nws]
theorem wgX_n : ∀ {xs : List Sk}, GoodW xs → wgX xs 0 = ik (nws xs)
  | [], _ => rfl
  | x :: xs, h => by
    obtain ⟨w, e, hw⟩ := h x List.mem_cons_self
    rw [wgX_c, nws_c, wgX_n (xs := xs) (fun y hy => h y (List.mem_cons_of_mem _ hy)), e, ix_ik (by omega), ik_add]
theorem nws_le {xs : List Sk} (h : GoodW xs) : nws xs ≤ 60 * xs.length := by
  induction xs with
  | nil => simp [nws]
  | cons x xs ih =>
    obtain ⟨w, e, hw⟩ := h x List.mem_cons_self
    have := ih (fun y hy => h y (List.mem_cons_of_mem _ hy))
    rw [nws_c, e, ix_ik (by omega), List.length_cons]
    omega
/-- a sack of which less is left -/
def LsS (x y : Sk) : Prop := kId y = kId x ∧ kP y = kP x ∧ kB y = kB x ∧ (∃ g, kG y = ik g ∧ g ≤ 9) ∧ ∃ v w, kW x = ik w ∧ kW y = ik v ∧ v ≤ w ∧ w ≤ 60
def LsL : List Sk → List Sk → Prop
  | [], [] => True
  | x :: xs, y :: ys => LsS x y ∧ LsL xs ys
  | _, _ => False
theorem LsL.c {x y : Sk} {xs ys : List Sk} (h : LsS x y) (h2 : LsL xs ys) : LsL (x :: xs) (y :: ys) := ⟨h, h2⟩
theorem LsL.mem : ∀ {xs ys : List Sk}, LsL xs ys → ∀ y ∈ ys, ∃ x ∈ xs, LsS x y
  | [], [], _, y, hy => by cases hy
  | x :: xs, y0 :: ys, h, y, hy => by
    rcases List.mem_cons.mp hy with rfl | hy
    · exact ⟨x, List.mem_cons_self, h.1⟩
    · obtain ⟨z, hz, h3⟩ := LsL.mem h.2 y hy
      exact ⟨z, List.mem_cons_of_mem _ hz, h3⟩
theorem LsL.pw : ∀ {xs ys : List Sk}, LsL xs ys → xs.Pairwise (fun x y => kId x < kId y) → ys.Pairwise (fun x y => kId x < kId y)
  | [], [], _, _ => List.Pairwise.nil
  | x :: xs, y :: ys, h, hp => by
    rw [List.pairwise_cons] at hp ⊢
    refine ⟨fun z hz => ?_, LsL.pw h.2 hp.2⟩
    obtain ⟨a, ha, h3⟩ := LsL.mem h.2 z hz
    rw [h.1.1, h3.1]
    exact hp.1 a ha
theorem LsL.fB {b : Nat} : ∀ {xs ys : List Sk}, LsL xs ys → LsL (fB b xs) (fB b ys)
  | [], [], _ => trivial
  | x :: xs, y :: ys, h => by
    rw [fB_c, fB_c, h.1.2.2.1]
    by_cases hb : kB x = ik b
    · rw [if_pos hb, if_pos hb]
      exact ⟨h.1, LsL.fB h.2⟩
    · rw [if_neg hb, if_neg hb]
      exact LsL.fB h.2
theorem LsL.le : ∀ {xs ys : List Sk}, LsL xs ys → ys.length = xs.length ∧ nws ys ≤ nws xs
  | [], [], _ => ⟨rfl, Nat.le_refl _⟩
  | x :: xs, y :: ys, h => by
    have ih := LsL.le h.2
    obtain ⟨v, w, e1, e2, h3, h4⟩ := h.1.2.2.2.2
    rw [nws_c, nws_c, e1, e2, ix_ik (by omega), ix_ik (by omega), List.length_cons, List.length_cons]
    exact ⟨by omega, by omega⟩
theorem LsL.good : ∀ {xs ys : List Sk}, LsL xs ys → GoodW ys
  | xs, ys, h, y, hy => by
    obtain ⟨x, -, h3⟩ := LsL.mem h y hy
    obtain ⟨v, w, e1, e2, h4, h5⟩ := h3.2.2.2.2
    exact ⟨v, e2, by omega⟩
theorem nws_noE {xs : List Sk} : nws (noE xs) ≤ nws xs := by
  induction xs with
  | nil => exact Nat.le_refl _
  | cons x xs ih =>
    unfold noE at ih ⊢
    rw [List.filter_cons]
    split
    · rw [nws_c, nws_c]; omega
    · rw [nws_c]; omega
theorem wgX_noE : ∀ {xs : List Sk}, GoodW xs → wgX (noE xs) 0 = wgX xs 0 ∧ vlX (noE xs) 0 = vlX xs 0
  | [], _ => ⟨rfl, rfl⟩
  | x :: xs, h => by
    have ih := wgX_noE (xs := xs) (fun y hy => h y (List.mem_cons_of_mem _ hy))
    obtain ⟨w, e, hw⟩ := h x List.mem_cons_self
    unfold noE at ih ⊢
    rw [List.filter_cons]
    by_cases hz : 0 < kW x
    · rw [if_pos (by simpa using hz), wgX_c, wgX_c, vlX_c, vlX_c, ih.1, ih.2]
      exact ⟨rfl, rfl⟩
    · rw [if_neg (by simpa using hz), wgX_c, vlX_c, ih.1, ih.2]
      have hw0 : kW x = 0 := by
        rw [e, show (0 : Int32) = ik 0 from rfl, ik_lt (by decide) (by omega)] at hz
        rw [e, show w = 0 by omega]
        rfl
      rw [hw0, Int32.zero_mul, Int32.zero_add, Int32.zero_add]
      exact ⟨rfl, rfl⟩
/-- what is left of the sacks keeps what holds of them -/
theorem InvS.ls {n : Nat} {nx : Int32} {B B2 : Nat → Bn} {xs ys : List Sk} (h : InvS n nx B xs) (hl : LsL xs ys) (hB : ∀ k, k < n → bC (B2 k) = bC (B k)) : InvS n nx B2 (noE ys) := by
  obtain ⟨h1, h2, h3, h4⟩ := h
  have sub : ∀ y ∈ noE ys, y ∈ ys ∧ 0 < kW y := fun y hy => by
    unfold noE at hy
    rw [List.mem_filter] at hy
    exact ⟨hy.1, by simpa using hy.2⟩
  refine ⟨fun y hy => ?_, (hl.pw h2).filter _, fun y hy => ?_, fun k hk => ?_⟩
  · obtain ⟨hy1, hy2⟩ := sub y hy
    obtain ⟨x, hx, e1, e2, e3, e4, v, w, e5, e6, e7, e8⟩ := hl.mem y hy1
    obtain ⟨o1, o2, o3, o4, o5⟩ := h1 x hx
    have hv : 1 ≤ v := by
      rw [e6, show (0 : Int32) = ik 0 from rfl, ik_lt (by decide) (by omega)] at hy2
      omega
    exact ⟨by rw [e1]; exact o1, ⟨v, e6, hv, by omega⟩, by rw [e2]; exact o3, e4, by rw [e3]; exact o5⟩
  · obtain ⟨hy1, -⟩ := sub y hy
    obtain ⟨x, hx, e1, -⟩ := hl.mem y hy1
    rw [e1]
    exact h3 x hx
  · obtain ⟨a, b⟩ := h4 k hk
    have hf := (hl.fB (b := k)).le
    rw [noE_fB, hB k hk]
    have hle : (noE (fB k ys)).length ≤ (fB k ys).length := List.length_filter_le _ _
    have := nws_noE (xs := fB k ys)
    exact ⟨by omega, by omega⟩
/-- what is eaten -/
theorem eatL_ls {b : Int32} : ∀ {xs : List Sk} {m : Nat} {c : Int32}, (∀ x ∈ xs, ∃ n, OkS n x) → m < 1000000 → LsL xs (eatL b xs (ik m) c).1
  | [], _, _, _, _ => trivial
  | x :: xs, m, c, h, hm => by
    have h2 : ∀ y ∈ xs, ∃ n, OkS n y := fun y hy => h y (List.mem_cons_of_mem _ hy)
    obtain ⟨n, o1, ⟨w, ew, hw1, hw2⟩, o3, o4, o5⟩ := h x List.mem_cons_self
    rw [eatL_c]
    by_cases hb : kB x = b
    · rw [if_pos hb, ew, imin_nat (by omega) (by omega), ik_sub (Nat.min_le_left _ _), ik_sub (Nat.min_le_right _ _)]
      exact LsL.c ⟨rfl, rfl, rfl, o4, w - min m w, w, ew, rfl, Nat.sub_le _ _, hw2⟩ (eatL_ls h2 (by omega))
    · rw [if_neg hb]
      exact LsL.c ⟨rfl, rfl, rfl, o4, w, w, ew, ew, Nat.le_refl _, hw2⟩ (eatL_ls h2 hm)
theorem mul_sub_i {a b c : Int32} : (a - b) * c = a * c - b * c := by grind
theorem eatL_v {b : Int32} : ∀ {xs : List Sk} {l c : Int32}, vlX (eatL b xs l c).1 0 + (eatL b xs l c).2 = vlX xs 0 + c
  | [], l, c => rfl
  | x :: xs, l, c => by
    rw [eatL_c]
    by_cases hb : kB x = b
    · have ih := eatL_v (b := b) (xs := xs) (l := l - imin l (kW x)) (c := c + imin l (kW x) * kP x)
      rw [if_pos hb]
      dsimp only
      rw [vlX_c, vlX_c]
      show (kW x - imin l (kW x)) * kP x + _ + _ = _
      grind
    · have ih := eatL_v (b := b) (xs := xs) (l := l) (c := c)
      rw [if_neg hb]
      dsimp only
      rw [vlX_c, vlX_c]
      grind
theorem eatL_w {b : Nat} : ∀ {xs : List Sk} {m : Nat} {c : Int32}, GoodW xs → m < 1000000 → wgX (eatL (ik b) xs (ik m) c).1 0 + ik (min m (nws (fB b xs))) = wgX xs 0
  | [], m, c, _, _ => by
    show (0 : Int32) + ik (min m 0) = 0
    rw [Nat.min_zero]
    decide
  | x :: xs, m, c, h, hm => by
    have h2 : GoodW xs := fun y hy => h y (List.mem_cons_of_mem _ hy)
    obtain ⟨w, e, hw⟩ := h x List.mem_cons_self
    rw [eatL_c, fB_c]
    by_cases hb : kB x = ik b
    · rw [if_pos hb, if_pos hb, e, imin_nat (by omega) (by omega), ik_sub (Nat.min_le_left _ _), ik_sub (Nat.min_le_right _ _)]
      have ih := eatL_w (b := b) (xs := xs) (m := m - min m w) (c := c + ik (min m w) * kP x) h2 (by omega)
      dsimp only
      rw [wgX_c, wgX_c, nws_c, e, ix_ik (by omega), ← ih]
      show ik (w - min m w) + _ + _ = _
      have e3 : ik (min m (w + nws (fB b xs))) = ik (min m w) + ik (min (m - min m w) (nws (fB b xs))) := by
        rw [ik_add]
        exact congrArg ik (by omega)
      have e4 : ik w = ik (w - min m w) + ik (min m w) := by
        rw [ik_add]
        exact congrArg ik (by omega)
      rw [e3, e4]
      grind
    · rw [if_neg hb, if_neg hb]
      have ih := eatL_w (b := b) (xs := xs) (m := m) (c := c) h2 hm
      dsimp only
      rw [wgX_c, wgX_c, ← ih]
      grind
/-- what is sifted -/
theorem sift_n {w m g : Nat} (hw : 1 ≤ w) (hw2 : w ≤ 60) (hg : g < m) (hm : m ≤ 9) : ik w * (ik m - ik g) / 10 = ik (w * (m - g) / 10) ∧ w * (m - g) / 10 < w := by
  have hmg : w * (m - g) ≤ w * 9 := Nat.mul_le_mul_left w (by omega)
  constructor
  · rw [ik_sub (by omega), ik_mul]
    apply Int32.toInt_inj.mp
    rw [show (10 : Int32) = ik 10 from rfl, Int32.toInt_div, ik_toInt (by omega), ik_toInt (by omega), ik_toInt (by omega)]
    have e : ((w * (m - g) : Nat) : Int).tdiv ((10 : Nat) : Int) = ((w * (m - g) / 10 : Nat) : Int) := by
      rw [Int.tdiv_eq_ediv_of_nonneg (by omega)]
      omega
    rw [e, Int.bmod_eq_of_le (by omega) (by omega)]
  · omega
theorem siftL_ls {b : Int32} {m : Nat} (hm : m ≤ 9) : ∀ {xs : List Sk} {c h0 : Int32}, (∀ x ∈ xs, ∃ n, OkS n x) → LsL xs (siftL b (ik m) xs c h0).1 ∧ ∀ y ∈ (siftL b (ik m) xs c h0).1, 0 < kW y
  | [], _, _, _ => ⟨trivial, fun y hy => by cases hy⟩
  | x :: xs, c, h0, h => by
    have h2 : ∀ y ∈ xs, ∃ n, OkS n y := fun y hy => h y (List.mem_cons_of_mem _ hy)
    obtain ⟨n, o1, ⟨w, ew, hw1, hw2⟩, o3, ⟨g, eg, hg9⟩, o5⟩ := h x List.mem_cons_self
    have p0 : ∀ v, 1 ≤ v → v ≤ 60 → 0 < ik v := fun v h1 h2 => by
      rw [show (0 : Int32) = ik 0 from rfl, ik_lt (by decide) (by omega)]; omega
    rw [siftL_c]
    by_cases hb : kB x = b ∧ kG x < ik m
    · have hgm : g < m := by
        have := hb.2
        rw [eg] at this
        exact (ik_lt (by omega) (by omega)).mp this
      obtain ⟨s1, s2⟩ := sift_n hw1 hw2 hgm hm
      rw [if_pos hb, ew, eg, s1, ik_sub (by omega)]
      have ih := siftL_ls (b := b) hm (xs := xs) (c := c + ik (w * (m - g) / 10) * kP x) (h0 := h0 + ik (w * (m - g) / 10)) h2
      refine ⟨LsL.c ⟨rfl, rfl, rfl, ⟨m, rfl, hm⟩, w - w * (m - g) / 10, w, ew, rfl, Nat.sub_le _ _, hw2⟩ ih.1, fun y hy => ?_⟩
      rcases List.mem_cons.mp hy with rfl | hy
      · exact p0 _ (by omega) (by omega)
      · exact ih.2 y hy
    · have ih := siftL_ls (b := b) hm (xs := xs) (c := c) (h0 := h0) h2
      rw [if_neg hb]
      refine ⟨LsL.c ⟨rfl, rfl, rfl, ⟨g, eg, hg9⟩, w, w, ew, ew, Nat.le_refl _, hw2⟩ ih.1, fun y hy => ?_⟩
      rcases List.mem_cons.mp hy with rfl | hy
      · rw [ew]; exact p0 _ hw1 hw2
      · exact ih.2 y hy
theorem siftL_v {b m : Int32} : ∀ {xs : List Sk} {c h0 : Int32}, vlX (siftL b m xs c h0).1 0 + (siftL b m xs c h0).2.1 = vlX xs 0 + c ∧ wgX (siftL b m xs c h0).1 0 + (siftL b m xs c h0).2.2 = wgX xs 0 + h0
  | [], c, h0 => ⟨rfl, rfl⟩
  | x :: xs, c, h0 => by
    rw [siftL_c]
    by_cases hb : kB x = b ∧ kG x < m
    · rw [if_pos hb]
      generalize kW x * (m - kG x) / 10 = a
      have ih := siftL_v (b := b) (m := m) (xs := xs) (c := c + a * kP x) (h0 := h0 + a)
      dsimp only
      rw [vlX_c, vlX_c, wgX_c, wgX_c]
      refine ⟨?_, ?_⟩
      · show (kW x - a) * kP x + _ + _ = _
        have := ih.1
        grind
      · show kW x - a + _ + _ = _
        have := ih.2
        grind
    · rw [if_neg hb]
      have ih := siftL_v (b := b) (m := m) (xs := xs) (c := c) (h0 := h0)
      dsimp only
      rw [vlX_c, vlX_c, wgX_c, wgX_c]
      refine ⟨?_, ?_⟩
      · have := ih.1
        grind
      · have := ih.2
        grind
