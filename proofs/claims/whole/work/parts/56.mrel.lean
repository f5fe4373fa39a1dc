/-! the sacks of a bin among all: the class' loops and the model's -/
def fB (b : Nat) (xs : List Sk) : List Sk := xs.filter (fun x => decide (kB x = ik b))
theorem fB_c {b : Nat} {x : Sk} {xs : List Sk} : fB b (x :: xs) = if kB x = ik b then x :: fB b xs else fB b xs := by
  unfold fB
  rw [List.filter_cons]
  by_cases h : kB x = ik b <;> simp [h]
theorem fB_app {b : Nat} {xs ys : List Sk} : fB b (xs ++ ys) = fB b xs ++ fB b ys := List.filter_append ..
theorem fB_mem {b : Nat} {x : Sk} {xs : List Sk} : x ∈ fB b xs ↔ x ∈ xs ∧ kB x = ik b := by simp [fB]
theorem kg_fB {b : Nat} : ∀ (xs : List Sk) (a : Int32), kgL (ik b) xs a = wgX (fB b xs) a
  | [], a => rfl
  | x :: xs, a => by
    have ih := kg_fB (b := b) xs
    rw [fB_c]
    show kgL (ik b) xs (if kB x = ik b then a + kW x else a) = _
    by_cases h : kB x = ik b
    · rw [if_pos h, if_pos h, ih]; rfl
    · rw [if_neg h, if_neg h, ih]
theorem wo_fB {b : Nat} : ∀ (xs : List Sk) (a : Int32), woL (ik b) xs a = vlX (fB b xs) a
  | [], a => rfl
  | x :: xs, a => by
    have ih := wo_fB (b := b) xs
    rw [fB_c]
    show woL (ik b) xs (if kB x = ik b then a + kW x * kP x else a) = _
    by_cases h : kB x = ik b
    · rw [if_pos h, if_pos h, ih]; rfl
    · rw [if_neg h, if_neg h, ih]
theorem num_fB {b : Nat} : ∀ (xs : List Sk) (a : Int32), numL (ik b) xs a = a + ik (fB b xs).length
  | [], a => by
    show a = a + ik 0
    rw [show ik 0 = (0 : Int32) from rfl, Int32.add_zero]
  | x :: xs, a => by
    have ih := num_fB (b := b) xs
    rw [fB_c]
    show numL (ik b) xs (if kB x = ik b then a + 1 else a) = _
    by_cases h : kB x = ik b
    · rw [if_pos h, if_pos h, ih, List.length_cons, ← ik_succ, Int32.add_assoc, Int32.add_comm 1]
    · rw [if_neg h, if_neg h, ih]
theorem slo_fB {b : Nat} : ∀ (xs : List Sk) (o : Nat), (slo (ik b) xs o).length = (fB b xs).length
  | [], o => rfl
  | x :: xs, o => by
    have ih := slo_fB (b := b) xs (o + 1)
    rw [fB_c, slo_c]
    by_cases h : kB x = ik b
    · rw [if_pos h, if_pos h, List.length_cons, List.length_cons, ih]
    · rw [if_neg h, if_neg h, ih]
theorem eat_fB {b : Nat} : ∀ (xs : List Sk) (l c : Int32), fB b (eatL (ik b) xs l c).1 = (eatX (fB b xs) l c).1 ∧ (eatL (ik b) xs l c).2 = (eatX (fB b xs) l c).2
  | [], l, c => ⟨rfl, rfl⟩
  | x :: xs, l, c => by
    rw [eatL_c, fB_c]
    by_cases h : kB x = ik b
    · have ih := eat_fB (b := b) xs (l - imin l (kW x)) (c + imin l (kW x) * kP x)
      simp only [h, if_true]
      rw [eatX_c, fB_c]
      have h2 : kB (setW x (kW x - imin l (kW x))) = ik b := h
      rw [if_pos h2, ih.1, ih.2]
      exact ⟨rfl, rfl⟩
    · have ih := eat_fB (b := b) xs l c
      simp only [h, if_false]
      rw [fB_c, if_neg h]
      exact ih
theorem eat_fB2 {b b2 : Nat} (hn : ik b ≠ ik b2) : ∀ (xs : List Sk) (l c : Int32), fB b2 (eatL (ik b) xs l c).1 = fB b2 xs
  | [], l, c => rfl
  | x :: xs, l, c => by
    rw [eatL_c, fB_c]
    by_cases h : kB x = ik b
    · have ih := eat_fB2 hn xs (l - imin l (kW x)) (c + imin l (kW x) * kP x)
      simp only [h, if_true]
      rw [fB_c]
      have h2 : ¬ kB (setW x (kW x - imin l (kW x))) = ik b2 := fun z => hn (h.symm.trans z)
      rw [if_neg h2, if_neg hn, ih]
    · have ih := eat_fB2 hn xs l c
      simp only [h, if_false]
      rw [fB_c, ih]
theorem sift_fB {b : Nat} {m : Int32} : ∀ (xs : List Sk) (c h0 : Int32), fB b (siftL (ik b) m xs c h0).1 = (siftX m (fB b xs) c h0).1 ∧ (siftL (ik b) m xs c h0).2 = (siftX m (fB b xs) c h0).2
  | [], c, h0 => ⟨rfl, rfl⟩
  | x :: xs, c, h0 => by
    rw [siftL_c, fB_c]
    by_cases h : kB x = ik b
    · simp only [h, true_and, if_true]
      rw [siftX_c]
      by_cases hg : kG x < m
      · have ih := sift_fB (b := b) (m := m) xs (c + kW x * (m - kG x) / 10 * kP x) (h0 + kW x * (m - kG x) / 10)
        simp only [hg, if_true]
        rw [fB_c]
        have h2 : kB (setG (setW x (kW x - kW x * (m - kG x) / 10)) m) = ik b := h
        rw [if_pos h2, ih.1, ih.2]
        exact ⟨rfl, rfl⟩
      · have ih := sift_fB (b := b) (m := m) xs c h0
        simp only [hg, if_false]
        rw [fB_c, if_pos h, ih.1, ih.2]
        exact ⟨rfl, rfl⟩
    · have ih := sift_fB (b := b) (m := m) xs c h0
      simp only [h, false_and, if_false]
      rw [fB_c, if_neg h]
      exact ih
theorem sift_fB2 {b b2 : Nat} {m : Int32} (hn : ik b ≠ ik b2) : ∀ (xs : List Sk) (c h0 : Int32), fB b2 (siftL (ik b) m xs c h0).1 = fB b2 xs
  | [], c, h0 => rfl
  | x :: xs, c, h0 => by
    rw [siftL_c, fB_c]
    by_cases h : kB x = ik b ∧ kG x < m
    · have ih := sift_fB2 (m := m) hn xs (c + kW x * (m - kG x) / 10 * kP x) (h0 + kW x * (m - kG x) / 10)
      rw [if_pos h]
      have h2 : ¬ kB (setG (setW x (kW x - kW x * (m - kG x) / 10)) m) = ik b2 := fun z => hn (h.1.symm.trans z)
      have h3 : ¬ kB x = ik b2 := fun z => hn (h.1.symm.trans z)
      dsimp only
      rw [fB_c, if_neg h2, if_neg h3, ih]
    · have ih := sift_fB2 (m := m) hn xs c h0
      rw [if_neg h]
      dsimp only
      rw [fB_c, ih]
theorem noE_fB {b : Nat} {xs : List Sk} : fB b (noE xs) = noE (fB b xs) := by
  unfold fB noE
  rw [List.filter_filter, List.filter_filter]
  congr 1
  funext x
  rw [Bool.and_comm]
theorem noE_noZ {xs : List Sk} (hw : GoodW xs) : noE xs = noZ xs := by
  unfold noE noZ
  refine List.filter_congr (fun x hx => ?_)
  obtain ⟨w, e, h⟩ := hw x hx
  rw [e]
  have : (0 : Int32) < ik w ↔ ik w ≠ 0 := by
    rw [show (0 : Int32) = ik 0 from rfl, ik_lt (by decide) (by omega), Ne, ik_inj (by omega) (by decide)]
    omega
  simp only [this]
theorem noE_id {xs : List Sk} (h : ∀ x ∈ xs, 0 < kW x) : noE xs = xs := by
  unfold noE
  rw [List.filter_eq_self]
  intro x hx
  simpa using h x hx
theorem GoodW.fB {b : Nat} {xs : List Sk} (h : GoodW xs) : GoodW (fB b xs) := fun x hx => h x (fB_mem.mp hx).1
theorem eatX_good : ∀ {xs : List Sk} {m : Nat} {c : Int32}, GoodW xs → m < 1000000 → GoodW (eatX xs (ik m) c).1
  | [], _, _, h, _ => h
  | x :: xs, m, c, h, hm => by
    obtain ⟨w, e, hw⟩ := h x List.mem_cons_self
    rw [eatX_c, e, imin_nat (by omega) (by omega), ik_sub (Nat.min_le_left _ _), ik_sub (Nat.min_le_right _ _)]
    intro y hy
    rcases List.mem_cons.mp hy with rfl | hy
    · exact ⟨w - min m w, rfl, by omega⟩
    · exact eatX_good (xs := xs) (fun z hz => h z (List.mem_cons_of_mem _ hz)) (by omega) y hy
/-- slots and places -/
theorem slo_pl {b : Nat} : ∀ (xs : List Sk) (o p : Nat), p < (fB b xs).length → o ≤ (slo (ik b) xs o).getD p 0 ∧ (slo (ik b) xs o).getD p 0 < o + xs.length ∧ xs.getD ((slo (ik b) xs o).getD p 0 - o) sk0 = (fB b xs).getD p sk0 ∧
    ∀ y, kB y = ik b → fB b (xs.set ((slo (ik b) xs o).getD p 0 - o) y) = (fB b xs).set p y ∧ slo (ik b) (xs.set ((slo (ik b) xs o).getD p 0 - o) y) o = slo (ik b) xs o
  | [], o, p, h => absurd h (by simp [fB])
  | x :: xs, o, p, h => by
    rw [fB_c] at h ⊢
    rw [slo_c]
    by_cases hb : kB x = ik b
    · simp only [hb, if_true] at h ⊢
      cases p with
      | zero =>
        simp only [List.getD_cons_zero, Nat.sub_self, List.set_cons_zero, List.length_cons]
        refine ⟨Nat.le_refl _, by omega, trivial, fun y hy => ⟨?_, ?_⟩⟩
        · rw [fB_c, if_pos hy]
        · rw [slo_c, if_pos hy]
      | succ p =>
        have ih := slo_pl (b := b) xs (o + 1) p (by simpa using h)
        obtain ⟨i1, i2, i3, i4⟩ := ih
        simp only [List.getD_cons_succ, List.set_cons_succ, List.length_cons]
        generalize (slo (ik b) xs (o + 1)).getD p 0 = q at i1 i2 i3 i4
        obtain ⟨m, rfl⟩ : ∃ m, q = o + 1 + m := ⟨q - (o + 1), by omega⟩
        rw [show o + 1 + m - o = m + 1 by omega]
        rw [show o + 1 + m - (o + 1) = m by omega] at i3 i4
        refine ⟨by omega, by omega, by rw [List.getD_cons_succ]; exact i3, fun y hy => ?_⟩
        rw [List.set_cons_succ, fB_c, if_pos hb, slo_c, if_pos hb, (i4 y hy).1, (i4 y hy).2]
        exact ⟨rfl, rfl⟩
    · simp only [hb, if_false] at h ⊢
      have ih := slo_pl (b := b) xs (o + 1) p h
      obtain ⟨i1, i2, i3, i4⟩ := ih
      generalize (slo (ik b) xs (o + 1)).getD p 0 = q at i1 i2 i3 i4
      obtain ⟨m, rfl⟩ : ∃ m, q = o + 1 + m := ⟨q - (o + 1), by omega⟩
      rw [show o + 1 + m - o = m + 1 by omega]
      rw [show o + 1 + m - (o + 1) = m by omega] at i3 i4
      rw [List.length_cons]
      refine ⟨by omega, by omega, by rw [List.getD_cons_succ]; exact i3, fun y hy => ?_⟩
      rw [List.set_cons_succ, fB_c, if_neg hb, slo_c, if_neg hb, (i4 y hy).1, (i4 y hy).2]
      exact ⟨rfl, rfl⟩
theorem insV_map {wt wt2 : Nat → Int} {g : Nat → Nat} {x : Nat} : ∀ {R : List Nat}, (∀ y ∈ R, wt (g y) = wt2 y) → wt (g x) = wt2 x → insV wt (g x) (R.map g) = (insV wt2 x R).map g
  | [], _, _ => rfl
  | y :: t, h, hx => by
    rw [List.map_cons, insV, insV, h y List.mem_cons_self, hx]
    by_cases hc : wt2 y < wt2 x
    · rw [if_pos hc, if_pos hc, List.map_cons, insV_map (fun z hz => h z (List.mem_cons_of_mem _ hz)) hx]
    · rw [if_neg hc, if_neg hc, List.map_cons, List.map_cons]
theorem srt_map {wt wt2 : Nat → Int} {S : List Nat} (h : ∀ y, y < S.length → wt (S.getD y 0) = wt2 y) : ∀ n, n ≤ S.length → srtR wt (S.take n) = (rsrt wt2 n).map (fun j => S.getD j 0)
  | 0, _ => rfl
  | n + 1, hn => by
    have ih := srt_map h n (by omega)
    have e : S.take (n + 1) = S.take n ++ [S.getD n 0] := by
      rw [List.take_succ, List.getD_eq_getElem?_getD, List.getElem?_eq_getElem (by omega)]
      rfl
    rw [e]
    unfold srtR at ih ⊢
    rw [List.foldl_append, ih]
    show insV wt (S.getD n 0) ((rsrt wt2 n).map (fun j => S.getD j 0)) = _
    rw [rsrt]
    exact insV_map (g := fun j => S.getD j 0) (fun y hy => h y (by have := rsrt_lt wt2 hy; omega)) (h n (by omega))
theorem map_range {S : List Nat} : (List.range S.length).map (fun j => S.getD j 0) = S := by
  apply List.ext_getElem?
  intro i
  rw [List.getElem?_map]
  by_cases hi : i < S.length
  · rw [List.getElem?_range hi, List.getElem?_eq_getElem hi, Option.map_some, List.getD_eq_getElem?_getD, List.getElem?_eq_getElem hi]
    rfl
  · rw [List.getElem?_eq_none (by simpa using hi), List.getElem?_eq_none (by omega)]
    rfl
theorem ord_plc {m : Int32} {b : Nat} {xs : List Sk} : ordS m xs (ik b) = (plc m (fB b xs)).map (fun j => (slo (ik b) xs 0).getD j 0) := by
  have hl := slo_fB (b := b) xs 0
  unfold ordS plc
  rw [← hl]
  by_cases h1 : m = 108
  · rw [if_pos h1, if_pos h1, List.map_reverse, map_range]
  · rw [if_neg h1, if_neg h1]
    by_cases h2 : m = 104
    · rw [if_pos h2, if_pos h2]
      unfold byw
      rw [List.map_reverse]
      have := srt_map (wt := wS xs) (wt2 := wS (fB b xs)) (S := slo (ik b) xs 0) (fun y hy => by
        have := (slo_pl (b := b) xs 0 y (by omega)).2.2.1
        unfold wS
        rw [Nat.sub_zero] at this
        exact congrArg (fun z => (kW z).toInt) this) _ (Nat.le_refl _)
      rw [List.take_length] at this
      rw [this]
    · rw [if_neg h2, if_neg h2, map_range]
theorem sell_fB {b : Nat} {g : Nat → Nat} : ∀ (ps : List Nat) (xs : List Sk) (l c : Int32), (∀ p ∈ ps, p < (fB b xs).length) → (∀ j, g j = (slo (ik b) xs 0).getD j 0) →
    fB b (sellG (ps.map g) xs l c).1 = (sellG ps (fB b xs) l c).1 ∧ (sellG (ps.map g) xs l c).2 = (sellG ps (fB b xs) l c).2 ∧ ∀ b2, ik b ≠ ik b2 → fB b2 (sellG (ps.map g) xs l c).1 = fB b2 xs
  | [], xs, l, c, _, _ => ⟨rfl, rfl, fun _ _ => rfl⟩
  | p :: ps, xs, l, c, hp, hg => by
    obtain ⟨-, s2, s3, s4⟩ := slo_pl (b := b) xs 0 p (hp p List.mem_cons_self)
    rw [Nat.sub_zero, ← hg p] at s3 s4
    rw [← hg p, Nat.zero_add] at s2
    rw [List.map_cons, sellG_c, sellG_c, s3]
    generalize hx : (fB b xs).getD p sk0 = x at s3
    have hxb : kB x = ik b := by
      have hm : x ∈ fB b xs := by
        rw [← hx, List.getD_eq_getElem?_getD, List.getElem?_eq_getElem (hp p List.mem_cons_self)]
        exact List.getElem_mem _
      exact (fB_mem.mp hm).2
    generalize hy : setW x (kW x - imin l (kW x)) = y
    have hyb : kB y = ik b := by rw [← hy]; exact hxb
    obtain ⟨t1, t2⟩ := s4 y hyb
    have ih := sell_fB (b := b) (g := g) ps (xs.set (g p) y) (l - imin l (kW x)) (c + imin l (kW x) * kP x) (fun q hq => by rw [t1, List.length_set]; exact hp q (List.mem_cons_of_mem _ hq)) (fun j => by rw [t2]; exact hg j)
    rw [t1] at ih
    refine ⟨ih.1, ih.2.1, fun b2 hb2 => (ih.2.2 b2 hb2).trans ?_⟩
    obtain ⟨pre, post, es, el⟩ := split_at s2 sk0
    rw [s3] at es
    rw [es, ← el, set_mid, fB_app, fB_app, fB_c, fB_c, if_neg (fun z => hb2 (hyb.symm.trans z)), if_neg (fun z => hb2 (hxb.symm.trans z))]
theorem cost_fB {b : Nat} {g : Nat → Nat} {xs : List Sk} : ∀ (ps : List Nat) (l c : Int32), (∀ p ∈ ps, p < (fB b xs).length) → (∀ j, g j = (slo (ik b) xs 0).getD j 0) → costG (ps.map g) xs l c = costG ps (fB b xs) l c
  | [], l, c, _, _ => rfl
  | p :: ps, l, c, hp, hg => by
    obtain ⟨-, s2, s3, -⟩ := slo_pl (b := b) xs 0 p (hp p List.mem_cons_self)
    rw [Nat.sub_zero, ← hg p] at s3
    rw [List.map_cons, costG_c, costG_c, s3]
    exact cost_fB ps _ _ (fun q hq => hp q (List.mem_cons_of_mem _ hq)) hg
theorem sellG_c0 : ∀ (ks : List Nat) (xs : List Sk) (l c : Int32), (sellG ks xs l c).1 = (sellG ks xs l 0).1 ∧ (sellG ks xs l c).2 = c + (sellG ks xs l 0).2
  | [], xs, l, c => ⟨rfl, (Int32.add_zero c).symm⟩
  | k :: ks, xs, l, c => by
    rw [sellG_c, sellG_c]
    have a := sellG_c0 ks (xs.set k (setW (xs.getD k sk0) (kW (xs.getD k sk0) - imin l (kW (xs.getD k sk0))))) (l - imin l (kW (xs.getD k sk0))) (c + imin l (kW (xs.getD k sk0)) * kP (xs.getD k sk0))
    have a2 := sellG_c0 ks (xs.set k (setW (xs.getD k sk0) (kW (xs.getD k sk0) - imin l (kW (xs.getD k sk0))))) (l - imin l (kW (xs.getD k sk0))) (0 + imin l (kW (xs.getD k sk0)) * kP (xs.getD k sk0))
    refine ⟨a.1.trans a2.1.symm, ?_⟩
    rw [a.2, a2.2, Int32.zero_add, Int32.add_assoc]
theorem plX_sl {z : Int32} : ∀ (xs : List Sk) (k : Nat), plX z xs k = slL z xs k
  | [], k => rfl
  | x :: xs, k => by rw [plX_c, slL_c, plX_sl xs]
theorem insX_last {y : Sk} {xs : List Sk} (h : ∀ x ∈ xs, ¬ kId y < kId x) : insX y xs = xs ++ [y] := by
  unfold insX
  have : insR y xs.reverse = y :: xs.reverse := by
    cases hr : xs.reverse with
    | nil => rfl
    | cons x t =>
      have hx : x ∈ xs := by rw [← List.mem_reverse, hr]; exact List.mem_cons_self
      rw [insR_c, if_neg (h x hx)]
  rw [this]
  simp
theorem insR_mid {y : Sk} {A : List Sk} (hA : ∀ x ∈ A, ¬ kId y < kId x) : ∀ {t : List Sk}, (∀ x ∈ t, kId y < kId x) → insR y (t ++ A) = t ++ y :: A
  | [], _ => by
    cases A with
    | nil => rfl
    | cons x A =>
      show insR y (x :: A) = _
      rw [insR_c, if_neg (hA x List.mem_cons_self)]
      rfl
  | x :: t, h => by
    show insR y (x :: (t ++ A)) = _
    rw [insR_c, if_pos (h x List.mem_cons_self), insR_mid hA (fun z hz => h z (List.mem_cons_of_mem _ hz))]
    rfl
theorem insX_mid {y : Sk} {A C : List Sk} (hA : ∀ x ∈ A, ¬ kId y < kId x) (hC : ∀ x ∈ C, kId y < kId x) : insX y (A ++ C) = A ++ y :: C := by
  unfold insX
  rw [List.reverse_append, insR_mid (fun x hx => hA x (List.mem_reverse.mp hx)) (fun x hx => hC x (List.mem_reverse.mp hx))]
  simp
/-- sums over the bins -/
def sumI : Nat → (Nat → Int32) → Int32
  | 0, _ => 0
  | n + 1, g => sumI n g + g n
theorem sumI_add {g h : Nat → Int32} : ∀ {n : Nat}, sumI n (fun k => g k + h k) = sumI n g + sumI n h
  | 0 => (Int32.add_zero 0).symm
  | n + 1 => by
    show sumI n (fun k => g k + h k) + (g n + h n) = sumI n g + g n + (sumI n h + h n)
    rw [sumI_add]
    simp only [Int32.add_assoc]
    rw [← Int32.add_assoc (sumI n h), Int32.add_comm (sumI n h) (g n), Int32.add_assoc]
theorem sumI_cg {g h : Nat → Int32} : ∀ {n : Nat}, (∀ k, k < n → g k = h k) → sumI n g = sumI n h
  | 0, _ => rfl
  | n + 1, e => by
    show sumI n g + g n = sumI n h + h n
    rw [sumI_cg (fun k hk => e k (by omega)), e n (by omega)]
theorem sumI_one {j : Nat} {v : Int32} : ∀ {n : Nat}, sumI n (fun k => if j = k then v else 0) = if j < n then v else 0
  | 0 => by simp [sumI]
  | n + 1 => by
    show sumI n (fun k => if j = k then v else 0) + (if j = n then v else 0) = _
    rw [sumI_one]
    by_cases h1 : j < n
    · rw [if_pos h1, if_neg (by omega), if_pos (by omega), Int32.add_zero]
    · by_cases h2 : j = n
      · rw [if_neg h1, if_pos h2, if_pos (by omega), Int32.zero_add]
      · rw [if_neg h1, if_neg h2, if_neg (by omega), Int32.add_zero]
theorem sumI_0 : ∀ {n : Nat}, sumI n (fun _ => 0) = 0
  | 0 => rfl
  | n + 1 => by
    show sumI n (fun _ => 0) + 0 = 0
    rw [sumI_0, Int32.add_zero]
theorem wgX_a : ∀ (xs : List Sk) (a : Int32), wgX xs a = a + wgX xs 0
  | [], a => (Int32.add_zero a).symm
  | x :: xs, a => by
    show wgX xs (a + kW x) = a + wgX xs (0 + kW x)
    rw [wgX_a xs (a + kW x), wgX_a xs (0 + kW x), Int32.zero_add, Int32.add_assoc]
theorem vlX_a : ∀ (xs : List Sk) (a : Int32), vlX xs a = a + vlX xs 0
  | [], a => (Int32.add_zero a).symm
  | x :: xs, a => by
    show vlX xs (a + kW x * kP x) = a + vlX xs (0 + kW x * kP x)
    rw [vlX_a xs (a + kW x * kP x), vlX_a xs (0 + kW x * kP x), Int32.zero_add, Int32.add_assoc]
theorem wgX_c {x : Sk} {xs : List Sk} : wgX (x :: xs) 0 = kW x + wgX xs 0 := by
  show wgX xs (0 + kW x) = _
  rw [wgX_a, Int32.zero_add]
theorem vlX_c {x : Sk} {xs : List Sk} : vlX (x :: xs) 0 = kW x * kP x + vlX xs 0 := by
  show vlX xs (0 + kW x * kP x) = _
  rw [vlX_a, Int32.zero_add]
theorem sumW_wg {xs : List Sk} {a : Int32} : sumW xs a = wgX xs a := rfl
theorem sumV_vl {xs : List Sk} {a : Int32} : sumV xs a = vlX xs a := rfl
theorem sum_bins {n : Nat} (hn : n ≤ 5) : ∀ {xs : List Sk}, (∀ x ∈ xs, ∃ k, k < n ∧ kB x = ik k) → wgX xs 0 = sumI n (fun k => wgX (fB k xs) 0) ∧ vlX xs 0 = sumI n (fun k => vlX (fB k xs) 0)
  | [], _ => ⟨sumI_0.symm, sumI_0.symm⟩
  | x :: xs, h => by
    obtain ⟨j, hj, e⟩ := h x List.mem_cons_self
    have ih := sum_bins hn (xs := xs) (fun y hy => h y (List.mem_cons_of_mem _ hy))
    have key : ∀ k, k < n → (kB x = ik k ↔ j = k) := fun k hk => by rw [e, ik_inj (by omega) (by omega)]
    constructor
    · rw [wgX_c, ih.1, ← (show sumI n (fun k => if j = k then kW x else 0) = kW x by rw [sumI_one, if_pos hj]), ← sumI_add]
      refine sumI_cg (fun k hk => ?_)
      rw [fB_c]
      by_cases hjk : j = k
      · rw [if_pos hjk, if_pos ((key k hk).mpr hjk), wgX_c]
      · rw [if_neg hjk, if_neg (fun z => hjk ((key k hk).mp z)), Int32.zero_add]
    · rw [vlX_c, ih.2, ← (show sumI n (fun k => if j = k then kW x * kP x else 0) = kW x * kP x by rw [sumI_one, if_pos hj]), ← sumI_add]
      refine sumI_cg (fun k hk => ?_)
      rw [fB_c]
      by_cases hjk : j = k
      · rw [if_pos hjk, if_pos ((key k hk).mpr hjk), vlX_c]
      · rw [if_neg hjk, if_neg (fun z => hjk ((key k hk).mp z)), Int32.zero_add]
