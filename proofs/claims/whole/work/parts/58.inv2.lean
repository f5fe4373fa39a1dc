/-! the changes keep what holds of the data -/
def WkS (x : Sk) : Prop := (∃ w, kW x = ik w ∧ w ≤ 60) ∧ ∃ g, kG x = ik g ∧ g ≤ 9
theorem WkS.rf {x : Sk} (h : WkS x) : LsS x x := by
  obtain ⟨⟨w, e, hw⟩, hg⟩ := h
  exact ⟨rfl, rfl, rfl, hg, w, w, e, e, Nat.le_refl _, hw⟩
theorem LsS.tr {x y z : Sk} (a : LsS x y) (b : LsS y z) : LsS x z := by
  obtain ⟨a1, a2, a3, a4, v, w, a5, a6, a7, a8⟩ := a
  obtain ⟨b1, b2, b3, b4, v2, w2, b5, b6, b7, b8⟩ := b
  have : v = w2 := (ik_inj (by omega) (by omega)).mp (a6.symm.trans b5)
  exact ⟨b1.trans a1, b2.trans a2, b3.trans a3, b4, v2, w, a5, b6, by omega, a8⟩
theorem LsL.tr : ∀ {xs ys zs : List Sk}, LsL xs ys → LsL ys zs → LsL xs zs
  | [], [], [], _, _ => trivial
  | x :: xs, y :: ys, z :: zs, a, b => ⟨a.1.tr b.1, LsL.tr a.2 b.2⟩
theorem LsL.rf : ∀ {xs : List Sk}, (∀ x ∈ xs, WkS x) → LsL xs xs
  | [], _ => trivial
  | x :: xs, h => ⟨(h x List.mem_cons_self).rf, LsL.rf (fun y hy => h y (List.mem_cons_of_mem _ hy))⟩
theorem LsL.set : ∀ {xs : List Sk} {k : Nat} {y : Sk}, (∀ x ∈ xs, WkS x) → LsS (xs.getD k sk0) y → LsL xs (xs.set k y)
  | [], _, _, _, _ => trivial
  | x :: xs, 0, y, h, hy => ⟨hy, LsL.rf (fun z hz => h z (List.mem_cons_of_mem _ hz))⟩
  | x :: xs, k + 1, y, h, hy => ⟨(h x List.mem_cons_self).rf, LsL.set (fun z hz => h z (List.mem_cons_of_mem _ hz)) hy⟩
theorem LsL.wk {xs ys : List Sk} (h : LsL xs ys) : ∀ y ∈ ys, WkS y := fun y hy => by
  obtain ⟨x, -, -, -, -, e4, v, w, -, e6, h7, h8⟩ := h.mem y hy
  exact ⟨⟨v, e6, by omega⟩, e4⟩
theorem OkS.wk {n : Nat} {x : Sk} (h : OkS n x) : WkS x := by
  obtain ⟨-, ⟨w, e, -, h2⟩, -, h4, -⟩ := h
  exact ⟨⟨w, e, h2⟩, h4⟩
theorem getD_mem {xs : List Sk} {k : Nat} (hk : k < xs.length) : xs.getD k sk0 ∈ xs := by
  rw [List.getD_eq_getElem?_getD, List.getElem?_eq_getElem hk]
  exact List.getElem_mem hk
theorem sellG_ls : ∀ {ks : List Nat} {xs : List Sk} {m : Nat} {c : Int32}, (∀ x ∈ xs, WkS x) → (∀ k ∈ ks, k < xs.length) → m < 1000000 → LsL xs (sellG ks xs (ik m) c).1
  | [], _, _, _, h, _, _ => LsL.rf h
  | k :: ks, xs, m, c, h, hk, hm => by
    obtain ⟨⟨w, ew, hw⟩, hg⟩ := h _ (getD_mem (hk k List.mem_cons_self))
    rw [sellG_c, ew, imin_nat (by omega) (by omega), ik_sub (Nat.min_le_left _ _), ik_sub (Nat.min_le_right _ _)]
    have h1 : LsL xs (xs.set k (setW (xs.getD k sk0) (ik (w - min m w)))) := LsL.set h ⟨rfl, rfl, rfl, hg, w - min m w, w, ew, rfl, Nat.sub_le _ _, hw⟩
    exact h1.tr (sellG_ls h1.wk (fun j hj => by rw [List.length_set]; exact hk j (List.mem_cons_of_mem _ hj)) (by omega))
theorem vlX_app : ∀ {xs ys : List Sk}, vlX (xs ++ ys) 0 = vlX xs 0 + vlX ys 0
  | [], ys => (Int32.zero_add _).symm
  | x :: xs, ys => by
    show vlX (x :: (xs ++ ys)) 0 = _
    rw [vlX_c, vlX_c, vlX_app, Int32.add_assoc]
theorem wgX_app : ∀ {xs ys : List Sk}, wgX (xs ++ ys) 0 = wgX xs 0 + wgX ys 0
  | [], ys => (Int32.zero_add _).symm
  | x :: xs, ys => by
    show wgX (x :: (xs ++ ys)) 0 = _
    rw [wgX_c, wgX_c, wgX_app, Int32.add_assoc]
theorem sellG_v : ∀ {ks : List Nat} {xs : List Sk} {l c : Int32}, (∀ k ∈ ks, k < xs.length) → vlX (sellG ks xs l c).1 0 + (sellG ks xs l c).2 = vlX xs 0 + c
  | [], _, _, _, _ => rfl
  | k :: ks, xs, l, c, hk => by
    obtain ⟨pre, post, es, el⟩ := split_at (hk k List.mem_cons_self) sk0
    rw [sellG_c]
    have ih := sellG_v (ks := ks) (xs := xs.set k (setW (xs.getD k sk0) (kW (xs.getD k sk0) - imin l (kW (xs.getD k sk0))))) (l := l - imin l (kW (xs.getD k sk0))) (c := c + imin l (kW (xs.getD k sk0)) * kP (xs.getD k sk0)) (fun j hj => by rw [List.length_set]; exact hk j (List.mem_cons_of_mem _ hj))
    rw [ih]
    generalize xs.getD k sk0 = x at es
    generalize imin l (kW x) = a
    rw [es, ← el, set_mid, vlX_app, vlX_app, vlX_c, vlX_c]
    show vlX pre 0 + ((kW x - a) * kP x + vlX post 0) + _ = _
    grind
def sumK (ks : List Nat) (xs : List Sk) : Nat := (ks.map (fun k => ix (kW (xs.getD k sk0)))).sum
theorem sumK_c {k : Nat} {ks : List Nat} {xs : List Sk} : sumK (k :: ks) xs = ix (kW (xs.getD k sk0)) + sumK ks xs := by simp [sumK]
theorem getD_set_ne {xs : List Sk} {j k : Nat} {y : Sk} (h : j ≠ k) : (xs.set k y).getD j sk0 = xs.getD j sk0 := by
  rw [List.getD_eq_getElem?_getD, List.getD_eq_getElem?_getD, List.getElem?_set_ne (Ne.symm h)]
theorem sellG_w : ∀ {ks : List Nat} {xs : List Sk} {m : Nat} {c : Int32}, GoodW xs → ks.Nodup → (∀ k ∈ ks, k < xs.length) → m < 1000000 → wgX (sellG ks xs (ik m) c).1 0 + ik (min m (sumK ks xs)) = wgX xs 0
  | [], xs, m, c, _, _, _, _ => by
    show wgX xs 0 + ik (min m 0) = _
    rw [Nat.min_zero]
    exact Int32.add_zero _
  | k :: ks, xs, m, c, hw, hn, hk, hm => by
    rw [List.nodup_cons] at hn
    obtain ⟨pre, post, es, el⟩ := split_at (hk k List.mem_cons_self) sk0
    obtain ⟨w, ew, hw6⟩ := hw.at k
    have hs : sumK ks (xs.set k (setW (xs.getD k sk0) (ik (w - min m w)))) = sumK ks xs := by
      unfold sumK
      congr 1
      refine List.map_congr_left (fun j hj => ?_)
      rw [getD_set_ne (fun (z : j = k) => hn.1 (z ▸ hj))]
    rw [sellG_c, sumK_c, ew, imin_nat (by omega) (by omega), ik_sub (Nat.min_le_left _ _), ik_sub (Nat.min_le_right _ _), ix_ik (by omega)]
    have ih := sellG_w (ks := ks) (xs := xs.set k (setW (xs.getD k sk0) (ik (w - min m w)))) (m := m - min m w) (c := c + ik (min m w) * kP (xs.getD k sk0)) (hw.set (w := w - min m w) rfl (by omega)) hn.2 (fun j hj => by rw [List.length_set]; exact hk j (List.mem_cons_of_mem _ hj)) (by omega)
    rw [hs] at ih
    have e2 : wgX (xs.set k (setW (xs.getD k sk0) (ik (w - min m w)))) 0 + ik (min m w) = wgX xs 0 := by
      generalize xs.getD k sk0 = x at es ew
      rw [es, ← el, set_mid, wgX_app, wgX_app, wgX_c, wgX_c, ew]
      show wgX pre 0 + (ik (w - min m w) + wgX post 0) + _ = _
      have e4 : ik w = ik (w - min m w) + ik (min m w) := by
        rw [ik_add]
        exact congrArg ik (by omega)
      rw [e4]
      grind
    have e3 : ik (min m (w + sumK ks xs)) = ik (min m w) + ik (min (m - min m w) (sumK ks xs)) := by
      rw [ik_add]
      exact congrArg ik (by omega)
    rw [e3, ← e2, ← ih]
    grind
theorem map_getD {xs : List Sk} : (List.range xs.length).map (fun k => xs.getD k sk0) = xs := by
  apply List.ext_getElem?
  intro i
  rw [List.getElem?_map]
  by_cases hi : i < xs.length
  · rw [List.getElem?_range hi, List.getElem?_eq_getElem hi, Option.map_some, List.getD_eq_getElem?_getD, List.getElem?_eq_getElem hi]
    rfl
  · rw [List.getElem?_eq_none (by simpa using hi), List.getElem?_eq_none (by omega)]
    rfl
theorem sumK_plc {m : Int32} {xs : List Sk} : sumK (plc m xs) xs = nws xs := by
  unfold sumK nws
  rw [((plc_perm (m := m) (xs := xs)).map (fun k => ix (kW (xs.getD k sk0)))).sum_nat]
  have := congrArg (List.map (fun x => ix (kW x))) (map_getD (xs := xs))
  rw [List.map_map] at this
  exact congrArg List.sum this
/-- a month's mice in a bin, with what is eaten so far in the account -/
def feedE (k : Nat) (E : Dt) : Int32 × Dt := ((feedD k (bnAt E k) E).1, accD (feedD k (bnAt E k) E).2 2 (dAc E 2 + (feedD k (bnAt E k) E).1))
def binsE : Nat → Nat → Dt → Int32 → Dt × Int32
  | 0, _, E, e => (E, e)
  | n + 1, k, E, e => binsE n (k + 1) (feedE k E).2 (e + (feedE k E).1)
def monthsE : Nat → Dt → Int32 → Dt × Int32
  | 0, E, e => (E, e)
  | n + 1, E, e => monthsE n (binsE (dBs E).length 0 (nextM E) e).1 (binsE (dBs E).length 0 (nextM E) e).2
def acE (D : Dt) (e : Int32) : Dt := accD D 2 (dAc D 2 + e)
theorem updn_cm {a : Nat → Int32} {i j : Nat} {v w : Int32} (h : i ≠ j) : updn (updn a i v) j w = updn (updn a j w) i v := by
  funext k
  unfold updn
  by_cases h1 : k = i
  · rw [if_pos h1, if_neg (by omega), if_pos h1]
  · by_cases h2 : k = j
    · rw [if_pos h2, if_neg h1, if_pos h2]
    · rw [if_neg h2, if_neg h1, if_neg h1, if_neg h2]
theorem feed_acE {k : Nat} {D : Dt} {e : Int32} : feedE k (acE D e) = ((feedD k (bnAt D k) D).1, acE (feedD k (bnAt D k) D).2 (e + (feedD k (bnAt D k) D).1)) := by
  obtain ⟨bs, xs, ac, pc, mo, nx⟩ := D
  have h1 : bnAt (acE (bs, xs, ac, pc, mo, nx) e) k = bnAt (bs, xs, ac, pc, mo, nx) k := rfl
  have h2 : updn ac 2 (ac 2 + e) 7 = ac 7 := updn_ne (by decide)
  unfold feedE
  rw [h1]
  generalize bnAt (bs, xs, ac, pc, mo, nx) k = q
  unfold feedD acE accD
  dsimp only [dBs, dSs, dAc, dPr, dMo, dNx]
  rw [h2]
  generalize imin (leftBy (bT q) (bI q)) (kgL (ik k) xs 0) = z
  generalize eatL (ik k) xs z (ac 7) = y
  refine Prod.ext rfl (Prod.ext rfl (Prod.ext rfl (Prod.ext ?_ rfl)))
  funext j
  show updn (updn (updn ac 2 (ac 2 + e)) 7 y.2) 2 (updn ac 2 (ac 2 + e) 2 + z) j = updn (updn ac 7 y.2) 2 (updn ac 7 y.2 2 + (e + z)) j
  rw [updn_eq, updn_ne (show 2 ≠ 7 by decide)]
  unfold updn
  by_cases h3 : j = 2
  · rw [if_pos h3, if_pos h3, Int32.add_assoc]
  · rw [if_neg h3, if_neg h3, if_neg h3]
theorem bins_acE : ∀ (n k : Nat) (D : Dt) (e : Int32), binsE n k (acE D e) e = (acE (binsM n k D e).1 (binsM n k D e).2, (binsM n k D e).2)
  | 0, _, _, _ => rfl
  | n + 1, k, D, e => by
    show binsE n (k + 1) (feedE k (acE D e)).2 (e + (feedE k (acE D e)).1) = _
    rw [feed_acE]
    exact bins_acE n (k + 1) _ _
theorem months_acE : ∀ (n : Nat) (D : Dt) (e : Int32), monthsE n (acE D e) e = (acE (monthsM n D e).1 (monthsM n D e).2, (monthsM n D e).2)
  | 0, _, _ => rfl
  | n + 1, D, e => by
    show monthsE n (binsE (dBs D).length 0 (nextM (acE D e)) e).1 (binsE (dBs D).length 0 (nextM (acE D e)) e).2 = _
    have : nextM (acE D e) = acE (nextM D) e := rfl
    rw [this, bins_acE]
    exact months_acE n _ _
theorem acE_0 {D : Dt} : acE D 0 = D := by
  obtain ⟨bs, xs, ac, pc, mo, nx⟩ := D
  unfold acE accD
  rw [Int32.add_zero]
  show (bs, xs, updn ac 2 (ac 2), pc, mo, nx) = _
  rw [updn_self]
theorem pass_E {n : Nat} {D : Dt} : passD n D = ((monthsE n D 0).2, (monthsE n D 0).1) := by
  have := months_acE n D 0
  rw [acE_0] at this
  rw [this]
  rfl
/-- the mice of a bin -/
theorem leftBy_n {t m : Nat} (ht : t ≤ 9) (hm : m ≤ 20) : leftBy (ik t) (ik m) = ik (m - t) := by
  unfold leftBy
  rw [imin_nat (by omega) (by omega), ik_sub (Nat.min_le_right _ _)]
  exact congrArg ik (by omega)
theorem afterM_n {h e : Nat} (hh : h ≤ 20) (he : e ≤ h) : ∃ m, afterM (ik h) (ik e) = ik m ∧ m ≤ 20 := by
  unfold afterM
  by_cases h1 : e < h
  · rw [if_pos ((ik_lt (by omega) (by omega)).mpr h1)]
    exact ⟨e, rfl, by omega⟩
  · rw [if_neg (fun z => h1 ((ik_lt (by omega) (by omega)).mp z)), ik_succ, show (2 : Int32) = ik 2 from rfl]
    have e2 : ik (h + 1) / ik 2 = ik ((h + 1) / 2) := ik_hf (by omega)
    rw [e2, ik_add, show (20 : Int32) = ik 20 from rfl, imin_nat (by omega) (by decide)]
    exact ⟨_, rfl, Nat.min_le_right _ _⟩
theorem bn_set {D : Dt} {k j t : Nat} {v : Int32} {X : List Sk × (Nat → Int32) × (Nat → Int32) × Int32 × Int32} (hk : k < (dBs D).length) : bnAt ((dBs D).set k (setBn t (bnAt D k) v), X) j = if j = k then setBn t (bnAt D k) v else bnAt D j := by
  unfold bnAt
  show ((dBs D).set k _).getD j _ = _
  rw [List.getD_eq_getElem?_getD, List.getElem?_set]
  by_cases h : j = k
  · subst h
    rw [if_pos rfl, if_pos hk, if_pos rfl]
    rfl
  · rw [if_neg (Ne.symm h), if_neg h, List.getD_eq_getElem?_getD]
theorem setBn_bC {t : Nat} {q : Bn} {v : Int32} (h : t ≠ 20) : bC (setBn t q v) = bC q := by
  unfold setBn
  rw [if_neg h]
  split
  · rfl
  · split <;> rfl
theorem InvC.setD {D : Dt} (h : InvC D) {k t : Nat} {v : Int32} (hk : k < (dBs D).length) (ht : t ≠ 20) (hq : OkB (setBn t (bnAt D k) v)) {xs : List Sk} {ac : Nat → Int32} {mo : Int32} (hS : InvS (dBs D).length (dNx D) (bnAt D) xs) (hA : InvA ac xs) : InvC ((dBs D).set k (setBn t (bnAt D k) v), xs, ac, dPr D, mo, dNx D) := by
  have hl : (((dBs D).set k (setBn t (bnAt D k) v)) : List Bn).length = (dBs D).length := List.length_set ..
  refine ⟨⟨by show ((dBs D).set k _).length ≤ 5; rw [hl]; exact h.1.1, fun q hq2 => ?_⟩, ?_, h.2.2.1, hA⟩
  · rcases List.mem_or_eq_of_mem_set hq2 with hq2 | rfl
    · exact h.1.2 q hq2
    · exact hq
  · show InvS ((dBs D).set k _).length (dNx D) _ xs
    rw [hl]
    refine ⟨hS.1, hS.2.1, hS.2.2.1, fun j hj => ?_⟩
    obtain ⟨a, b⟩ := hS.2.2.2 j hj
    refine ⟨a, ?_⟩
    rw [bn_set hk]
    by_cases hjk : j = k
    · subst hjk
      rw [if_pos rfl, setBn_bC ht]
      exact b
    · rw [if_neg hjk]
      exact b
theorem kg_nws {D : Dt} (h : InvC D) {k : Nat} : kgL (ik k) (dSs D) 0 = ik (nws (fB k (dSs D))) := by rw [kg_fB, wgX_n h.good.fB]
theorem nws_400 {D : Dt} (h : InvC D) {k : Nat} (hk : k < (dBs D).length) : nws (fB k (dSs D)) ≤ 400 := by
  obtain ⟨⟨c, ec, -, hc⟩, -⟩ := h.okB hk
  have h2 := (h.2.1.2.2.2 k hk).2
  rw [ec, ix_ik (by omega)] at h2
  omega
theorem inv_feed {E : Dt} (h : InvC E) {k : Nat} (hk : k < (dBs E).length) : InvC (feedE k E).2 := by
  obtain ⟨hc, hm, ⟨m, em, hm20⟩, ⟨t, et, ht9⟩⟩ := h.okB hk
  have hn := nws_400 h hk
  have e1 : imin (leftBy (bT (bnAt E k)) (bI (bnAt E k))) (kgL (ik k) (dSs E) 0) = ik (min (m - t) (nws (fB k (dSs E)))) := by
    rw [em, et, leftBy_n ht9 hm20, kg_nws h, imin_nat (by omega) (by omega)]
  unfold feedE feedD
  rw [e1]
  generalize hz : min (m - t) (nws (fB k (dSs E))) = z
  obtain ⟨a, ea, ha⟩ := afterM_n (h := m - t) (e := z) (by omega) (by omega)
  rw [show afterM (leftBy (bT (bnAt E k)) (bI (bnAt E k))) (ik z) = ik a by rw [em, et, leftBy_n ht9 hm20]; exact ea]
  have hls := eatL_ls (b := ik k) (xs := dSs E) (m := z) (c := dAc E 7) (fun x hx => ⟨_, h.2.1.1 x hx⟩) (by omega)
  have hw := eatL_w (b := k) (xs := dSs E) (m := z) (c := dAc E 7) h.good (by omega)
  have hv := eatL_v (b := ik k) (xs := dSs E) (l := ik z) (c := dAc E 7)
  have hnE := wgX_noE hls.good
  refine h.setD (t := 22) (v := ik a) hk (by decide) ⟨hc, hm, ⟨a, rfl, ha⟩, t, et, ht9⟩ (h.2.1.ls hls (fun _ _ => rfl)) ⟨?_, ?_⟩
  · rw [show min z (nws (fB k (dSs E))) = z by omega] at hw
    rw [hnE.1]
    show updn (updn (dAc E) 7 _) 2 _ 0 = updn (updn (dAc E) 7 _) 2 _ 1 + updn (updn (dAc E) 7 _) 2 _ 2 + updn (updn (dAc E) 7 _) 2 _ 3 + _
    rw [updn_eq, updn_ne (by decide), updn_ne (by decide), updn_ne (by decide), updn_ne (by decide), updn_ne (by decide), updn_ne (by decide), h.2.2.2.1, ← hw]
    grind
  · rw [hnE.2]
    show _ = updn (updn (dAc E) 7 _) 2 _ 5 - updn (updn (dAc E) 7 _) 2 _ 6 - updn (updn (dAc E) 7 _) 2 _ 7
    rw [updn_ne (by decide), updn_ne (by decide), updn_ne (by decide), updn_ne (by decide), updn_ne (by decide), updn_eq]
    have := h.2.2.2.2
    grind
theorem feedE_keep {k : Nat} {E : Dt} : dNx (feedE k E).2 = dNx E ∧ dMo (feedE k E).2 = dMo E ∧ dAc (feedE k E).2 0 = dAc E 0 ∧ (dBs (feedE k E).2).length = (dBs E).length := by
  refine ⟨rfl, rfl, ?_, feed_len⟩
  unfold feedE feedD accD
  dsimp only [dBs, dSs, dAc, dPr, dMo, dNx]
  rw [updn_ne (by decide), updn_ne (by decide)]
theorem inv_bins : ∀ (n k : Nat) (E : Dt) (e : Int32), InvC E → k + n = (dBs E).length → InvC (binsE n k E e).1 ∧ dNx (binsE n k E e).1 = dNx E ∧ dMo (binsE n k E e).1 = dMo E ∧ dAc (binsE n k E e).1 0 = dAc E 0 ∧ (dBs (binsE n k E e).1).length = (dBs E).length
  | 0, _, _, _, h, _ => ⟨h, rfl, rfl, rfl, rfl⟩
  | n + 1, k, E, e, h, hk => by
    obtain ⟨k1, k2, k3, k4⟩ := feedE_keep (k := k) (E := E)
    obtain ⟨a, b, c, d, g⟩ := inv_bins n (k + 1) (feedE k E).2 (e + (feedE k E).1) (inv_feed h (by omega)) (by omega)
    exact ⟨a, b.trans k1, c.trans k2, d.trans k3, g.trans k4⟩
theorem inv_next {E : Dt} (h : InvC E) : InvC (nextM E) := h
theorem inv_months : ∀ (n : Nat) (E : Dt) (e : Int32) (z : Nat), InvC E → dMo E = ik z → InvC (monthsE n E e).1 ∧ dNx (monthsE n E e).1 = dNx E ∧ dMo (monthsE n E e).1 = ik (z + n) ∧ dAc (monthsE n E e).1 0 = dAc E 0
  | 0, _, _, _, h, hz => ⟨h, rfl, hz, rfl⟩
  | n + 1, E, e, z, h, hz => by
    obtain ⟨a, b, c, d, g⟩ := inv_bins (dBs E).length 0 (nextM E) e (inv_next h) (by show 0 + (dBs E).length = (dBs E).length; omega)
    have hz2 : dMo (nextM E) = ik (z + 1) := by
      show dMo E + 1 = _
      rw [hz, ik_succ]
    obtain ⟨p, q, s, t⟩ := inv_months n (binsE (dBs E).length 0 (nextM E) e).1 (binsE (dBs E).length 0 (nextM E) e).2 (z + 1) a (c.trans hz2)
    exact ⟨p, q.trans b, by rw [show z + (n + 1) = z + 1 + n by omega]; exact s, t.trans d⟩
