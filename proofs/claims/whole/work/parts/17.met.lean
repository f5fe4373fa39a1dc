/-! the law's methods that catch -/
section Met3
variable {p : Program} {l : Launch} {e : Env} {R : Room} {s : State} {mi : MethodId} {args : Array Value} {below : List Frame} {meth : Method} {c : Code} {Q : State → Prop}
variable {D : va_G} {D7 : Nat → ClassId} {B0 : Nat} {E S0 : St} {α0 : Nat → Nat → Nat} {m : Nat}
theorem LOK.setU {α : Nat → Nat → Nat} {lv : List AV} {ls ls2 : Array Slot} {x : Nat} {V : Value} (h : LOK α m lv ls) (hx : x < ML m) (hd : ∀ y ∈ dst m, y + 1 ≠ x) (h2 : lv_has ls2 (ML m) ((x, V) :: (knL α lv).filter (fun q => !(q.1 == x) && !(q.1 + 1 == x && q.2.category == 2)))) : LOK α m (lv.set x unk) ls2 := by
  obtain ⟨h1, -, h3, h4⟩ := h
  obtain ⟨a, b, g⟩ := h2
  refine ⟨by rw [List.length_set]; exact h1, ⟨a, b, fun q hq => by cases hq⟩, fun j w hj hw => ?_, fun j w hj hw => ?_⟩
  · rw [List.getElem?_set] at hj
    by_cases hxj : x = j
    · subst hxj
      rw [if_pos rfl, if_pos (by omega)] at hj
      cases hj
      exact absurd rfl hw
    · rw [if_neg hxj] at hj
      refine g (j, conc α w) (List.mem_cons_of_mem _ (List.mem_filter.mpr ⟨knL_mem.mpr ⟨w, hj, hw, rfl⟩, ?_⟩))
      simp only [Bool.and_eq_true, Bool.not_eq_true', beq_eq_false_iff_ne, ne_eq, Bool.and_eq_false_iff]
      refine ⟨fun z => hxj z.symm, ?_⟩
      by_cases hc2 : cat w = 2
      · exact Or.inl (hd j (h4 j w hj hc2))
      · exact Or.inr (by rw [conc_cat]; exact hc2)
  · rw [List.getElem?_set] at hj
    by_cases hxj : x = j
    · subst hxj
      rw [if_pos rfl, if_pos (by omega)] at hj
      cases hj
      cases hw
    · rw [if_neg hxj] at hj
      exact h4 j w hj hw
theorem fh_split : ∀ {l : List (Nat × Nat × Nat)} {E : Nat} {q : Nat × Nat}, fh l E = some q → ∃ pre suf, l = pre ++ (E, q.1, q.2) :: suf ∧ ∀ z ∈ pre, z.1 ≠ E
  | [], _, _, h => by cases h
  | (e, b, x) :: l, E, q, h => by
    unfold fh at h
    split at h
    · rename_i he
      cases h
      subst he
      exact ⟨[], l, rfl, fun z hz => by cases hz⟩
    · rename_i he
      obtain ⟨pre, suf, h1, h2⟩ := fh_split h
      refine ⟨(e, b, x) :: pre, suf, by rw [h1]; rfl, fun z hz => ?_⟩
      rcases List.mem_cons.mp hz with rfl | hz
      · exact he
      · exact h2 z hz
theorem chkH_of (h1 : 314 ≤ m) (h2 : m < 361) : chkH m = true := by
  obtain ⟨i, rfl⟩ : ∃ i, m = 314 + i := ⟨m - 314, by omega⟩
  exact List.all_eq_true.mp ch_all i (List.mem_range.mpr (by omega))
theorem chkH_at (h1 : 314 ≤ m) (h2 : m < 361) {i E b x : Nat} (hi : (HD m)[i]? = some (E, b, x)) : ∃ z : Nat × Nat × Nat × Nat, (htL.getD (m - 314) [])[i]? = some z ∧ E < 6 ∧ inW m (.classLink (mY m).cls z.2.2.2 (EXL.getD E "")) = true ∧ z.2.2.2 ≠ 0 ∧ x < ML m ∧
    ((∃ k : Fin 4, decode (mB m) z.2.2.1 = .ok (.astore_n k, 1) ∧ (k : Nat) = x ∧ z.2.2.1 + 1 = pcs m b) ∨ (decode (mB m) z.2.2.1 = .ok (.astore x, 2) ∧ z.2.2.1 + 2 = pcs m b)) := by
  have h := chkH_of h1 h2
  simp only [chkH, Bool.and_eq_true, decide_eq_true_eq] at h
  have hlt := (List.getElem?_eq_some_iff.mp hi).1
  have h3 := List.all_eq_true.mp h.2 i (List.mem_range.mpr hlt)
  rw [hi] at h3
  cases hz : (htL.getD (m - 314) [])[i]? with
  | none => rw [hz] at h3; cases h3
  | some z =>
    obtain ⟨z1, z2, z3, z4⟩ := z
    rw [hz] at h3
    dsimp only at h3
    simp only [Bool.and_eq_true, decide_eq_true_eq] at h3
    obtain ⟨⟨⟨⟨c1, c2⟩, c3⟩, c4⟩, c5⟩ := h3
    refine ⟨_, rfl, c1, c2, c3, c4, ?_⟩
    split at c5
    · rename_i k n hd
      simp only [Bool.and_eq_true, decide_eq_true_eq] at c5
      obtain ⟨⟨d1, d2⟩, d3⟩ := c5
      subst d2
      exact Or.inl ⟨k, hd, d1, d3⟩
    · rename_i k n hd
      simp only [Bool.and_eq_true, decide_eq_true_eq] at c5
      obtain ⟨⟨d1, d2⟩, d3⟩ := c5
      subst d2
      subst d1
      exact Or.inr ⟨hd, d3⟩
    · cases c5
theorem dst_w (h : m < 361) : dst m = [] := by unfold dst; rw [if_neg (by omega)]
theorem cls_w : (List.range 47).all (fun i => decide ((mY (314 + i)).cls ≠ "SighGranary")) = true := by decide +kernel
/-- a throw that comes up to a method that catches -/
theorem catch_ok {jmp : Nat → List AV → List AV → St → Rs} {o : Ot} {S2 : St} (h1 : 314 ≤ m) (h2 : m < 361) (hno : ∀ k, o ≠ .inr k) (C : Cx p l s mi args meth c D D7 B0 E S0 m) (hcast : CastOK s) (htab : c.exceptionTable.toList = tableOf (htL.getD (m - 314) []))
    (hj : ∀ b lv st S1 α1 H1 locs1 ls1, jmp b lv st S1 = some (o, S2) → Iv s D D7 B0 E S0 α0 m α1 S1 lv st H1 locs1 ls1 → W p l e R s mi args below meth c H1 locs1 (sN S1 - sN S0) (sM S1 - sM S0) Q (F0 mi (pcs m b) ls1 (st.map (conc α1)))) :
    ∀ k S3 α1 (H1 : Heap) locs1 lv ls1 pc (a : AI) rest (q : Addr) (ce : Cell), ((∃ n, a.1 = .invokestatic n ∧ a.2.1 ≠ 1) ∨ (∃ n, a.1 = .invokevirtual n) ∨ ∃ n, a.1 = .invokespecial n ∧ a.2.1 ≠ 2) → chkI m pc a = true → (match fh (HD m) k with
        | none => some (.inr k, S3)
        | some x => jmp x.1 (lv.set x.2 unk) [] S3) = some (o, S2) → Iv s D D7 B0 E S0 α0 m α1 S3 lv [] H1 locs1 ls1 → H1[q]? = some ce → ce.vm = .none → s.vm.findClass (EXL.getD k "") = some ce.cls → vx_W p l e R s mi args below meth c H1 locs1 (sN S3 - sN S0) (sM S3 - sM S0) Q (F0 mi pc ls1 rest) q := by
  intro k S3 α1 H1 locs1 lv ls1 pc a rest q ce hk hci hh I hq hcv hcl
  have hcov : ∀ z ∈ htL.getD (m - 314) [], z.1 ≤ pc ∧ pc < z.2.1 := by
    have hc9 : (decide (m < 314) || decide (m = 361) || (htL.getD (m - 314) []).all (fun z => decide (z.1 ≤ pc) && decide (pc < z.2.1))) = true := by
      obtain ⟨i, v, l9⟩ := a
      rcases hk with ⟨n, rfl, hv⟩ | ⟨n, rfl⟩ | ⟨n, rfl, hv⟩
      · simp only [chkI] at hci
        rw [if_neg hv, Bool.and_eq_true] at hci
        exact hci.2
      · simp only [chkI] at hci
        rw [Bool.and_eq_true] at hci
        exact hci.2
      · simp only [chkI] at hci
        rw [if_neg hv] at hci
        split at hci
        · rw [Bool.and_eq_true] at hci
          exact hci.2
        · rw [Bool.and_eq_true] at hci
          exact hci.2
    rw [decide_eq_false (by omega), decide_eq_false (by omega), Bool.false_or, Bool.false_or] at hc9
    intro z hz
    have := List.all_eq_true.mp hc9 z hz
    simp only [Bool.and_eq_true, decide_eq_true_eq] at this
    exact this
  cases hf : fh (HD m) k with
  | none =>
    rw [hf] at hh
    cases hh
    exact absurd rfl (hno k)
  | some x =>
    rw [hf] at hh
    dsimp only at hh
    obtain ⟨pre, suf, hs1, hs2⟩ := fh_split hf
    have hi : (HD m)[pre.length]? = some (k, x.1, x.2) := by rw [hs1, List.getElem?_append_right (Nat.le_refl _), Nat.sub_self]; rfl
    obtain ⟨z, hz, e6, elink, ect, exl, estore⟩ := chkH_at h1 h2 hi
    obtain ⟨hx, hb, hml, hown, hts, hK, hret, hlk, hB0, hnm, htr⟩ := C
    have I0 := I
    obtain ⟨wi, ro, eq, ext, hS, so, lo, lvo, gr, mn⟩ := I
    have hlt := (List.getElem?_eq_some_iff.mp hz).1
    have hsplit : htL.getD (m - 314) [] = (htL.getD (m - 314) []).take pre.length ++ z :: (htL.getD (m - 314) []).drop (pre.length + 1) := by
      have h3 := List.take_append_drop pre.length (htL.getD (m - 314) [])
      rw [List.drop_eq_getElem_cons hlt] at h3
      rw [(List.getElem?_eq_some_iff.mp hz).2] at h3
      exact h3.symm
    have hzin : z ∈ htL.getD (m - 314) [] := List.mem_of_getElem? hz
    have hIu : ∀ ls2, lv_has ls2 (ML m) ((x.2, .ref q) :: (knL α1 lv).filter (fun q => !(q.1 == x.2) && !(q.1 + 1 == x.2 && q.2.category == 2))) → Iv s D D7 B0 E S0 α0 m α1 S3 (lv.set x.2 unk) [] H1 locs1 ls2 := fun ls2 hl2 =>
      ⟨wi, ro, eq, ext, hS, so, lo.setU exl (by rw [dst_w h2]; intro y hy; cases hy) hl2, fun v hv => by
        rcases List.mem_or_eq_of_mem_set hv with hv | rfl
        · exact lvo v hv
        · exact Or.inl rfl, gr, mn⟩
    refine vx_catch (own := (mY m).cls) (name := EXL.getD k "") (E := EXL.getD k "") hown (tableOf ((htL.getD (m - 314) []).take pre.length)) ⟨z.1, z.2.1, z.2.2.1, z.2.2.2⟩ (tableOf ((htL.getD (m - 314) []).drop (pre.length + 1))) ?_ ?_ ?_ ect (hts _ (inW_mem elink)) (exB_at (exB_k e6) (hcast.1 _ (exB_k e6))) hq hcv hcl ?_
    · rw [htab, hsplit]
      simp only [tableOf, List.map_append, List.map_cons]
      rw [← hsplit]
    · intro y hy
      obtain ⟨w, hw, rfl⟩ := List.mem_map.mp hy
      obtain ⟨j, hj⟩ := List.getElem?_of_mem hw
      have hjl : j < pre.length := by
        have := (List.getElem?_eq_some_iff.mp hj).1
        rw [List.length_take] at this
        omega
      rw [List.getElem?_take, if_pos hjl] at hj
      have hpj : (HD m)[j]? = pre[j]? := by rw [hs1, List.getElem?_append_left hjl]
      rw [List.getElem?_eq_getElem hjl] at hpj
      obtain ⟨z2, g1, g2, g3, g4, g5, g6⟩ := chkH_at h1 h2 (E := (pre[j]).1) (b := (pre[j]).2.1) (x := (pre[j]).2.2) hpj
      cases hj.symm.trans g1
      exact Or.inr ⟨g4, _, hts _ (inW_mem g3), hcast.2 _ _ e6 g2 (fun z => hs2 _ (List.getElem_mem hjl) z.symm)⟩
    · have := hcov z hzin
      simp only [covers, Bool.and_eq_true, decide_eq_true_eq]
      exact this
    · rcases estore with ⟨k4, s1, s2, s3⟩ | ⟨s1, s2⟩
      · refine lv_astore_n hx hb s1 s2 lo.has exl rfl (fun ls2 hl2 => ?_)
        have := hj _ _ _ _ _ _ _ _ hh (hIu ls2 hl2)
        rw [← s3] at this
        exact this
      · refine lv_astore hx hb s1 lo.has exl rfl (fun ls2 hl2 => ?_)
        have := hj _ _ _ _ _ _ _ _ hh (hIu ls2 hl2)
        rw [← s2] at this
        exact this
set_option maxHeartbeats 4000000 in
theorem metW_ok (htr : l.stackTraces = false) (d m : Nat) (a : List AV) (S : St) (r : Option AV) (S2 : St) (n : Nat) (α : Nat → Nat → Nat) (h1 : 314 ≤ m) (h2 : m < 361) (hal : a.length ≤ ML m) (h : calF MC ML HD d n m a S = some (.inl r, S2)) :
    Met l (mY m) (wsW m) (rmD d (sN S2 - sN S) (sM S2 - sM S)) (PcM D D7 B0 E α S a) (QcM D D7 B0 E α S (.inl r) S2) (sN S2 - sN S) (sM S2 - sM S) (fun q => B0 ≤ q) := by
  cases d with
  | zero => cases h
  | succ d =>
    refine va_MetW (cc := mB m) (maxL := ML m) (ret := mR m) (hh := htL.getD (m - 314) []) (cw_withm h1 h2).2.1 rfl ?_
    intro p e s mi args below meth c s₁ B hml hP
    obtain ⟨hv, hao, hac, wi, ro, eq, ext, hK, hB0, hcast⟩ := hP
    have hpre := atoms_spec (ws := wsW m) B.pre
    have hts : ∀ w ∈ TWG, w.before args s = true := fun w hw => hpre w (List.mem_cons_of_mem _ hw)
    have C : Cx p l s mi args meth c D D7 B0 E S m := ⟨B.exec, B.bytes, hml, findClass_of_methodNamed B.named, hts, hK, B.returns, B.notSynchronized, hB0, (name_of_methodNamed B.named B.method).1, htr⟩
    have htab := vx_table (x := mY m) B (hpre _ List.mem_cons_self)
    have key : ∀ (k b : Nat) (lv st : List AV) (S1 : St) (α1 : Nat → Nat → Nat) (H1 : Heap) (locs1 : List Loc) (ls1 : Array Slot), jmF MC HD (calF MC ML HD d n) m k b lv st S1 = some (.inl r, S2) → Iv s D D7 B0 E S α m α1 S1 lv st H1 locs1 ls1 →
        W p l e (rmD (d + 1) (sN S2 - sN S) (sM S2 - sM S)) s mi args below meth c H1 locs1 (sN S1 - sN S) (sM S1 - sM S) (MQ below (QcM D D7 B0 E α S (.inl r) S2) args s (sN S2 - sN S) (sM S2 - sM S) (fun q => B0 ≤ q)) (F0 mi (pcs m b) ls1 (st.map (conc α1))) := by
      intro k
      induction k with
      | zero => intro b lv st S1 α1 H1 locs1 ls1 h; cases h
      | succ k ihk =>
        intro b lv st S1 α1 H1 locs1 ls1 h I
        refine walk_ok C (fun m2 a S1 o1 S3 h => calF_mn _ _ _ _ _ _ _ h) (fun b lv st S1 o1 S3 h => jmF_mn h) (hj := fun b lv st S1 α1 H1 locs1 ls1 h I => ihk b lv st S1 α1 H1 locs1 ls1 h I) (hrun := run_ok (fun m2 a S1 o1 S3 α1 h1 h2 h3 => met_ok htr d m2 a S1 o1 S3 n α1 h1 h2 h3) (fun h9 => absurd h9 (by omega)) hcast C ?_ ?_ (Nat.le_refl _) (Nat.le_refl _)) (hexc := catch_ok h1 h2 (fun k z => by cases z) C hcast htab (fun b lv st S1 α1 H1 locs1 ls1 h I => ihk b lv st S1 α1 H1 locs1 ls1 h I)) (hend := end_ok0 C) (hthr := ?_) (Nat.le_refl _) (Nat.le_refl _) ?_ ?_ (MC m b) (pcs m b) lv st S1 α1 H1 locs1 ls1 (ck_blk (by omega) b) h I
        · show 10 + 2 * d + 1 ≤ 10 + 2 * (d + 1); omega
        · show 29 + (200 + 60 * d) ≤ 200 + 60 * (d + 1); omega
        · intro k9 v l9 pc lv st S1 α1 H1 locs1 ls1 hv hci
          simp only [chkI] at hci
          rw [if_neg hv] at hci
          simp only [Bool.and_eq_true, decide_eq_true_eq] at hci
          obtain ⟨i, rfl⟩ : ∃ i, m = 314 + i := ⟨m - 314, by omega⟩
          have := of_decide_eq_true (List.all_eq_true.mp cls_w i (List.mem_range.mpr (by omega)))
          exact absurd hci.1.1.1.1.1.1 this
        · show 2 ≤ 10 + 2 * (d + 1); omega
        · show 150 ≤ 200 + 60 * (d + 1); omega
    subst hv
    rw [lg_entry_eq]
    have fin := key n 0 _ [] S α s.heap [] _ h ⟨wi, ro, eq, ext, va_S.rf, fun v hv => (by cases hv), LOK.entry hac hal, fun v hv => ?_, Grow.rf, Mn.rf⟩
    · rw [ck_pc0 (by omega), Nat.sub_self, Nat.sub_self] at fin
      exact fin
    · rcases List.mem_append.mp hv with hv | hv
      · exact Or.inr (hao v hv)
      · exact Or.inl (List.eq_of_mem_replicate hv)
end Met3
