/-! loads and splits: the tables and the trials have one value -/
/-- the sum of the places that the set names -/
def sm : List Nat → Nat → Nat
  | [], _ => 0
  | w :: ws, s => (if s % 2 = 1 then w else 0) + sm ws (s / 2)
theorem sm_le : ∀ (ws : List Nat) (s : Nat), sm ws s ≤ ws.sum
  | [], _ => Nat.le_refl _
  | w :: ws, s => by
    have := sm_le ws (s / 2)
    simp only [sm, List.sum_cons]
    split <;> omega
def mxn (a b : Nat) : Nat := if a ≤ b then b else a
theorem mxn_l (a b : Nat) : a ≤ mxn a b := by unfold mxn; split <;> omega
theorem mxn_r (a b : Nat) : b ≤ mxn a b := by unfold mxn; split <;> omega
theorem mxn_le {a b c : Nat} (h1 : a ≤ c) (h2 : b ≤ c) : mxn a b ≤ c := by unfold mxn; split <;> omega
theorem mxn_or (a b : Nat) : mxn a b = a ∨ mxn a b = b := by unfold mxn; split <;> simp
/-- the best load of at most c kilograms: weight, value -/
def kn : List (Nat × Nat) → Nat → Nat
  | [], _ => 0
  | q :: xs, c => mxn (kn xs c) (if q.1 ≤ c then q.2 + kn xs (c - q.1) else 0)
theorem kn_app (x : Nat × Nat) : ∀ (xs : List (Nat × Nat)) (c : Nat), kn (xs ++ [x]) c = mxn (kn xs c) (if x.1 ≤ c then x.2 + kn xs (c - x.1) else 0)
  | [], c => rfl
  | q :: xs, c => by
    have h1 := kn_app x xs c
    have h2 := kn_app x xs (c - q.1)
    have e : c - q.1 - x.1 = c - x.1 - q.1 := by omega
    simp only [List.cons_append, kn]
    rw [h1, h2, e]
    generalize kn xs c = a1
    generalize kn xs (c - x.1) = a2
    generalize kn xs (c - q.1) = a3
    generalize kn xs (c - x.1 - q.1) = a4
    unfold mxn
    repeat' split
    all_goals omega
theorem kn_c (q : Nat × Nat) (xs : List (Nat × Nat)) (c : Nat) : kn (q :: xs) c = mxn (kn xs c) (if q.1 ≤ c then q.2 + kn xs (c - q.1) else 0) := rfl
theorem kn_ub : ∀ {xs : List (Nat × Nat)} {c s : Nat}, sm (xs.map (·.1)) s ≤ c → sm (xs.map (·.2)) s ≤ kn xs c
  | [], _, _, _ => Nat.le_refl _
  | q :: xs, c, s, h => by
    simp only [List.map_cons, sm] at h ⊢
    unfold kn
    by_cases hs : s % 2 = 1
    · rw [if_pos hs] at h ⊢
      have h2 := kn_ub (xs := xs) (c := c - q.1) (s := s / 2) (by omega)
      have h3 := mxn_r (kn xs c) (if q.1 ≤ c then q.2 + kn xs (c - q.1) else 0)
      rw [if_pos (by omega)] at h3 ⊢
      omega
    · rw [if_neg hs] at h ⊢
      have h2 := kn_ub (xs := xs) (c := c) (s := s / 2) (by omega)
      have h3 := mxn_l (kn xs c) (if q.1 ≤ c then q.2 + kn xs (c - q.1) else 0)
      omega
theorem kn_at : ∀ (xs : List (Nat × Nat)) (c : Nat), ∃ s, s < 2 ^ xs.length ∧ sm (xs.map (·.1)) s ≤ c ∧ sm (xs.map (·.2)) s = kn xs c
  | [], c => ⟨0, by decide, Nat.zero_le _, rfl⟩
  | q :: xs, c => by
    have pw : 2 ^ (q :: xs).length = 2 * 2 ^ xs.length := by rw [List.length_cons, Nat.pow_succ]; omega
    have stay : kn (q :: xs) c = kn xs c → ∃ s, s < 2 ^ (q :: xs).length ∧ sm ((q :: xs).map (·.1)) s ≤ c ∧ sm ((q :: xs).map (·.2)) s = kn (q :: xs) c := by
      intro h
      obtain ⟨s, h1, h2, h3⟩ := kn_at xs c
      refine ⟨2 * s, by omega, ?_, ?_⟩
      · simp only [List.map_cons, sm]
        rw [if_neg (by omega), show 2 * s / 2 = s by omega]
        omega
      · simp only [List.map_cons, sm]
        rw [if_neg (by omega), show 2 * s / 2 = s by omega, h]
        omega
    rcases mxn_or (kn xs c) (if q.1 ≤ c then q.2 + kn xs (c - q.1) else 0) with h | h
    · exact stay h
    · by_cases hw : q.1 ≤ c
      · rw [if_pos hw] at h
        obtain ⟨s, h1, h2, h3⟩ := kn_at xs (c - q.1)
        refine ⟨2 * s + 1, by omega, ?_, ?_⟩
        · simp only [List.map_cons, sm]
          rw [if_pos (by omega), show (2 * s + 1) / 2 = s by omega]
          omega
        · simp only [List.map_cons, sm]
          rw [if_pos (by omega), show (2 * s + 1) / 2 = s by omega, h3]
          rw [kn_c, if_pos hw]
          exact h.symm
      · rw [if_neg hw] at h
        by_cases h0 : kn xs c = 0
        · exact stay (by rw [kn_c, if_neg hw, h0]; rfl)
        · exfalso
          unfold mxn at h
          split at h <;> omega
/-- the greatest of f over the sets below n that are allowed -/
def bmx (ok : Nat → Bool) (f : Nat → Nat) : Nat → Nat → Nat
  | 0, z => z
  | n + 1, z => if ok n then mxn (bmx ok f n z) (f n) else bmx ok f n z
theorem bmx_z (ok : Nat → Bool) (f : Nat → Nat) : ∀ n z, z ≤ bmx ok f n z
  | 0, z => Nat.le_refl _
  | n + 1, z => by
    unfold bmx
    split
    · exact Nat.le_trans (bmx_z ok f n z) (mxn_l _ _)
    · exact bmx_z ok f n z
theorem bmx_f (ok : Nat → Bool) (f : Nat → Nat) : ∀ n z k, k < n → ok k = true → f k ≤ bmx ok f n z
  | 0, z, k, h, _ => absurd h (Nat.not_lt_zero _)
  | n + 1, z, k, h, hk => by
    unfold bmx
    by_cases e : k = n
    · subst e
      rw [if_pos hk]
      exact mxn_r _ _
    · have := bmx_f ok f n z k (by omega) hk
      split
      · exact Nat.le_trans this (mxn_l _ _)
      · exact this
theorem bmx_le {ok : Nat → Bool} {f : Nat → Nat} {c : Nat} : ∀ {n z : Nat}, z ≤ c → (∀ k, k < n → ok k = true → f k ≤ c) → bmx ok f n z ≤ c
  | 0, z, h, _ => h
  | n + 1, z, h, hk => by
    have := bmx_le (n := n) h (fun k h1 h2 => hk k (by omega) h2)
    unfold bmx
    split
    · exact mxn_le this (hk n (by omega) (by assumption))
    · exact this
theorem kn_all (xs : List (Nat × Nat)) (c : Nat) : bmx (fun s => decide (sm (xs.map (·.1)) s ≤ c)) (fun s => sm (xs.map (·.2)) s) (2 ^ xs.length) 0 = kn xs c := by
  apply Nat.le_antisymm
  · exact bmx_le (Nat.zero_le _) (fun k _ h => kn_ub (of_decide_eq_true h))
  · obtain ⟨s, h1, h2, h3⟩ := kn_at xs c
    rw [← h3]
    exact bmx_f (fun s => decide (sm (xs.map (·.1)) s ≤ c)) (fun s => sm (xs.map (·.2)) s) _ _ s h1 (decide_eq_true h2)
/-- can the sacks make c kilograms -/
def pk : List Nat → Nat → Bool
  | [], c => decide (c = 0)
  | w :: ws, c => pk ws c || (decide (w ≤ c) && pk ws (c - w))
theorem pk_app (x : Nat) : ∀ (ws : List Nat) (c : Nat), pk (ws ++ [x]) c = (pk ws c || (decide (x ≤ c) && pk ws (c - x)))
  | [], c => rfl
  | w :: ws, c => by
    have h1 := pk_app x ws c
    have h2 := pk_app x ws (c - w)
    have e : c - w - x = c - x - w := by omega
    simp only [List.cons_append, pk]
    rw [h1, h2, e]
    by_cases ha : w ≤ c
    · by_cases hb : x ≤ c
      · by_cases hc : x ≤ c - w
        · have hd : w ≤ c - x := by omega
          simp only [ha, hb, hc, hd, decide_true, Bool.true_and]
          cases pk ws c <;> cases pk ws (c - w) <;> cases pk ws (c - x) <;> cases pk ws (c - x - w) <;> rfl
        · have hd : ¬ w ≤ c - x := by omega
          simp only [ha, hb, hc, hd, decide_true, decide_false, Bool.true_and, Bool.false_and]
          cases pk ws c <;> cases pk ws (c - w) <;> cases pk ws (c - x) <;> rfl
      · have hc : ¬ x ≤ c - w := by omega
        simp only [ha, hb, hc, decide_true, decide_false, Bool.true_and, Bool.false_and]
        cases pk ws c <;> cases pk ws (c - w) <;> rfl
    · have hd : ¬ w ≤ c - x := by omega
      simp only [ha, hd, decide_false, Bool.false_and, Bool.or_false]
theorem pk_iff : ∀ {ws : List Nat} {c : Nat}, pk ws c = true ↔ ∃ s, s < 2 ^ ws.length ∧ sm ws s = c
  | [], c => by
    simp only [pk, decide_eq_true_eq]
    constructor
    · rintro rfl; exact ⟨0, by decide, rfl⟩
    · rintro ⟨s, -, h⟩; exact h.symm
  | w :: ws, c => by
    have pw : 2 ^ (w :: ws).length = 2 * 2 ^ ws.length := by rw [List.length_cons, Nat.pow_succ]; omega
    simp only [pk, Bool.or_eq_true, Bool.and_eq_true, decide_eq_true_eq]
    rw [pk_iff, pk_iff, pw]
    constructor
    · rintro (⟨s, h1, h2⟩ | ⟨hw, s, h1, h2⟩)
      · refine ⟨2 * s, by omega, ?_⟩
        simp only [sm]
        rw [if_neg (by omega), show 2 * s / 2 = s by omega]
        omega
      · refine ⟨2 * s + 1, by omega, ?_⟩
        simp only [sm]
        rw [if_pos (by omega), show (2 * s + 1) / 2 = s by omega]
        omega
    · rintro ⟨s, h1, h2⟩
      simp only [sm] at h2
      by_cases hs : s % 2 = 1
      · rw [if_pos hs] at h2
        exact Or.inr ⟨by omega, s / 2, by omega, by omega⟩
      · rw [if_neg hs] at h2
        exact Or.inl ⟨s / 2, by omega, by omega⟩
theorem sm_co : ∀ {ws : List Nat} {s : Nat}, s < 2 ^ ws.length → sm ws (2 ^ ws.length - 1 - s) + sm ws s = ws.sum
  | [], _, _ => rfl
  | w :: ws, s, h => by
    have pw : 2 ^ (w :: ws).length = 2 * 2 ^ ws.length := by rw [List.length_cons, Nat.pow_succ]; omega
    rw [pw] at h ⊢
    have h2 := sm_co (ws := ws) (s := s / 2) (by omega)
    have e : (2 * 2 ^ ws.length - 1 - s) / 2 = 2 ^ ws.length - 1 - s / 2 := by omega
    simp only [sm, List.sum_cons, e]
    by_cases hs : s % 2 = 1
    · rw [if_pos hs, if_neg (by omega)]
      omega
    · rw [if_neg hs, if_pos (by omega)]
      omega
def mnn (a b : Nat) : Nat := if a ≤ b then a else b
theorem mnn_l (a b : Nat) : mnn a b ≤ a := by unfold mnn; split <;> omega
theorem mnn_r (a b : Nat) : mnn a b ≤ b := by unfold mnn; split <;> omega
theorem mnn_or (a b : Nat) : mnn a b = a ∨ mnn a b = b := by unfold mnn; split <;> simp
/-- the least of f below n where it is allowed -/
def bmn (ok : Nat → Bool) (f : Nat → Nat) : Nat → Nat → Nat
  | 0, z => z
  | n + 1, z => if ok n then mnn (bmn ok f n z) (f n) else bmn ok f n z
theorem bmn_z (ok : Nat → Bool) (f : Nat → Nat) : ∀ n z, bmn ok f n z ≤ z
  | 0, z => Nat.le_refl _
  | n + 1, z => by
    unfold bmn
    split
    · exact Nat.le_trans (mnn_l _ _) (bmn_z ok f n z)
    · exact bmn_z ok f n z
theorem bmn_f (ok : Nat → Bool) (f : Nat → Nat) : ∀ n z k, k < n → ok k = true → bmn ok f n z ≤ f k
  | 0, z, k, h, _ => absurd h (Nat.not_lt_zero _)
  | n + 1, z, k, h, hk => by
    unfold bmn
    by_cases e : k = n
    · subst e
      rw [if_pos hk]
      exact mnn_r _ _
    · have := bmn_f ok f n z k (by omega) hk
      split
      · exact Nat.le_trans (mnn_l _ _) this
      · exact this
theorem bmn_or (ok : Nat → Bool) (f : Nat → Nat) : ∀ n z, bmn ok f n z = z ∨ ∃ k, k < n ∧ ok k = true ∧ bmn ok f n z = f k
  | 0, z => Or.inl rfl
  | n + 1, z => by
    unfold bmn
    by_cases h : ok n = true
    · rw [if_pos h]
      rcases mnn_or (bmn ok f n z) (f n) with h2 | h2
      · rcases bmn_or ok f n z with h3 | ⟨k, h3, h4, h5⟩
        · exact Or.inl (h2.trans h3)
        · exact Or.inr ⟨k, by omega, h4, h2.trans h5⟩
      · exact Or.inr ⟨n, by omega, h, h2⟩
    · rw [if_neg h]
      rcases bmn_or ok f n z with h3 | ⟨k, h3, h4, h5⟩
      · exact Or.inl h3
      · exact Or.inr ⟨k, by omega, h4, h5⟩
/-- how far two shares of T are apart -/
def apt (T c : Nat) : Nat := if 2 * c ≤ T then T - 2 * c else 2 * c - T
/-- the fairest split -/
def spl (ws : List Nat) : Nat := bmn (fun _ => true) (fun s => apt ws.sum (sm ws s)) (2 ^ ws.length) ws.sum
theorem spl_tab (ws : List Nat) : bmn (pk ws) (apt ws.sum) (ws.sum + 1) ws.sum = spl ws := by
  apply Nat.le_antisymm
  · rcases bmn_or (fun _ => true) (fun s => apt ws.sum (sm ws s)) (2 ^ ws.length) ws.sum with h | ⟨s, h1, -, h3⟩
    · unfold spl
      rw [h]
      exact bmn_z _ _ _ _
    · unfold spl
      rw [h3]
      exact bmn_f _ _ _ _ (sm ws s) (Nat.lt_succ_of_le (sm_le ws s)) (pk_iff.mpr ⟨s, h1, rfl⟩)
  · rcases bmn_or (pk ws) (apt ws.sum) (ws.sum + 1) ws.sum with h | ⟨c, h1, h2, h3⟩
    · rw [h]
      exact bmn_z _ _ _ _
    · rw [h3]
      obtain ⟨s, h4, h5⟩ := pk_iff.mp h2
      have := bmn_f (fun _ => true) (fun s => apt ws.sum (sm ws s)) (2 ^ ws.length) ws.sum s h4 rfl
      try dsimp only at this
      rw [h5] at this
      exact this
theorem spl_half (ws : List Nat) : bmn (fun s => decide (2 * sm ws s ≤ ws.sum)) (fun s => ws.sum - 2 * sm ws s) (2 ^ ws.length) ws.sum = spl ws := by
  apply Nat.le_antisymm
  · rcases bmn_or (fun _ => true) (fun s => apt ws.sum (sm ws s)) (2 ^ ws.length) ws.sum with h | ⟨s, h1, -, h3⟩
    · unfold spl
      rw [h]
      exact bmn_z _ _ _ _
    · unfold spl
      rw [h3]
      by_cases h : 2 * sm ws s ≤ ws.sum
      · unfold apt
        rw [if_pos h]
        exact bmn_f (fun s => decide (2 * sm ws s ≤ ws.sum)) (fun s => ws.sum - 2 * sm ws s) _ _ s h1 (decide_eq_true h)
      · have hco := sm_co h1
        have := bmn_f (fun s => decide (2 * sm ws s ≤ ws.sum)) (fun s => ws.sum - 2 * sm ws s) (2 ^ ws.length) ws.sum (2 ^ ws.length - 1 - s) (by omega) (decide_eq_true (by omega))
        unfold apt
        rw [if_neg h]
        try dsimp only at this
        omega
  · rcases bmn_or (fun s => decide (2 * sm ws s ≤ ws.sum)) (fun s => ws.sum - 2 * sm ws s) (2 ^ ws.length) ws.sum with h | ⟨s, h1, h2, h3⟩
    · rw [h]
      exact bmn_z _ _ _ _
    · rw [h3]
      have := bmn_f (fun _ => true) (fun s => apt ws.sum (sm ws s)) (2 ^ ws.length) ws.sum s h1 rfl
      have h4 : 2 * sm ws s ≤ ws.sum := of_decide_eq_true h2
      unfold apt at this
      rw [if_pos h4] at this
      exact this
