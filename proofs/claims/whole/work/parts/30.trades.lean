/-! trades of a year: two tables and a trial have one value -/
def mx (a b : Int) : Int := if a ≤ b then b else a
theorem mx_l (a b : Int) : a ≤ mx a b := by unfold mx; split <;> omega
theorem mx_r (a b : Int) : b ≤ mx a b := by unfold mx; split <;> omega
theorem mx_le {a b c : Int} (h1 : a ≤ c) (h2 : b ≤ c) : mx a b ≤ c := by unfold mx; split <;> omega
theorem mx_or (a b : Int) : mx a b = a ∨ mx a b = b := by unfold mx; split <;> simp
/-- the greatest of z and g 0 .. g (n - 1) -/
def mxN (g : Nat → Int) : Nat → Int → Int
  | 0, z => z
  | n + 1, z => mx (mxN g n z) (g n)
theorem mxN_z (g : Nat → Int) : ∀ n z, z ≤ mxN g n z
  | 0, z => Int.le_refl _
  | n + 1, z => Int.le_trans (mxN_z g n z) (mx_l _ _)
theorem mxN_g (g : Nat → Int) : ∀ n z k, k < n → g k ≤ mxN g n z
  | 0, z, k, h => absurd h (Nat.not_lt_zero _)
  | n + 1, z, k, h => by
    by_cases hk : k = n
    · subst hk; exact mx_r _ _
    · exact Int.le_trans (mxN_g g n z k (by omega)) (mx_l _ _)
theorem mxN_le {g : Nat → Int} {c : Int} : ∀ {n : Nat} {z : Int}, z ≤ c → (∀ k, k < n → g k ≤ c) → mxN g n z ≤ c
  | 0, z, hz, _ => hz
  | n + 1, z, hz, h => mx_le (mxN_le hz (fun k hk => h k (by omega))) (h n (by omega))
theorem mxN_or (g : Nat → Int) : ∀ n z, mxN g n z = z ∨ ∃ k, k < n ∧ mxN g n z = g k
  | 0, z => Or.inl rfl
  | n + 1, z => by
    rcases mx_or (mxN g n z) (g n) with h | h
    · rcases mxN_or g n z with h2 | ⟨k, hk, h2⟩
      · exact Or.inl (h.trans h2)
      · exact Or.inr ⟨k, by omega, h.trans h2⟩
    · exact Or.inr ⟨n, by omega, h⟩
section Trades
variable (p : Nat → Int)
/-- up to t trades that end at m at the latest -/
def trU : Nat → Nat → Int
  | 0, _ => 0
  | _ + 1, 0 => 0
  | t + 1, m + 1 => mxN (fun b => trU t b + p (m + 1) - p b) (m + 1) (trU (t + 1) m)
termination_by t m => (t, m)
/-- up to t trades from the month a on, in a year of N months -/
def trT (N : Nat) : Nat → Nat → Int
  | 0, _ => 0
  | t + 1, a => mxN (fun b => if a ≤ b then mxN (fun s => if b < s then p s - p b + trT N t s else 0) N 0 else 0) N 0
/-- a chain of trades from a on -/
def chn : Nat → List (Nat × Nat) → Prop
  | _, [] => True
  | a, q :: l => a ≤ q.1 ∧ q.1 < q.2 ∧ chn q.2 l
def gan : List (Nat × Nat) → Int
  | [] => 0
  | q :: l => p q.2 - p q.1 + gan l
theorem trT_nn (N t a : Nat) : 0 ≤ trT p N t a := by
  cases t with
  | zero => exact Int.le_refl _
  | succ t => unfold trT; exact mxN_z _ _ _
theorem trT_ub {N : Nat} : ∀ {t a : Nat} {l : List (Nat × Nat)}, chn a l → l.length ≤ t → (∀ q ∈ l, q.2 < N) → gan p l ≤ trT p N t a := by
  intro t
  induction t with
  | zero =>
    intro a l h hl hN
    cases l with
    | nil => exact Int.le_refl _
    | cons q l => simp at hl
  | succ t ih =>
    intro a l h hl hN
    cases l with
    | nil => exact trT_nn p N (t + 1) a
    | cons q l =>
      obtain ⟨h1, h2, h3⟩ := h
      have h4 := ih h3 (by simp at hl; omega) (fun z hz => hN z (List.mem_cons_of_mem _ hz))
      have h5 := hN q List.mem_cons_self
      unfold trT
      have h6 := mxN_g (fun s => if q.1 < s then p s - p q.1 + trT p N t s else 0) N 0 q.2 h5
      have h7 := mxN_g (fun b => if a ≤ b then mxN (fun s => if b < s then p s - p b + trT p N t s else 0) N 0 else 0) N 0 q.1 (by omega)
      simp only [if_pos h2] at h6
      simp only [if_pos h1] at h7
      show p q.2 - p q.1 + gan p l ≤ _
      omega
theorem trT_at {N : Nat} : ∀ {t a : Nat}, ∃ l : List (Nat × Nat), chn a l ∧ l.length ≤ t ∧ (∀ q ∈ l, q.2 < N) ∧ gan p l = trT p N t a := by
  intro t
  induction t with
  | zero => intro a; exact ⟨[], trivial, Nat.le_refl _, fun q hq => (by cases hq), rfl⟩
  | succ t ih =>
    intro a
    have nil : trT p N (t + 1) a = 0 → ∃ l : List (Nat × Nat), chn a l ∧ l.length ≤ t + 1 ∧ (∀ q ∈ l, q.2 < N) ∧ gan p l = trT p N (t + 1) a := fun h => ⟨[], trivial, Nat.zero_le _, fun q hq => (by cases hq), h.symm⟩
    rcases mxN_or (fun b => if a ≤ b then mxN (fun s => if b < s then p s - p b + trT p N t s else 0) N 0 else 0) N 0 with h | ⟨b, hb, h⟩
    · exact nil (by unfold trT; exact h)
    · by_cases hab : a ≤ b
      · rw [if_pos hab] at h
        rcases mxN_or (fun s => if b < s then p s - p b + trT p N t s else 0) N 0 with h2 | ⟨s, hs, h2⟩
        · exact nil (by unfold trT; rw [h, h2])
        · by_cases hbs : b < s
          · rw [if_pos hbs] at h2
            obtain ⟨l, l1, l2, l3, l4⟩ := ih (a := s)
            refine ⟨(b, s) :: l, ⟨hab, hbs, l1⟩, by simp; omega, fun q hq => ?_, ?_⟩
            · rcases List.mem_cons.mp hq with rfl | hq
              · exact hs
              · exact l3 q hq
            · unfold trT
              rw [h, h2, ← l4]
              rfl
          · rw [if_neg hbs] at h2
            exact nil (by unfold trT; rw [h, h2])
      · rw [if_neg hab] at h
        exact nil (by unfold trT; exact h)
theorem trU_s (t m : Nat) : trU p (t + 1) (m + 1) = mxN (fun b => trU p t b + p (m + 1) - p b) (m + 1) (trU p (t + 1) m) := by rw [trU]
theorem trU_nn : ∀ t m, 0 ≤ trU p t m := by
  intro t m
  cases t with
  | zero => rw [trU]; exact Int.le_refl _
  | succ t =>
    induction m with
    | zero => rw [trU]; exact Int.le_refl _
    | succ m ih => rw [trU_s]; exact Int.le_trans ih (mxN_z _ _ _)
theorem trU_mm {t m m2 : Nat} (h : m ≤ m2) : trU p t m ≤ trU p t m2 := by
  cases t with
  | zero => rw [trU, trU]; exact Int.le_refl _
  | succ t =>
    induction m2 with
    | zero => rw [show m = 0 by omega]; exact Int.le_refl _
    | succ m2 ih =>
      by_cases hm : m = m2 + 1
      · rw [hm]; exact Int.le_refl _
      · rw [trU_s]; exact Int.le_trans (ih (by omega)) (mxN_z _ _ _)
theorem trU_mt : ∀ t m, trU p t m ≤ trU p (t + 1) m := by
  intro t
  induction t with
  | zero => intro m; rw [trU]; exact trU_nn p 1 m
  | succ t iht =>
    intro m
    induction m with
    | zero => rw [trU, trU]; exact Int.le_refl _
    | succ m ihm =>
      rw [trU_s, trU_s p (t + 1)]
      refine mxN_le (Int.le_trans ihm (mxN_z _ _ _)) (fun b hb => ?_)
      have h1 := mxN_g (fun b => trU p (t + 1) b + p (m + 1) - p b) (m + 1) (trU p (t + 1 + 1) m) b hb
      have h2 := iht b
      try dsimp only at h1 ⊢
      omega
/-- the end of a chain -/
def lst : Nat → List (Nat × Nat) → Nat
  | a, [] => a
  | _, q :: l => lst q.2 l
theorem chn_app : ∀ {a : Nat} {l : List (Nat × Nat)} {q : Nat × Nat}, chn a (l ++ [q]) ↔ chn a l ∧ lst a l ≤ q.1 ∧ q.1 < q.2
  | a, [], q => by simp [chn, lst]
  | a, z :: l, q => by
    simp only [List.cons_append, chn, lst, chn_app]
    constructor
    · rintro ⟨h1, h2, h3, h4, h5⟩; exact ⟨⟨h1, h2, h3⟩, h4, h5⟩
    · rintro ⟨⟨h1, h2, h3⟩, h4, h5⟩; exact ⟨h1, h2, h3, h4, h5⟩
theorem gan_app : ∀ {l : List (Nat × Nat)} {q : Nat × Nat}, gan p (l ++ [q]) = gan p l + (p q.2 - p q.1)
  | [], q => by simp [gan]
  | z :: l, q => by
    have := gan_app (l := l) (q := q)
    simp only [List.cons_append, gan]
    omega
theorem lst_app : ∀ {a : Nat} {l : List (Nat × Nat)} {q : Nat × Nat}, lst a (l ++ [q]) = q.2
  | a, [], q => rfl
  | a, z :: l, q => by simp only [List.cons_append, lst]; exact lst_app
theorem snoc_cases {α : Type} (l : List α) : l = [] ∨ ∃ l2 q, l = l2 ++ [q] := by
  cases h : l.reverse with
  | nil => exact Or.inl (by simpa using h)
  | cons q l2 => exact Or.inr ⟨l2.reverse, q, by have := congrArg List.reverse h; simpa using this⟩
theorem trU_ub : ∀ {t m : Nat} {l : List (Nat × Nat)}, chn 0 l → l.length ≤ t → lst 0 l ≤ m → gan p l ≤ trU p t m := by
  intro t
  induction t with
  | zero =>
    intro m l h hl hm
    cases l with
    | nil => rw [trU]; exact Int.le_refl _
    | cons q l => simp at hl
  | succ t ih =>
    intro m l h hl hm
    rcases snoc_cases l with rfl | ⟨l2, q, rfl⟩
    · exact trU_nn p _ _
    · obtain ⟨h1, h2, h3⟩ := chn_app.mp h
      rw [lst_app] at hm
      have h4 := ih h1 (by simp at hl; omega) h2
      rw [gan_app]
      obtain ⟨k, hk⟩ : ∃ k, q.2 = k + 1 := ⟨q.2 - 1, by omega⟩
      refine Int.le_trans ?_ (trU_mm p (t := t + 1) hm)
      rw [hk, trU_s]
      have h5 := mxN_g (fun b => trU p t b + p (k + 1) - p b) (k + 1) (trU p (t + 1) k) q.1 (by omega)
      try dsimp only at h5
      omega
theorem trU_at : ∀ {t m : Nat}, ∃ l : List (Nat × Nat), chn 0 l ∧ l.length ≤ t ∧ lst 0 l ≤ m ∧ gan p l = trU p t m := by
  intro t
  induction t with
  | zero => intro m; exact ⟨[], trivial, Nat.le_refl _, Nat.zero_le _, by rw [trU]; rfl⟩
  | succ t iht =>
    intro m
    induction m with
    | zero => exact ⟨[], trivial, Nat.zero_le _, Nat.zero_le _, by rw [trU]; rfl⟩
    | succ m ihm =>
      rw [trU_s]
      rcases mxN_or (fun b => trU p t b + p (m + 1) - p b) (m + 1) (trU p (t + 1) m) with h | ⟨b, hb, h⟩
      · obtain ⟨l, l1, l2, l3, l4⟩ := ihm
        exact ⟨l, l1, l2, by omega, l4.trans h.symm⟩
      · obtain ⟨l, l1, l2, l3, l4⟩ := iht (m := b)
        refine ⟨l ++ [(b, m + 1)], chn_app.mpr ⟨l1, l3, by dsimp only; omega⟩, by simp; omega, by rw [lst_app]; exact Nat.le_refl _, ?_⟩
        rw [gan_app, h, l4]
        try dsimp only
        omega
theorem chn_end : ∀ {a : Nat} {l : List (Nat × Nat)}, chn a l → a ≤ lst a l ∧ ∀ q ∈ l, q.2 ≤ lst a l
  | a, [], _ => ⟨Nat.le_refl _, fun q hq => by cases hq⟩
  | a, z :: l, h => by
    obtain ⟨h1, h2, h3⟩ := h
    obtain ⟨h4, h5⟩ := chn_end h3
    refine ⟨by simp only [lst]; omega, fun q hq => ?_⟩
    rcases List.mem_cons.mp hq with rfl | hq
    · exact h4
    · exact h5 q hq
theorem lst_lt {N : Nat} : ∀ {a : Nat} {l : List (Nat × Nat)}, a < N → (∀ q ∈ l, q.2 < N) → lst a l < N
  | a, [], h, _ => h
  | a, z :: l, h, hq => lst_lt (a := z.2) (hq z List.mem_cons_self) (fun q h => hq q (List.mem_cons_of_mem _ h))
theorem tr_same (N t : Nat) : trT p (N + 1) t 0 = trU p t N := by
  apply Int.le_antisymm
  · obtain ⟨l, l1, l2, l3, l4⟩ := trT_at p (N := N + 1) (t := t) (a := 0)
    rw [← l4]
    have := lst_lt (N := N + 1) (a := 0) (Nat.succ_pos _) l3
    exact trU_ub p l1 l2 (by omega)
  · obtain ⟨l, l1, l2, l3, l4⟩ := trU_at p (t := t) (m := N)
    rw [← l4]
    refine trT_ub p l1 l2 (fun q hq => ?_)
    have := (chn_end l1).2 q hq
    omega
/-- the greatest of what up to t trades leave before the months up to m, less the price there -/
def trH (t m : Nat) : Int := mxN (fun j => trU p t j - p j) (m + 1) (- p 0)
theorem trH_s (t m : Nat) : trH p t (m + 1) = mx (trH p t m) (trU p t (m + 1) - p (m + 1)) := rfl
theorem trH_0 (t : Nat) : trH p t 0 = - p 0 := by
  have : trU p t 0 = 0 := by cases t <;> rw [trU]
  simp only [trH, mxN, this, mx]
  split <;> omega
theorem trU_step (t m : Nat) : trU p (t + 1) (m + 1) = mx (trU p (t + 1) m) (trH p t (m + 1) + p (m + 1)) := by
  have h0 : trU p t 0 = 0 := by cases t <;> rw [trU]
  apply Int.le_antisymm
  · rw [trU_s]
    refine mxN_le (mx_l _ _) (fun b hb => ?_)
    have h1 := mxN_g (fun j => trU p t j - p j) (m + 1 + 1) (- p 0) b (by omega)
    have h2 := mx_r (trU p (t + 1) m) (trH p t (m + 1) + p (m + 1))
    unfold trH at h2 ⊢
    try dsimp only at h1 ⊢
    omega
  · refine mx_le (trU_mm p (Nat.le_succ m)) ?_
    rcases mxN_or (fun j => trU p t j - p j) (m + 1 + 1) (- p 0) with h | ⟨j, hj, h⟩
    · unfold trH
      rw [h, trU_s]
      have h3 := mxN_g (fun b => trU p t b + p (m + 1) - p b) (m + 1) (trU p (t + 1) m) 0 (by omega)
      try dsimp only at h3
      omega
    · unfold trH
      rw [h]
      by_cases hjm : j = m + 1
      · subst hjm
        have := trU_mt p t (m + 1)
        omega
      · rw [trU_s]
        have h3 := mxN_g (fun b => trU p t b + p (m + 1) - p b) (m + 1) (trU p (t + 1) m) j (by omega)
        try dsimp only at h3
        omega
end Trades
