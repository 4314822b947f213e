/-! PURE: rounds of lowering along edges, which come to rest (each edge costs 1 at least); what is at rest is one -/
abbrev Eg : Type := Int × Int × Int
/-- along the edge (x, y, w): the value of y becomes at most that of x and w (places stand one higher in the row) -/
def lo1 (c : Int → Int) (e : Eg) : Int → Int := if c (e.1 + 1) + e.2.2 < c (e.2.1 + 1) then fun j => if j = e.2.1 + 1 then c (e.1 + 1) + e.2.2 else c j else c
def rnd (E : List Eg) (c : Int → Int) : Int → Int := E.foldl lo1 c
def rep (E : List Eg) : Nat → (Int → Int) → (Int → Int)
  | 0, c => c
  | n + 1, c => rep E n (rnd E c)
theorem lo1_le (c : Int → Int) (e : Eg) (j : Int) : lo1 c e j ≤ c j := by
  unfold lo1
  split
  · simp only
    split
    · subst_vars; omega
    · omega
  · omega
theorem lo1_tgt (c : Int → Int) (e : Eg) : lo1 c e (e.2.1 + 1) ≤ c (e.1 + 1) + e.2.2 := by
  unfold lo1
  split
  · simp
  · omega
theorem rnd_le (E : List Eg) : ∀ (c : Int → Int) (j : Int), rnd E c j ≤ c j := by
  induction E with
  | nil => intro c j; exact Int.le_refl _
  | cons e E ih => intro c j; exact Int.le_trans (ih (lo1 c e) j) (lo1_le c e j)
theorem rep_succ (E : List Eg) : ∀ (n : Nat) (c : Int → Int), rep E (n + 1) c = rnd E (rep E n c) := by
  intro n
  induction n with
  | zero => intro c; rfl
  | succ n ih => intro c; exact ih (rnd E c)
theorem rep_le (E : List Eg) : ∀ (n : Nat) (c : Int → Int) (j : Int), rep E n c j ≤ c j := by
  intro n
  induction n with
  | zero => intro c j; exact Int.le_refl _
  | succ n ih => intro c j; rw [rep_succ]; exact Int.le_trans (rnd_le E _ j) (ih c j)
theorem rep_fix (E : List Eg) {c : Int → Int} (h : rnd E c = c) : ∀ n : Nat, rep E n c = c := by
  intro n
  induction n with
  | zero => rfl
  | succ n ih => rw [rep_succ, ih, h]
theorem rep_add (E : List Eg) : ∀ (m n : Nat) (c : Int → Int), rep E (m + n) c = rep E n (rep E m c) := by
  intro m
  induction m with
  | zero => intro n c; simp [rep]
  | succ m ih =>
    intro n c
    rw [show m + 1 + n = (m + n) + 1 by omega]
    exact ih n (rnd E c)
/-- edges between places, at a cost of 1 at least -/
def okE (E : List Eg) : Prop := ∀ e ∈ E, (-1 ≤ e.1 ∧ e.1 < 60) ∧ (-1 ≤ e.2.1 ∧ e.2.1 < 60) ∧ 1 ≤ e.2.2
/-- at rest along an edge -/
def att (c : Int → Int) (e : Eg) : Prop := c (e.2.1 + 1) ≤ c (e.1 + 1) + e.2.2
theorem lo1_att {c : Int → Int} {e : Eg} (h : att c e) : lo1 c e = c := by
  unfold lo1 att at *
  rw [if_neg (by omega)]
theorem rnd_att {E : List Eg} : ∀ {c : Int → Int}, (∀ e ∈ E, att c e) → rnd E c = c := by
  induction E with
  | nil => intro c _; rfl
  | cons e E ih =>
    intro c h
    show rnd E (lo1 c e) = c
    rw [lo1_att (h e List.mem_cons_self)]
    exact ih (fun e he => h e (List.mem_cons_of_mem _ he))
/-- behind a round: what did not change at x was handed on along every edge from x -/
theorem rnd_hand (E : List Eg) : ∀ (c : Int → Int) (e : Eg), e ∈ E → rnd E c (e.1 + 1) = c (e.1 + 1) → rnd E c (e.2.1 + 1) ≤ c (e.1 + 1) + e.2.2 := by
  induction E with
  | nil => intro c e he; cases he
  | cons f E ih =>
    intro c e he hx
    have h1 := rnd_le E (lo1 c f) (e.1 + 1)
    have h2 := lo1_le c f (e.1 + 1)
    have hx' : rnd E (lo1 c f) (e.1 + 1) = c (e.1 + 1) := hx
    rcases List.mem_cons.mp he with h | h
    · subst h
      exact Int.le_trans (rnd_le E (lo1 c e) (e.2.1 + 1)) (lo1_tgt c e)
    · have h3 : lo1 c f (e.1 + 1) = c (e.1 + 1) := by omega
      have := ih (lo1 c f) e h (by rw [h3]; exact hx')
      rw [h3] at this
      exact this
theorem rnd_fix_att {E : List Eg} {c : Int → Int} (h : rnd E c = c) : ∀ e ∈ E, att c e := by
  intro e he
  have := rnd_hand E c e he (by rw [h])
  rw [h] at this
  exact this
/-- new values lie above m, where the edges from below m are at rest -/
theorem rnd_above {E : List Eg} (hE : okE E) {m : Int} : ∀ (c c0 : Int → Int), (∀ e ∈ E, c0 (e.1 + 1) < m → att c0 e) → (∀ j, c j ≤ c0 j) → (∀ j, c j = c0 j ∨ m < c j) → ∀ j, rnd E c j = c0 j ∨ m < rnd E c j := by
  induction E with
  | nil => intro c c0 _ _ h j; exact h j
  | cons e E ih =>
    intro c c0 hs hle h
    have hw := (hE e List.mem_cons_self).2.2
    refine ih (fun f hf => hE f (List.mem_cons_of_mem _ hf)) (lo1 c e) c0 (fun f hf => hs f (List.mem_cons_of_mem _ hf)) (fun j => Int.le_trans (lo1_le c e j) (hle j)) (fun j => ?_)
    unfold lo1
    split
    next hlt =>
      simp only
      split
      next hj =>
        right
        rcases h (e.1 + 1) with h1 | h1
        · by_cases h2 : c0 (e.1 + 1) < m
          · have h3 := hs e List.mem_cons_self h2
            unfold att at h3
            have h4 := hle (e.2.1 + 1)
            omega
          · omega
        · omega
      next => exact h j
    next => exact h j
theorem rnd_out {E : List Eg} (hE : okE E) : ∀ (c : Int → Int) (j : Int), (j < 0 ∨ 60 < j) → rnd E c j = c j := by
  induction E with
  | nil => intro c j _; rfl
  | cons e E ih =>
    intro c j hj
    have h1 := (hE e List.mem_cons_self).2.1
    show rnd E (lo1 c e) j = c j
    rw [ih (fun f hf => hE f (List.mem_cons_of_mem _ hf)) (lo1 c e) j hj]
    unfold lo1
    split
    · simp only
      rw [if_neg (by omega)]
    · rfl
theorem pick_min {α : Type} (P : α → Prop) (f : α → Int) : ∀ l : List α, (∃ a ∈ l, P a) → ∃ a ∈ l, P a ∧ ∀ b ∈ l, P b → f a ≤ f b := by
  intro l
  induction l with
  | nil => intro ⟨a, h, _⟩; cases h
  | cons x l ih =>
    intro ⟨a, ha, hP⟩
    by_cases hl : ∃ a ∈ l, P a
    · obtain ⟨b, hb, hPb, hmin⟩ := ih hl
      by_cases hx : P x ∧ f x < f b
      · refine ⟨x, List.mem_cons_self, hx.1, fun y hy hPy => ?_⟩
        rcases List.mem_cons.mp hy with rfl | hy
        · exact Int.le_refl _
        · have := hmin y hy hPy; omega
      · refine ⟨b, List.mem_cons_of_mem _ hb, hPb, fun y hy hPy => ?_⟩
        rcases List.mem_cons.mp hy with rfl | hy
        · by_cases hlt : f y < f b
          · exact absurd ⟨hPy, hlt⟩ hx
          · omega
        · exact hmin y hy hPy
    · rcases List.mem_cons.mp ha with rfl | ha
      · refine ⟨a, List.mem_cons_self, hP, fun y hy hPy => ?_⟩
        rcases List.mem_cons.mp hy with rfl | hy
        · exact Int.le_refl _
        · exact absurd ⟨y, hy, hPy⟩ hl
      · exact absurd ⟨a, ha, hP⟩ hl
def cntLe (c : Int → Int) (m : Int) : Nat := (List.range 61).countP (fun i => decide (c (i : Nat) ≤ m))
theorem countP_lt {α : Type} {p q : α → Bool} : ∀ {l : List α}, (∀ a ∈ l, p a = true → q a = true) → (∃ a ∈ l, q a = true ∧ p a = false) → l.countP p < l.countP q := by
  intro l
  induction l with
  | nil => intro _ ⟨a, h, _⟩; cases h
  | cons x l ih =>
    intro h ⟨a, ha, hq, hp⟩
    have hle : l.countP p ≤ l.countP q := List.countP_mono_left (fun y hy => h y (List.mem_cons_of_mem _ hy))
    rw [List.countP_cons, List.countP_cons]
    rcases List.mem_cons.mp ha with rfl | ha
    · rw [hp, hq]; simp; omega
    · have h1 := ih (fun y hy => h y (List.mem_cons_of_mem _ hy)) ⟨a, ha, hq, hp⟩
      by_cases hx : p x = true
      · rw [hx, h x List.mem_cons_self hx]; omega
      · have : p x = false := by simpa using hx
        rw [this]; simp; omega
def bfI (E : List Eg) (k : Nat) (c : Int → Int) : Prop := ∃ m : Int, k ≤ cntLe c m ∧ ∀ e ∈ E, c (e.1 + 1) < m → att c e
theorem mem61 {j : Int} (h : 0 ≤ j ∧ j ≤ 60) : ∃ i ∈ List.range 61, ((i : Nat) : Int) = j := ⟨j.toNat, List.mem_range.mpr (by omega), by omega⟩
theorem bf_init {E : List Eg} (hE : okE E) (c : Int → Int) : bfI E 1 c := by
  obtain ⟨a, ha, -, hmin⟩ := pick_min (fun _ : Nat => True) (fun i => c (i : Nat)) (List.range 61) ⟨0, by simp, trivial⟩
  refine ⟨c (a : Nat), ?_, fun e he hlt => ?_⟩
  · have : 0 < cntLe c (c (a : Nat)) := List.countP_pos_iff.mpr ⟨a, ha, by simp⟩
    omega
  · obtain ⟨i, hi, hi2⟩ := mem61 (j := e.1 + 1) (by have := (hE e he).1; omega)
    have := hmin i hi trivial
    rw [hi2] at this
    omega
theorem bf_step {E : List Eg} (hE : okE E) {k : Nat} {c : Int → Int} (h : bfI E k c) (hne : rnd E c ≠ c) : bfI E (k + 1) (rnd E c) := by
  obtain ⟨m, hk, hs⟩ := h
  have hab := rnd_above hE c c hs (fun _ => Int.le_refl _) (fun _ => Or.inl rfl)
  have hle := rnd_le E c
  have hex : ∃ i ∈ List.range 61, rnd E c (i : Nat) ≠ c (i : Nat) := by
    by_cases hx : ∃ i ∈ List.range 61, rnd E c (i : Nat) ≠ c (i : Nat)
    · exact hx
    · exfalso
      apply hne
      funext j
      by_cases hj : 0 ≤ j ∧ j ≤ 60
      · obtain ⟨i, hi, hi2⟩ := mem61 hj
        by_cases hq : rnd E c (i : Nat) = c (i : Nat)
        · rw [← hi2]; exact hq
        · exact absurd ⟨i, hi, hq⟩ hx
      · exact rnd_out hE c j (by omega)
  obtain ⟨a, ha, hPa, hmin⟩ := pick_min (fun i : Nat => rnd E c (i : Nat) ≠ c (i : Nat)) (fun i => rnd E c (i : Nat)) (List.range 61) hex
  have hm : m < rnd E c (a : Nat) := by
    rcases hab (a : Nat) with h1 | h1
    · exact absurd h1 hPa
    · exact h1
  refine ⟨rnd E c (a : Nat), ?_, fun e he hlt => ?_⟩
  · have : cntLe c m < cntLe (rnd E c) (rnd E c (a : Nat)) := by
      refine countP_lt (fun i _ hi => ?_) ⟨a, ha, by simp, ?_⟩
      · have hi : c (i : Nat) ≤ m := by simpa using hi
        have := hle (i : Nat)
        simp; omega
      · have := hle (a : Nat)
        simp; omega
    omega
  · have hunch : rnd E c (e.1 + 1) = c (e.1 + 1) := by
      obtain ⟨i, hi, hi2⟩ := mem61 (j := e.1 + 1) (by have := (hE e he).1; omega)
      by_cases hq : rnd E c (i : Nat) = c (i : Nat)
      · rw [← hi2]; exact hq
      · have := hmin i hi hq
        rw [hi2] at this
        omega
    have := rnd_hand E c e he hunch
    unfold att
    omega
theorem bf_end {E : List Eg} (hE : okE E) {c : Int → Int} (h : bfI E 61 c) : rnd E c = c := by
  obtain ⟨m, hk, hs⟩ := h
  have hall : ∀ i ∈ List.range 61, decide (c (i : Nat) ≤ m) = true := by
    have h1 : (List.range 61).countP (fun i => decide (c (i : Nat) ≤ m)) = (List.range 61).length := by
      have := List.countP_le_length (p := fun i : Nat => decide (c (i : Nat) ≤ m)) (l := List.range 61)
      have h2 : (List.range 61).length = 61 := List.length_range
      unfold cntLe at hk
      omega
    exact List.countP_eq_length.mp h1
  apply rnd_att
  intro e he
  by_cases hlt : c (e.1 + 1) < m
  · exact hs e he hlt
  · obtain ⟨i, hi, hi2⟩ := mem61 (j := e.2.1 + 1) (by have := (hE e he).2.1; omega)
    have h1 := hall i hi
    have h2 : c (i : Nat) ≤ m := by simpa using h1
    rw [hi2] at h2
    have := (hE e he).2.2
    unfold att
    omega
theorem bf_rest {E : List Eg} (hE : okE E) (c : Int → Int) : ∃ k : Nat, k ≤ 60 ∧ rnd E (rep E k c) = rep E k c := by
  have key : ∀ n : Nat, n ≤ 60 → (∃ k : Nat, k ≤ n ∧ rnd E (rep E k c) = rep E k c) ∨ bfI E (n + 1) (rep E n c) := by
    intro n
    induction n with
    | zero => intro _; exact Or.inr (bf_init hE c)
    | succ n ih =>
      intro hn
      rcases ih (by omega) with ⟨k, hk, hf⟩ | hb
      · exact Or.inl ⟨k, by omega, hf⟩
      · by_cases hf : rnd E (rep E n c) = rep E n c
        · exact Or.inl ⟨n, by omega, hf⟩
        · right
          rw [rep_succ]
          exact bf_step hE hb hf
  rcases key 60 (Nat.le_refl _) with h | h
  · exact h
  · exact ⟨60, Nat.le_refl _, bf_end hE h⟩
/-- 61 rounds are enough -/
theorem bf_61 {E : List Eg} (hE : okE E) (c : Int → Int) : rnd E (rep E 61 c) = rep E 61 c := by
  obtain ⟨k, hk, hf⟩ := bf_rest hE c
  have : rep E 61 c = rep E k c := by
    rw [show 61 = k + (61 - k) by omega, rep_add, rep_fix E hf]
  rw [this, hf]
/-- who comes to rest after any number of rounds has what 61 rounds give -/
theorem bf_any {E : List Eg} (hE : okE E) (c : Int → Int) {n : Nat} (h : rnd E (rep E n c) = rep E n c) : rep E n c = rep E 61 c := by
  have h1 : rep E (n + 61) c = rep E n c := by rw [rep_add, rep_fix E h]
  have h2 : rep E (61 + n) c = rep E 61 c := by rw [rep_add, rep_fix E (bf_61 hE c)]
  rw [← h1, ← h2, Nat.add_comm]
/-- what a value came from -/
def wit (E : List Eg) (b c : Int → Int) : Prop := ∀ j, c j = b j ∨ ∃ e ∈ E, e.2.1 + 1 = j ∧ c (e.1 + 1) + e.2.2 ≤ c j
theorem wit_lo1 {E : List Eg} {b c : Int → Int} {e : Eg} (he : e ∈ E) (hw : 1 ≤ e.2.2) (h : wit E b c) : wit E b (lo1 c e) := by
  intro j
  have hle := lo1_le c e
  by_cases hlt : c (e.1 + 1) + e.2.2 < c (e.2.1 + 1)
  · by_cases hj : j = e.2.1 + 1
    · right
      refine ⟨e, he, hj.symm, ?_⟩
      have h1 := hle (e.1 + 1)
      have h2 : lo1 c e j = c (e.1 + 1) + e.2.2 := by unfold lo1; rw [if_pos hlt]; simp [hj]
      omega
    · have h2 : lo1 c e j = c j := by unfold lo1; rw [if_pos hlt]; simp [hj]
      rcases h j with h1 | ⟨f, hf, hfj, h1⟩
      · left; omega
      · right
        exact ⟨f, hf, hfj, by have := hle (f.1 + 1); omega⟩
  · have h2 : lo1 c e = c := by unfold lo1; rw [if_neg hlt]
    rw [h2]
    exact h j
theorem wit_rnd {E : List Eg} {b : Int → Int} (hE : okE E) : ∀ (F : List Eg) (c : Int → Int), (∀ e ∈ F, e ∈ E) → wit E b c → wit E b (rnd F c) := by
  intro F
  induction F with
  | nil => intro c _ h; exact h
  | cons e F ih =>
    intro c hF h
    exact ih (lo1 c e) (fun f hf => hF f (List.mem_cons_of_mem _ hf)) (wit_lo1 (hF e List.mem_cons_self) (hE e (hF e List.mem_cons_self)).2.2 h)
theorem wit_rep {E : List Eg} {b : Int → Int} (hE : okE E) : ∀ (n : Nat) (c : Int → Int), wit E b c → wit E b (rep E n c) := by
  intro n
  induction n with
  | zero => intro c h; exact h
  | succ n ih => intro c h; exact ih _ (wit_rnd hE E c (fun _ h => h) h)
theorem wit_self (E : List Eg) (b : Int → Int) : wit E b b := fun _ => Or.inl rfl
