/-! PURE: the score (rows: 0 notes, ways, loop's first and last, span; 1 pitches; 2 starts; 3, 4 ways; 5 costs), NEXT, the edges -/
abbrev Sc : Type := Nat → Int → Int
abbrev NV : Int := 1000000000
abbrev thr (S : Sc) (n : Int) : Prop := 0 ≤ n ∧ n < S 0 0 ∧ (S 0 2 < 0 ∨ (S 0 2 ≤ n ∧ n ≤ S 0 3))
def okSc (S : Sc) : Prop := (0 ≤ S 0 0 ∧ S 0 0 ≤ 60) ∧ (0 ≤ S 0 1 ∧ S 0 1 ≤ 12) ∧ ((S 0 2 = -1 ∧ S 0 3 = -1) ∨ (0 ≤ S 0 2 ∧ S 0 2 ≤ S 0 3 ∧ S 0 3 < S 0 0)) ∧ (0 ≤ S 0 4 ∧ S 0 4 ≤ 100) ∧ (∀ i, 0 ≤ i → i < S 0 0 → (0 ≤ S 1 i ∧ S 1 i ≤ 127) ∧ (0 ≤ S 2 i ∧ S 2 i ≤ 1000000)) ∧ (∀ i j, 0 ≤ i → i < j → j < S 0 0 → S 2 i < S 2 j) ∧ (∀ k, 0 ≤ k → k < S 0 1 → (0 ≤ S 3 k ∧ S 3 k < S 0 0) ∧ (0 ≤ S 4 k ∧ S 4 k < S 0 0)) ∧ (∀ k, 0 ≤ k → k < 5 → 0 ≤ S 5 k ∧ S 5 k ≤ 1000) ∧ 1 ≤ S 5 1 ∧ 1 ≤ S 5 2
def bhd (S : Sc) (p : Int) : Int := if 0 ≤ p then p + 1 else if 0 ≤ S 0 2 then S 0 2 else 0
/-- by the first k WAYS -/
def wyl (S : Sc) (p : Int) : Nat → List (Int × Int)
  | 0 => []
  | k + 1 => wyl S p k ++ (if S 3 (k : Nat) = p ∧ thr S p ∧ thr S (S 4 (k : Nat)) then [(S 4 (k : Nat), S 5 3)] else [])
def nx0 (S : Sc) (p : Int) : List (Int × Int) := if thr S (bhd S p) then [(bhd S p, 0)] else []
def nx1 (S : Sc) (p : Int) : List (Int × Int) := if 0 ≤ S 0 2 ∧ p = S 0 3 then [(S 0 2, 0)] else []
/-- NEXT of a place -/
def nx (S : Sc) (p : Int) : List (Int × Int) := nx0 S p ++ (nx1 S p ++ wyl S p (S 0 1).toNat)
/-- the edges from the first n places that are there (place 0 is -1) -/
def Eu (S : Sc) : Nat → List Eg
  | 0 => []
  | n + 1 => Eu S n ++ (if (n : Int) = 0 ∨ thr S ((n : Int) - 1) then (nx S ((n : Int) - 1)).map (fun q => ((n : Int) - 1, q.1, q.2)) else [])
/-- the same from all places -/
def Ev (S : Sc) : Nat → List Eg
  | 0 => []
  | n + 1 => Ev S n ++ (nx S ((n : Int) - 1)).map (fun q => ((n : Int) - 1, q.1, q.2))
def El (S : Sc) : List Eg := Eu S ((S 0 0).toNat + 1)
def Ew (S : Sc) : List Eg := Ev S ((S 0 0).toNat + 1)
def sk1 (S : Sc) (e : Eg) : Eg := (e.1, e.2.1, e.2.2 + S 5 2)
theorem wyl_mem {S : Sc} (hS : okSc S) {p : Int} {q : Int × Int} : ∀ {k : Nat}, q ∈ wyl S p k → thr S q.1 ∧ 0 ≤ q.2 ∧ q.2 ≤ 1000 ∧ thr S p := by
  intro k
  induction k with
  | zero => intro h; cases h
  | succ k ih =>
    intro h
    rcases List.mem_append.mp h with h | h
    · exact ih h
    · split at h
      next hc =>
        have := List.mem_singleton.mp h
        subst this
        have h5 := hS.2.2.2.2.2.2.2.1 3 (by omega) (by omega)
        exact ⟨hc.2.2, h5.1, h5.2, hc.2.1⟩
      next => cases h
theorem wyl_len (S : Sc) (p : Int) : ∀ k : Nat, (wyl S p k).length ≤ k := by
  intro k
  induction k with
  | zero => simp [wyl]
  | succ k ih => simp only [wyl, List.length_append]; split <;> simp <;> omega
theorem nx0_len (S : Sc) (p : Int) : (nx0 S p).length ≤ 1 := by unfold nx0; split <;> simp
theorem nx1_len (S : Sc) (p : Int) : (nx1 S p).length ≤ 1 := by unfold nx1; split <;> simp
theorem nx_len {S : Sc} (hS : okSc S) (p : Int) : (nx S p).length ≤ 14 := by
  have h1 := wyl_len S p (S 0 1).toNat
  have h2 := nx0_len S p
  have h3 := nx1_len S p
  have h4 := hS.2.1
  simp only [nx, List.length_append]
  omega
theorem nx_mem {S : Sc} (hS : okSc S) {p : Int} {q : Int × Int} (h : q ∈ nx S p) : thr S q.1 ∧ 0 ≤ q.2 ∧ q.2 ≤ 1000 := by
  rcases List.mem_append.mp h with h | h
  · unfold nx0 at h
    split at h
    next hc => have := List.mem_singleton.mp h; subst this; exact ⟨hc, by simp, by simp⟩
    next => cases h
  · rcases List.mem_append.mp h with h | h
    · unfold nx1 at h
      split at h
      next hc =>
        have := List.mem_singleton.mp h; subst this
        have := hS.2.2.1
        refine ⟨⟨by omega, by simp; omega, ?_⟩, by simp, by simp⟩
        right
        simp
        omega
      next => cases h
    · have := wyl_mem hS h; exact ⟨this.1, this.2.1, this.2.2.1⟩
theorem thr_lt {S : Sc} (hS : okSc S) {n : Int} (h : thr S n) : 0 ≤ n ∧ n < 60 := by have := hS.1; omega
theorem Eu_sub (S : Sc) : ∀ n : Nat, ∀ e ∈ Eu S n, e ∈ Ev S n := by
  intro n
  induction n with
  | zero => intro e h; cases h
  | succ n ih =>
    intro e h
    rcases List.mem_append.mp h with h | h
    · exact List.mem_append_left _ (ih e h)
    · split at h
      · exact List.mem_append_right _ h
      · cases h
theorem Ev_mem {S : Sc} (hS : okSc S) : ∀ (n : Nat) (e : Eg), e ∈ Ev S n → (-1 ≤ e.1 ∧ e.1 < (n : Int) - 1) ∧ thr S e.2.1 ∧ 0 ≤ e.2.2 ∧ e.2.2 ≤ 1000 ∧ (e.2.1, e.2.2) ∈ nx S e.1 := by
  intro n
  induction n with
  | zero => intro e h; cases h
  | succ n ih =>
    intro e h
    rcases List.mem_append.mp h with h | h
    · have := ih e h; exact ⟨⟨this.1.1, by omega⟩, this.2⟩
    · obtain ⟨q, hq, rfl⟩ := List.mem_map.mp h
      have := nx_mem hS hq
      exact ⟨⟨by simp; omega, by simp; omega⟩, this.1, this.2.1, this.2.2, hq⟩
theorem Ew_mem {S : Sc} (hS : okSc S) {e : Eg} (h : e ∈ Ew S) : (-1 ≤ e.1 ∧ e.1 < S 0 0) ∧ thr S e.2.1 ∧ 0 ≤ e.2.2 ∧ e.2.2 ≤ 1000 ∧ (e.2.1, e.2.2) ∈ nx S e.1 := by
  have h1 := Ev_mem hS _ e h
  have h2 := hS.1
  exact ⟨⟨h1.1.1, by omega⟩, h1.2⟩
theorem El_mem {S : Sc} (hS : okSc S) {e : Eg} (h : e ∈ El S) : (-1 ≤ e.1 ∧ e.1 < S 0 0) ∧ thr S e.2.1 ∧ 0 ≤ e.2.2 ∧ e.2.2 ≤ 1000 ∧ (e.2.1, e.2.2) ∈ nx S e.1 := Ew_mem hS (Eu_sub S _ e h)
theorem Eu_from {S : Sc} : ∀ (n : Nat) (e : Eg), e ∈ Eu S n → e.1 = -1 ∨ thr S e.1 := by
  intro n
  induction n with
  | zero => intro e h; cases h
  | succ n ih =>
    intro e h
    rcases List.mem_append.mp h with h | h
    · exact ih e h
    · split at h
      next hc =>
        obtain ⟨q, hq, rfl⟩ := List.mem_map.mp h
        rcases hc with hc | hc
        · left; simp; omega
        · right; exact hc
      next => cases h
theorem Eu_in {S : Sc} : ∀ (n : Nat) (p : Int) (q : Int × Int), -1 ≤ p → p < (n : Int) - 1 → (p = -1 ∨ thr S p) → q ∈ nx S p → (p, q.1, q.2) ∈ Eu S n := by
  intro n
  induction n with
  | zero => intro p q h1 h2; omega
  | succ n ih =>
    intro p q h1 h2 h3 h4
    by_cases hp : p = (n : Int) - 1
    · refine List.mem_append_right _ ?_
      rw [if_pos (by rcases h3 with h | h; left; omega; right; rw [← hp]; exact h)]
      exact List.mem_map.mpr ⟨q, by rw [← hp]; exact h4, by rw [hp]⟩
    · exact List.mem_append_left _ (ih p q h1 (by omega) h3 h4)
theorem El_in {S : Sc} (hS : okSc S) {p : Int} {q : Int × Int} (h : p = -1 ∨ thr S p) (hq : q ∈ nx S p) : (p, q.1, q.2) ∈ El S := by
  have := hS.1
  refine Eu_in _ p q ?_ ?_ h hq
  · rcases h with h | h <;> omega
  · rcases h with h | h
    · omega
    · have := h.2.1; omega
theorem okE_sk {S : Sc} (hS : okSc S) {E : List Eg} (h : ∀ e ∈ E, e ∈ Ew S) : okE (E.map (sk1 S)) := by
  intro e he
  obtain ⟨f, hf, rfl⟩ := List.mem_map.mp he
  have h1 := Ew_mem hS (h f hf)
  have h2 := hS.1
  have h3 := hS.2.2.2.2.2.2.2.2.2
  have h4 := thr_lt hS h1.2.1
  exact ⟨⟨h1.1.1, by simp only [sk1]; omega⟩, ⟨by simp only [sk1]; omega, by simp only [sk1]; omega⟩, by simp only [sk1]; omega⟩
/-! how many edges there are -/
def wcnt (S : Sc) (b : Int) : Nat → Nat
  | 0 => 0
  | k + 1 => wcnt S b k + (if S 3 (k : Nat) < b then 1 else 0)
theorem wcnt_le (S : Sc) (b : Int) : ∀ k : Nat, wcnt S b k ≤ k := by
  intro k
  induction k with
  | zero => simp [wcnt]
  | succ k ih => simp only [wcnt]; split <;> omega
theorem wcnt_wyl (S : Sc) (b : Int) : ∀ k : Nat, wcnt S b k + (wyl S b k).length ≤ wcnt S (b + 1) k := by
  intro k
  induction k with
  | zero => simp [wcnt, wyl]
  | succ k ih =>
    simp only [wcnt, wyl, List.length_append]
    split <;> split <;> split <;> simp <;> omega
theorem Eu_len {S : Sc} (hS : okSc S) : ∀ n : Nat, (Eu S n).length ≤ n + (if 0 ≤ S 0 2 ∧ S 0 3 < (n : Int) - 1 then 1 else 0) + wcnt S ((n : Int) - 1) (S 0 1).toNat := by
  intro n
  induction n with
  | zero => simp [Eu]
  | succ n ih =>
    have h1 := wcnt_wyl S ((n : Int) - 1) (S 0 1).toNat
    have h0 := nx0_len S ((n : Int) - 1)
    have e1 : ((n + 1 : Nat) : Int) - 1 = (n : Int) - 1 + 1 := by omega
    rw [e1]
    have h2 : (nx1 S ((n : Int) - 1)).length + (if 0 ≤ S 0 2 ∧ S 0 3 < (n : Int) - 1 then 1 else 0) ≤ (if 0 ≤ S 0 2 ∧ S 0 3 < (n : Int) - 1 + 1 then 1 else 0) := by
      unfold nx1
      split <;> split <;> split <;> simp <;> omega
    have h3 : (Eu S (n + 1)).length ≤ (Eu S n).length + (nx S ((n : Int) - 1)).length := by
      simp only [Eu, List.length_append]
      split <;> simp
    have h4 : (nx S ((n : Int) - 1)).length = (nx0 S ((n : Int) - 1)).length + ((nx1 S ((n : Int) - 1)).length + (wyl S ((n : Int) - 1) (S 0 1).toNat).length) := by simp [nx]
    omega
theorem Eu_mono (S : Sc) : ∀ (n m : Nat), n ≤ m → (Eu S n).length ≤ (Eu S m).length := by
  intro n m h
  induction h with
  | refl => exact Nat.le_refl _
  | step _ ih => refine Nat.le_trans ih ?_; simp [Eu]
theorem El_len {S : Sc} (hS : okSc S) : (El S).length ≤ 74 := by
  have h := Eu_len hS ((S 0 0).toNat + 1)
  have h1 := wcnt_le S (((S 0 0).toNat + 1 : Nat) - 1) (S 0 1).toNat
  have h2 := hS.1
  have h3 := hS.2.1
  unfold El
  split at h <;> omega
