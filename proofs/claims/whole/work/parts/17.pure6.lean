/-! PURE: THE BEST: what is left to pay, and that it is one -/
abbrev vp (S : Sc) (p : Int) : Prop := p = -1 ∨ thr S p
/-- what is left to pay at (e, p): at most each STEP's cost and what is left behind it, and that of one -/
def rs1 (S : Sc) (hp : Int → Int) (R : Int → Int → Int) (e p : Int) : Prop :=
  R e p ≤ S 5 1 + R (e + 1) p ∧ (∀ q ∈ nx S p, R e p ≤ q.2 + wr S q.1 (hp e) + R (e + 1) q.1) ∧ (∀ n, thr S n → R e p ≤ S 5 4 + wr S n (hp e) + R (e + 1) n) ∧ (∀ q ∈ nx S p, R e p ≤ q.2 + S 5 2 + R e q.1) ∧
  (R e p = S 5 1 + R (e + 1) p ∨ (∃ q ∈ nx S p, R e p = q.2 + wr S q.1 (hp e) + R (e + 1) q.1) ∨ (∃ q ∈ nx S p, R e p = q.2 + S 5 2 + R e q.1) ∨ ∃ n, thr S n ∧ R e p = S 5 4 + wr S n (hp e) + R (e + 1) n)
def isR (S : Sc) (hp : Int → Int) (cnt : Int) (R : Int → Int → Int) : Prop := (∀ p, vp S p → R cnt p = 0) ∧ ∀ e, 0 ≤ e → e < cnt → ∀ p, vp S p → rs1 S hp R e p
/-- the places, as a list -/
def pls (S : Sc) : List Int := (List.range 61).map (fun i : Nat => (i : Int) - 1)
theorem pls_mem {S : Sc} (hS : okSc S) {p : Int} (h : vp S p) : p ∈ pls S := by
  refine List.mem_map.mpr ⟨(p + 1).toNat, List.mem_range.mpr ?_, ?_⟩
  · rcases h with h | h
    · omega
    · have := thr_lt hS h; omega
  · rcases h with h | h
    · omega
    · have := thr_lt hS h; omega
theorem isR_le {S : Sc} (hS : okSc S) {hp : Int → Int} {R R2 : Int → Int → Int} {e : Int} (h1 : ∀ p, vp S p → rs1 S hp R e p) (h2 : ∀ p, vp S p → rs1 S hp R2 e p) (hn : ∀ p, vp S p → R (e + 1) p = R2 (e + 1) p) : ∀ p, vp S p → R2 e p ≤ R e p := by
  intro p0 hp0
  by_cases hex : ∃ p ∈ pls S, vp S p ∧ R e p < R2 e p
  · exfalso
    obtain ⟨p, hpm, ⟨hpv, hlt⟩, hmin⟩ := pick_min (fun p : Int => vp S p ∧ R e p < R2 e p) (fun p => R e p) (pls S) hex
    obtain ⟨b1, b2, b3, b4, b5⟩ := h2 p hpv
    have hsk := hS.2.2.2.2.2.2.2.2.2
    rcases (h1 p hpv).2.2.2.2 with h | ⟨q, hq, h⟩ | ⟨q, hq, h⟩ | ⟨n, hn2, h⟩
    · rw [hn p hpv] at h; omega
    · have h3 := b2 q hq
      have h4 := nx_mem hS hq
      rw [hn q.1 (Or.inr h4.1)] at h; omega
    · have h3 := b4 q hq
      have h4 := nx_mem hS hq
      have h5 : ¬ R e q.1 < R2 e q.1 := by
        intro hl
        have := hmin q.1 (pls_mem hS (Or.inr h4.1)) ⟨Or.inr h4.1, hl⟩
        omega
      omega
    · have h3 := b3 n hn2
      rw [hn n (Or.inr hn2)] at h; omega
  · by_cases hlt : R e p0 < R2 e p0
    · exact absurd ⟨p0, pls_mem hS hp0, hp0, hlt⟩ hex
    · omega
/-- there is one such table -/
theorem isR_one {S : Sc} (hS : okSc S) {hp : Int → Int} {cnt : Int} {R R2 : Int → Int → Int} (h1 : isR S hp cnt R) (h2 : isR S hp cnt R2) : ∀ (k : Nat), (k : Int) ≤ cnt → ∀ p, vp S p → R (cnt - (k : Nat)) p = R2 (cnt - (k : Nat)) p := by
  intro k
  induction k with
  | zero => intro _ p hp; rw [show cnt - ((0 : Nat) : Int) = cnt by omega, h1.1 p hp, h2.1 p hp]
  | succ k ih =>
    intro hk
    have h3 := ih (by omega)
    have e1 : cnt - ((k : Nat) : Int) = cnt - ((k + 1 : Nat) : Int) + 1 := by omega
    rw [e1] at h3
    have a := h1.2 (cnt - ((k + 1 : Nat) : Int)) (by omega) (by omega)
    have b := h2.2 (cnt - ((k + 1 : Nat) : Int)) (by omega) (by omega)
    intro p hp
    have c1 := isR_le hS a b h3 p hp
    have c2 := isR_le hS b a (fun p hp => (h3 p hp).symm) p hp
    omega
theorem isR_eq {S : Sc} (hS : okSc S) {hp : Int → Int} {cnt : Int} {R R2 : Int → Int → Int} (h1 : isR S hp cnt R) (h2 : isR S hp cnt R2) {e p : Int} (he : 0 ≤ e ∧ e ≤ cnt) (hv : vp S p) : R e p = R2 e p := by
  have := isR_one hS h1 h2 (cnt - e).toNat (by omega) p hv
  rw [show cnt - (((cnt - e).toNat : Nat) : Int) = e by omega] at this
  exact this
/-! the STEPS: (kind, place, EVENT, cost) -/
abbrev St4 : Type := Int × Int × Int × Int
def okP (S : Sc) (hp : Int → Int) (R : Int → Int → Int) (e p : Int) (q : Int × Int) : Bool := decide (q.2 + wr S q.1 (hp e) + R (e + 1) q.1 = R e p)
def okJ (S : Sc) (R : Int → Int → Int) (e p : Int) (q : Int × Int) : Bool := decide (q.2 + S 5 2 + R e q.1 = R e p)
def okH (S : Sc) (hp : Int → Int) (R : Int → Int → Int) (e p : Int) (n : Nat) : Bool := decide (thr S (n : Nat) ∧ S 5 4 + wr S (n : Nat) (hp e) + R (e + 1) (n : Nat) = R e p)
/-- the first STEP by which the least SUM is kept -/
def opt (S : Sc) (hp : Int → Int) (R : Int → Int → Int) (e p : Int) : St4 :=
  match (nx S p).find? (okP S hp R e p) with
  | some q => (0, q.1, e, q.2 + wr S q.1 (hp e))
  | none => if S 5 1 + R (e + 1) p = R e p then (1, p, e, S 5 1) else
    match (nx S p).find? (okJ S R e p) with
    | some q => (2, q.1, -1, q.2 + S 5 2)
    | none => match (List.range (S 0 0).toNat).find? (okH S hp R e p) with
      | some n => (3, (n : Nat), e, S 5 4 + wr S (n : Nat) (hp e))
      | none => (0, 0, 0, 0)
/-- what a STEP is like -/
def okT (S : Sc) (hp : Int → Int) (R : Int → Int → Int) (e p : Int) (s : St4) : Prop :=
  (s.1 = 2 ∧ thr S s.2.1 ∧ s.2.2.1 = -1 ∧ R e s.2.1 < R e p ∧ 0 ≤ s.2.2.2 ∧ s.2.2.2 ≤ 2000) ∨ ((s.1 = 0 ∨ s.1 = 1 ∨ s.1 = 3) ∧ vp S s.2.1 ∧ (s.1 ≠ 1 → thr S s.2.1) ∧ s.2.2.1 = e ∧ 0 ≤ s.2.2.2 ∧ s.2.2.2 ≤ 2000)
theorem opt_ok {S : Sc} (hS : okSc S) {hp : Int → Int} {R : Int → Int → Int} {e p : Int} (hv : vp S p) (h : rs1 S hp R e p) : okT S hp R e p (opt S hp R e p) := by
  have hc := hS.2.2.2.2.2.2.2.1
  have c1 := hc 1 (by omega) (by omega)
  have c2 := hc 2 (by omega) (by omega)
  have c4 := hc 4 (by omega) (by omega)
  have hsk := hS.2.2.2.2.2.2.2.2.2
  unfold opt
  cases h1 : (nx S p).find? (okP S hp R e p) with
  | some q =>
    have hq := List.mem_of_find?_eq_some h1
    have h4 := nx_mem hS hq
    have h5 := wr_in hS q.1 (hp e)
    exact Or.inr ⟨Or.inl rfl, Or.inr h4.1, fun _ => h4.1, rfl, by simp only; omega, by simp only; omega⟩
  | none =>
    simp only
    split
    next => exact Or.inr ⟨Or.inr (Or.inl rfl), hv, fun q => absurd rfl q, rfl, c1.1, by simp only; omega⟩
    next hx =>
      cases h2 : (nx S p).find? (okJ S R e p) with
      | some q =>
        have hq := List.mem_of_find?_eq_some h2
        have h4 := nx_mem hS hq
        have h5 := List.find?_some h2
        unfold okJ at h5
        have h6 := of_decide_eq_true h5
        exact Or.inl ⟨rfl, h4.1, rfl, by simp only; omega, by simp only; omega, by simp only; omega⟩
      | none =>
        simp only
        cases h3 : (List.range (S 0 0).toNat).find? (okH S hp R e p) with
        | some n =>
          have h5 := List.find?_some h3
          unfold okH at h5
          have h6 := of_decide_eq_true h5
          have h7 := wr_in hS (n : Nat) (hp e)
          exact Or.inr ⟨Or.inr (Or.inr rfl), Or.inr h6.1, fun _ => h6.1, rfl, by simp only; omega, by simp only; omega⟩
        | none =>
          exfalso
          rcases h.2.2.2.2 with h | ⟨q, hq, h⟩ | ⟨q, hq, h⟩ | ⟨n, hn, h⟩
          · exact hx h.symm
          · have := List.find?_eq_none.mp h1 q hq
            unfold okP at this
            exact this (decide_eq_true h.symm)
          · have := List.find?_eq_none.mp h2 q hq
            unfold okJ at this
            exact this (decide_eq_true h.symm)
          · have := List.find?_eq_none.mp h3 n.toNat (List.mem_range.mpr (by omega))
            unfold okH at this
            apply this
            rw [show ((n.toNat : Nat) : Int) = n by omega]
            exact decide_eq_true ⟨hn, h.symm⟩
theorem find_cong {α : Type} {p q : α → Bool} : ∀ {l : List α}, (∀ a ∈ l, p a = q a) → l.find? p = l.find? q := by
  intro l
  induction l with
  | nil => intro _; rfl
  | cons a l ih =>
    intro h
    rw [List.find?_cons, List.find?_cons, h a List.mem_cons_self, ih (fun b hb => h b (List.mem_cons_of_mem _ hb))]
theorem opt_cong {S : Sc} (hS : okSc S) {hp : Int → Int} {R R2 : Int → Int → Int} {e p : Int} (hv : vp S p) (h0 : ∀ p, vp S p → R e p = R2 e p) (h1 : ∀ p, vp S p → R (e + 1) p = R2 (e + 1) p) : opt S hp R e p = opt S hp R2 e p := by
  have a1 : (nx S p).find? (okP S hp R e p) = (nx S p).find? (okP S hp R2 e p) := find_cong (fun q hq => by unfold okP; rw [h0 p hv, h1 q.1 (Or.inr (nx_mem hS hq).1)])
  have a2 : (nx S p).find? (okJ S R e p) = (nx S p).find? (okJ S R2 e p) := find_cong (fun q hq => by unfold okJ; rw [h0 p hv, h0 q.1 (Or.inr (nx_mem hS hq).1)])
  have a3 : (List.range (S 0 0).toNat).find? (okH S hp R e p) = (List.range (S 0 0).toNat).find? (okH S hp R2 e p) := find_cong (fun n hn => by
    unfold okH
    by_cases ht : thr S (n : Nat)
    · rw [h0 p hv, h1 (n : Nat) (Or.inr ht)]
    · simp [ht])
  unfold opt
  rw [a1, a2, a3, h0 p hv, h1 p hv]
/-- the way from (e, p) on -/
def wk (S : Sc) (hp : Int → Int) (R : Int → Int → Int) (cnt : Int) : Nat → Int → Int → List St4
  | 0, _, _ => []
  | f + 1, e, p => if cnt ≤ e then [] else opt S hp R e p :: wk S hp R cnt f (if (opt S hp R e p).1 = 2 then e else e + 1) (opt S hp R e p).2.1
/-- how many places are nearer to the end of the EVENT -/
def mu (S : Sc) (R : Int → Int → Int) (e p : Int) : Nat := (List.range 60).countP (fun n => decide (R e (n : Nat) < R e p))
theorem mu_le (S : Sc) (R : Int → Int → Int) (e p : Int) : mu S R e p ≤ 60 := by
  have := List.countP_le_length (p := fun n : Nat => decide (R e (n : Nat) < R e p)) (l := List.range 60)
  unfold mu
  simpa using this
theorem mu_lt {S : Sc} (hS : okSc S) {R : Int → Int → Int} {e p n : Int} (hn : thr S n) (h : R e n < R e p) : mu S R e n < mu S R e p := by
  have h60 := thr_lt hS hn
  refine countP_lt (fun i _ hi => ?_) ⟨n.toNat, List.mem_range.mpr (by omega), ?_, ?_⟩
  · have hi : R e (i : Nat) < R e n := by simpa using hi
    simp; omega
  · rw [show ((n.toNat : Nat) : Int) = n by omega]; simpa using h
  · rw [show ((n.toNat : Nat) : Int) = n by omega]; simp
