/-! PURE: a row of what is left to pay, as it is found -/
def lp (S : Sc) (pit : Int) (r1 : Int → Int) : Nat → Int
  | 0 => NV
  | n + 1 => if thr S (n : Nat) then min (lp S pit r1 n) (S 5 4 + wr S (n : Nat) pit + r1 ((n : Nat) + 1)) else lp S pit r1 n
def bw2 (S : Sc) (pit : Int) (r1 : Int → Int) (E : List Eg) (t : Int → Int) : Int → Int := E.foldl (fun t e => lw t (e.1 + 1) (e.2.2 + wr S e.2.1 pit + r1 (e.2.1 + 1))) t
def bw (S : Sc) (pit : Int) (r1 : Int → Int) : Int → Int := bw2 S pit r1 (El S) (fun j => min (lp S pit r1 (S 0 0).toNat) (S 5 1 + r1 j))
def bk (S : Sc) (e : Eg) : Eg := (e.2.1, e.1, e.2.2 + S 5 2)
theorem lp_le (S : Sc) (pit : Int) (r1 : Int → Int) : ∀ (n i : Nat), i < n → thr S (i : Nat) → lp S pit r1 n ≤ S 5 4 + wr S (i : Nat) pit + r1 ((i : Nat) + 1) := by
  intro n
  induction n with
  | zero => intro i h; omega
  | succ n ih =>
    intro i hi ht
    simp only [lp]
    by_cases h : i = n
    · subst h; rw [if_pos ht]; omega
    · have := ih i (by omega) ht
      split <;> omega
theorem lp_of (S : Sc) (pit : Int) (r1 : Int → Int) : ∀ n : Nat, lp S pit r1 n = NV ∨ ∃ i : Nat, i < n ∧ thr S (i : Nat) ∧ lp S pit r1 n = S 5 4 + wr S (i : Nat) pit + r1 ((i : Nat) + 1) := by
  intro n
  induction n with
  | zero => exact Or.inl rfl
  | succ n ih =>
    simp only [lp]
    split
    next ht =>
      by_cases hc : S 5 4 + wr S (n : Nat) pit + r1 ((n : Nat) + 1) < lp S pit r1 n
      · right
        exact ⟨n, by omega, ht, by omega⟩
      · rcases ih with h | ⟨i, h1, h2, h3⟩
        · left; omega
        · right; exact ⟨i, by omega, h2, by omega⟩
    next =>
      rcases ih with h | ⟨i, h1, h2, h3⟩
      · exact Or.inl h
      · exact Or.inr ⟨i, by omega, h2, h3⟩
theorem bw2_le (S : Sc) (pit : Int) (r1 : Int → Int) : ∀ (E : List Eg) (t : Int → Int) (j : Int), bw2 S pit r1 E t j ≤ t j := by
  intro E
  induction E with
  | nil => intro t j; exact Int.le_refl _
  | cons e E ih => intro t j; exact Int.le_trans (ih _ j) (lw_le _ _ _ _)
theorem bw2_at (S : Sc) (pit : Int) (r1 : Int → Int) : ∀ (E : List Eg) (t : Int → Int) (e : Eg), e ∈ E → bw2 S pit r1 E t (e.1 + 1) ≤ e.2.2 + wr S e.2.1 pit + r1 (e.2.1 + 1) := by
  intro E
  induction E with
  | nil => intro t e h; cases h
  | cons f E ih =>
    intro t e h
    rcases List.mem_cons.mp h with h | h
    · subst h
      refine Int.le_trans (bw2_le S pit r1 E _ _) ?_
      simp only [lw]
      rw [if_pos trivial]
      omega
    · exact ih _ e h
theorem bw2_of (S : Sc) (pit : Int) (r1 : Int → Int) : ∀ (E : List Eg) (t : Int → Int) (j : Int), bw2 S pit r1 E t j = t j ∨ ∃ e ∈ E, e.1 + 1 = j ∧ bw2 S pit r1 E t j = e.2.2 + wr S e.2.1 pit + r1 (e.2.1 + 1) := by
  intro E
  induction E with
  | nil => intro t j; exact Or.inl rfl
  | cons f E ih =>
    intro t j
    have e1 : bw2 S pit r1 (f :: E) t = bw2 S pit r1 E (lw t (f.1 + 1) (f.2.2 + wr S f.2.1 pit + r1 (f.2.1 + 1))) := rfl
    rw [e1]
    rcases ih (lw t (f.1 + 1) (f.2.2 + wr S f.2.1 pit + r1 (f.2.1 + 1))) j with h | ⟨e, he, hj, h⟩
    · rw [h]
      by_cases hj : j = f.1 + 1
      · by_cases hl : f.2.2 + wr S f.2.1 pit + r1 (f.2.1 + 1) < t j
        · right
          refine ⟨f, List.mem_cons_self, hj.symm, ?_⟩
          unfold lw
          rw [if_pos hj]
          omega
        · left
          unfold lw
          rw [if_pos hj]
          omega
      · left
        unfold lw
        rw [if_neg hj]
    · exact Or.inr ⟨e, List.mem_cons_of_mem _ he, hj, h⟩
theorem bw2_congP {P : Int → Prop} {S : Sc} {pit : Int} {r1 r2 : Int → Int} : ∀ (E : List Eg), (∀ e ∈ E, P (e.2.1 + 1)) → (∀ j, P j → r1 j = r2 j) → ∀ (t t2 : Int → Int), (∀ j, P j → t j = t2 j) → ∀ j, P j → bw2 S pit r1 E t j = bw2 S pit r2 E t2 j := by
  intro E
  induction E with
  | nil => intro _ _ t t2 h j hj; exact h j hj
  | cons e E ih =>
    intro hE hc t t2 h
    have h1 : r1 (e.2.1 + 1) = r2 (e.2.1 + 1) := hc _ (hE e List.mem_cons_self)
    refine ih (fun f hf => hE f (List.mem_cons_of_mem _ hf)) hc _ _ (fun j hj => ?_)
    simp only
    rw [h1]
    exact lw_congP h _ _ j hj
theorem bw2_take {S : Sc} {pit : Int} {r1 : Int → Int} {E : List Eg} {i : Nat} {e : Eg} (h : E[i]? = some e) (t : Int → Int) : bw2 S pit r1 (E.take (i + 1)) t = lw (bw2 S pit r1 (E.take i) t) (e.1 + 1) (e.2.2 + wr S e.2.1 pit + r1 (e.2.1 + 1)) := by
  unfold bw2
  rw [List.take_succ, h]
  simp
theorem rep_nn {P : Int → Prop} {E : List Eg} (h1 : ∀ e ∈ E, 0 ≤ e.2.2) (h2 : ∀ e ∈ E, P (e.1 + 1)) : ∀ (n : Nat) (c : Int → Int), (∀ j, P j → 0 ≤ c j) → ∀ j, P j → 0 ≤ rep E n c j := by
  have h3 : ∀ (F : List Eg) (c : Int → Int), (∀ e ∈ F, e ∈ E) → (∀ j, P j → 0 ≤ c j) → ∀ j, P j → 0 ≤ rnd F c j := by
    intro F
    induction F with
    | nil => intro c _ h j hj; exact h j hj
    | cons e F ih =>
      intro c hF h
      refine ih (lo1 c e) (fun f hf => hF f (List.mem_cons_of_mem _ hf)) (fun j hj => ?_)
      have a := h1 e (hF e List.mem_cons_self)
      have b := h _ (h2 e (hF e List.mem_cons_self))
      have d := h j hj
      unfold lo1
      split
      · simp only; split <;> omega
      · exact d
  intro n
  induction n with
  | zero => intro c h j hj; exact h j hj
  | succ n ih => intro c h; exact ih _ (h3 E c (fun _ h => h) h)
/-- a row that comes to rest along edges E (those of NEXT among them, and no other from a place) is as THE BEST wants it -/
theorem row_rs1 {S : Sc} (hS : okSc S) (hnn : 0 < S 0 0) {hp : Int → Int} {R : Int → Int → Int} {e : Int} {E : List Eg} (hE : okE E)
    (hE1 : ∀ p q, vp S p → q ∈ nx S p → (q.1, p, q.2 + S 5 2) ∈ E) (hE2 : ∀ f ∈ E, vp S f.2.1 → ∃ q ∈ nx S f.2.1, f = (q.1, f.2.1, q.2 + S 5 2))
    {b r r1 : Int → Int} (hr : r = rep E 61 b) (hR0 : ∀ p, vp S p → R e p = r (p + 1)) (hR1 : ∀ p, vp S p → R (e + 1) p = r1 (p + 1)) (hlt : ∀ p, vp S p → r1 (p + 1) < 900000000)
    (h1 : ∀ p, vp S p → b (p + 1) ≤ S 5 1 + r1 (p + 1)) (h2 : ∀ p q, vp S p → q ∈ nx S p → b (p + 1) ≤ q.2 + wr S q.1 (hp e) + r1 (q.1 + 1)) (h3 : ∀ p n, vp S p → thr S n → b (p + 1) ≤ S 5 4 + wr S n (hp e) + r1 (n + 1))
    (h5 : ∀ p, vp S p → b (p + 1) = S 5 1 + r1 (p + 1) ∨ (∃ q ∈ nx S p, b (p + 1) = q.2 + wr S q.1 (hp e) + r1 (q.1 + 1)) ∨ ∃ n, thr S n ∧ b (p + 1) = S 5 4 + wr S n (hp e) + r1 (n + 1)) :
    ∀ p, vp S p → rs1 S hp R e p := by
  intro p hv
  have hle : r (p + 1) ≤ b (p + 1) := by rw [hr]; exact rep_le _ _ _ _
  have hatt := rnd_fix_att (bf_61 hE b)
  rw [← hr] at hatt
  have hwit : wit E b r := by rw [hr]; exact wit_rep hE 61 b (wit_self E b)
  have h4 : ∀ q ∈ nx S p, R e p ≤ q.2 + S 5 2 + R e q.1 := by
    intro q hq
    have := hatt _ (hE1 p q hv hq)
    unfold att at this
    simp only at this
    rw [hR0 p hv, hR0 q.1 (Or.inr (nx_mem hS hq).1)]
    omega
  refine ⟨?_, ?_, ?_, h4, ?_⟩
  · rw [hR0 p hv, hR1 p hv]
    exact Int.le_trans hle (h1 p hv)
  · intro q hq
    rw [hR0 p hv, hR1 q.1 (Or.inr (nx_mem hS hq).1)]
    exact Int.le_trans hle (h2 p q hv hq)
  · intro n hn
    rw [hR0 p hv, hR1 n (Or.inr hn)]
    exact Int.le_trans hle (h3 p n hv hn)
  · rcases hwit (p + 1) with hw | ⟨f, hf, hfj, hw⟩
    · rcases h5 p hv with h | ⟨q, hq, h⟩ | ⟨n, hn, h⟩
      · left; rw [hR0 p hv, hR1 p hv]; omega
      · right; left
        exact ⟨q, hq, by rw [hR0 p hv, hR1 q.1 (Or.inr (nx_mem hS hq).1)]; omega⟩
      · right; right; right
        exact ⟨n, hn, by rw [hR0 p hv, hR1 n (Or.inr hn)]; omega⟩
    · right; right; left
      have hfp : f.2.1 = p := by omega
      obtain ⟨q, hq, hfe⟩ := hE2 f hf (by rw [hfp]; exact hv)
      rw [hfp] at hq
      refine ⟨q, hq, ?_⟩
      have h6 := h4 q hq
      have a1 : f.1 = q.1 := by rw [hfe]
      have a2 : f.2.2 = q.2 + S 5 2 := by rw [hfe]
      rw [a1, a2] at hw
      rw [hR0 p hv, hR0 q.1 (Or.inr (nx_mem hS hq).1)] at h6 ⊢
      omega
theorem bkE_ok {S : Sc} (hS : okSc S) {E : List Eg} (h : ∀ e ∈ E, e ∈ Ew S) : okE (E.map (bk S)) := by
  intro e he
  obtain ⟨f, hf, rfl⟩ := List.mem_map.mp he
  have h1 := Ew_mem hS (h f hf)
  have h2 := hS.1
  have h3 := hS.2.2.2.2.2.2.2.2.2
  have h4 := thr_lt hS h1.2.1
  refine ⟨⟨?_, ?_⟩, ⟨?_, ?_⟩, ?_⟩ <;> simp only [bk] <;> omega
/-- the row as the class finds it -/
theorem class_rs1 {S : Sc} (hS : okSc S) (hnn : 0 < S 0 0) {hp : Int → Int} {R : Int → Int → Int} {e : Int} {r1 : Int → Int} (hR1 : ∀ p, vp S p → R (e + 1) p = r1 (p + 1)) (hlt : ∀ p, vp S p → r1 (p + 1) < 900000000)
    (hR0 : ∀ p, vp S p → R e p = rep ((El S).reverse.map (bk S)) 61 (bw S (hp e) r1) (p + 1)) : ∀ p, vp S p → rs1 S hp R e p := by
  have hNV : NV = 1000000000 := rfl
  have hin : ∀ f ∈ (El S).reverse, f ∈ Ew S := fun f hf => Eu_sub S _ f (List.mem_reverse.mp hf)
  have hc := hS.2.2.2.2.2.2.2.1
  have c4 := hc 4 (by omega) (by omega)
  have hL : ∃ n, thr S n ∧ lp S (hp e) r1 (S 0 0).toNat = S 5 4 + wr S n (hp e) + r1 (n + 1) := by
    rcases lp_of S (hp e) r1 (S 0 0).toNat with h | ⟨i, h1, h2, h3⟩
    · exfalso
      obtain ⟨n, hn⟩ := thr_ex hS hnn
      have h4 := lp_le S (hp e) r1 (S 0 0).toNat n.toNat (by omega) (by rw [show ((n.toNat : Nat) : Int) = n by omega]; exact hn)
      rw [show ((n.toNat : Nat) : Int) = n by omega] at h4
      have h5 := hlt n (Or.inr hn)
      have h6 := wr_in hS n (hp e)
      omega
    · exact ⟨(i : Nat), h2, h3⟩
  refine row_rs1 hS hnn (bkE_ok hS hin) ?_ ?_ rfl hR0 hR1 hlt ?_ ?_ ?_ ?_
  · intro p q hv hq
    exact List.mem_map.mpr ⟨(p, q.1, q.2), List.mem_reverse.mpr (El_in hS hv hq), rfl⟩
  · intro f hf hv
    obtain ⟨g, hg, rfl⟩ := List.mem_map.mp hf
    have := El_mem hS (List.mem_reverse.mp hg)
    exact ⟨(g.2.1, g.2.2), this.2.2.2.2, rfl⟩
  · intro p hv
    have := bw2_le S (hp e) r1 (El S) (fun j => min (lp S (hp e) r1 (S 0 0).toNat) (S 5 1 + r1 j)) (p + 1)
    unfold bw
    try simp only at this
    omega
  · intro p q hv hq
    exact bw2_at S (hp e) r1 (El S) _ _ (El_in hS hv hq)
  · intro p n hv hn
    have h1 := bw2_le S (hp e) r1 (El S) (fun j => min (lp S (hp e) r1 (S 0 0).toNat) (S 5 1 + r1 j)) (p + 1)
    have h4 := lp_le S (hp e) r1 (S 0 0).toNat n.toNat (by omega) (by rw [show ((n.toNat : Nat) : Int) = n by omega]; exact hn)
    rw [show ((n.toNat : Nat) : Int) = n by omega] at h4
    unfold bw
    try simp only at h1
    omega
  · intro p hv
    rcases bw2_of S (hp e) r1 (El S) (fun j => min (lp S (hp e) r1 (S 0 0).toNat) (S 5 1 + r1 j)) (p + 1) with h | ⟨f, hf, hfj, h⟩
    · try simp only at h
      by_cases hm : lp S (hp e) r1 (S 0 0).toNat < S 5 1 + r1 (p + 1)
      · right; right
        obtain ⟨n, hn, hl⟩ := hL
        exact ⟨n, hn, by unfold bw; omega⟩
      · left
        unfold bw
        omega
    · right; left
      have h1 := El_mem hS hf
      have hfp : f.1 = p := by omega
      refine ⟨(f.2.1, f.2.2), by rw [← hfp]; exact h1.2.2.2.2, ?_⟩
      unfold bw
      rw [h]
