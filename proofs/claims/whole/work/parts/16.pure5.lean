/-! PURE: what a row's cells outside of the places can't touch -/
theorem rnd_congP {P : Int → Prop} : ∀ (F : List Eg), (∀ e ∈ F, P (e.1 + 1) ∧ P (e.2.1 + 1)) → ∀ (c c2 : Int → Int), (∀ j, P j → c j = c2 j) → ∀ j, P j → rnd F c j = rnd F c2 j := by
  intro F
  induction F with
  | nil => intro _ c c2 h j a; exact h j a
  | cons e F ih =>
    intro hF c c2 h
    have he := hF e List.mem_cons_self
    refine ih (fun f hf => hF f (List.mem_cons_of_mem _ hf)) (lo1 c e) (lo1 c2 e) (fun j a => ?_)
    unfold lo1
    rw [h (e.1 + 1) he.1, h (e.2.1 + 1) he.2]
    split
    · simp only; split
      · rfl
      · exact h j a
    · exact h j a
theorem rep_congP {P : Int → Prop} {E : List Eg} (hE : ∀ e ∈ E, P (e.1 + 1) ∧ P (e.2.1 + 1)) : ∀ (n : Nat) (c c2 : Int → Int), (∀ j, P j → c j = c2 j) → ∀ j, P j → rep E n c j = rep E n c2 j := by
  intro n
  induction n with
  | zero => intro c c2 h j a; exact h j a
  | succ n ih => intro c c2 h; exact ih _ _ (rnd_congP E hE c c2 h)
theorem lw_congP {P : Int → Prop} {t t2 : Int → Int} (h : ∀ j, P j → t j = t2 j) (i v : Int) : ∀ j, P j → lw t i v j = lw t2 i v j := by
  intro j hj
  unfold lw
  rw [h j hj]
theorem tk1_congP {P : Int → Prop} {S : Sc} {t t2 : Int → Int} (v pit : Int) (h : ∀ j, P j → t j = t2 j) : ∀ (n : Nat) (j : Int), P j → tk1 S t v pit n j = tk1 S t2 v pit n j := by
  intro n
  induction n with
  | zero => exact h
  | succ n ih =>
    intro j hj
    simp only [tk1]
    split
    · exact lw_congP ih _ _ j hj
    · exact ih j hj
theorem tk2_congP {P : Int → Prop} {S : Sc} {c c2 : Int → Int} {pit : Int} : ∀ (E : List Eg), (∀ e ∈ E, P (e.1 + 1)) → (∀ j, P j → c j = c2 j) → ∀ (t t2 : Int → Int), (∀ j, P j → t j = t2 j) → ∀ j, P j → tk2 S c pit E t j = tk2 S c2 pit E t2 j := by
  intro E
  induction E with
  | nil => intro _ _ t t2 h j hj; exact h j hj
  | cons e E ih =>
    intro hE hc t t2 h
    have h1 : c (e.1 + 1) = c2 (e.1 + 1) := hc _ (hE e List.mem_cons_self)
    refine ih (fun f hf => hE f (List.mem_cons_of_mem _ hf)) hc _ _ (fun j hj => ?_)
    simp only
    rw [h1]
    exact lw_congP h _ _ j hj
theorem least_congP {c c2 : Int → Int} : ∀ n : Nat, (∀ i : Nat, i < n → c (i : Nat) = c2 (i : Nat)) → least c n = least c2 n := by
  intro n
  induction n with
  | zero => intro _; rfl
  | succ n ih => intro h; simp only [least]; rw [ih (fun i hi => h i (by omega)), h n (by omega)]
theorem chF_congP {t t2 : Int → Int} {goal : Int} : ∀ n : Nat, (∀ j, 0 ≤ j → j ≤ (n : Int) → t j = t2 j) → chF t goal n = chF t2 goal n := by
  intro n
  induction n with
  | zero => intro _; rfl
  | succ n ih =>
    intro h
    have h1 := ih (fun j a b => h j a (by omega))
    have h2 := chF_in t2 goal n
    simp only [chF]
    rw [h1, h ((n : Nat) + 1) (by omega) (by omega), h (chF t2 goal n + 1) (by omega) (by omega)]
/-- a place's number, one higher, within the score -/
abbrev pn (S : Sc) (j : Int) : Prop := 0 ≤ j ∧ j ≤ S 0 0
theorem El_pn {S : Sc} (hS : okSc S) : ∀ e ∈ El S, pn S (e.1 + 1) ∧ pn S (e.2.1 + 1) := by
  intro e he
  have h := El_mem hS he
  exact ⟨⟨by omega, by omega⟩, ⟨by omega, by omega⟩⟩
theorem sk_pn {S : Sc} (hS : okSc S) : ∀ e ∈ (El S).map (sk1 S), pn S (e.1 + 1) ∧ pn S (e.2.1 + 1) := by
  intro e he
  obtain ⟨f, hf, rfl⟩ := List.mem_map.mp he
  exact El_pn hS f hf
theorem rnd_take {E : List Eg} {i : Nat} {e : Eg} (h : E[i]? = some e) (c : Int → Int) : rnd (E.take (i + 1)) c = lo1 (rnd (E.take i) c) e := by
  unfold rnd
  rw [List.take_succ, h]
  simp
theorem tk2_take {S : Sc} {c : Int → Int} {pit : Int} {E : List Eg} {i : Nat} {e : Eg} (h : E[i]? = some e) (t : Int → Int) : tk2 S c pit (E.take (i + 1)) t = lw (tk2 S c pit (E.take i) t) (e.2.1 + 1) (c (e.1 + 1) + e.2.2 + wr S e.2.1 pit) := by
  unfold tk2
  rw [List.take_succ, h]
  simp
theorem lo1_up {M : ra_M} {k : Nat} {e : Eg} {v : Int} (hv : v = M k (e.1 + 1) + e.2.2) (h : v < M k (e.2.1 + 1)) : (up M k (e.2.1 + 1) v) k = lo1 (M k) e := by
  funext j
  unfold lo1
  rw [if_pos (by omega)]
  simp only [up]
  by_cases hj : j = e.2.1 + 1
  · simp [hj, hv]
  · simp [hj]
theorem lo1_no {c : Int → Int} {e : Eg} {v : Int} (hv : v = c (e.1 + 1) + e.2.2) (h : ¬ v < c (e.2.1 + 1)) : lo1 c e = c := by
  unfold lo1
  rw [if_neg (by omega)]
theorem fwdT_congP {S : Sc} (hS : okSc S) {c c2 : Int → Int} (pit : Int) (h : ∀ j, pn S j → c j = c2 j) : ∀ j, pn S j → fwdT S c pit j = fwdT S c2 pit j := by
  have h0 := hS.1
  unfold fwdT
  rw [least_congP (c := c) (c2 := c2) ((S 0 0).toNat + 1) (fun i hi => h _ ⟨by omega, by omega⟩)]
  refine tk2_congP (P := pn S) (El S) (fun e he => (El_pn hS e he).1) h _ _ (tk1_congP _ _ (fun j hj => ?_) _)
  unfold tk0
  rw [h j hj]
