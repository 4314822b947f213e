/-! PURE: what is kept while EVENTS come -/
theorem thr_ex {S : Sc} (hS : okSc S) (h : 0 < S 0 0) : ∃ n : Int, thr S n := by
  have := hS.2.2.1
  by_cases h2 : S 0 2 < 0
  · exact ⟨0, by omega, h, Or.inl h2⟩
  · exact ⟨S 0 2, by omega, by omega, Or.inr ⟨Int.le_refl _, by omega⟩⟩
theorem rnd_0 {S : Sc} : ∀ (E : List Eg) (c : Int → Int), (∀ e ∈ E, thr S e.2.1) → rnd E c 0 = c 0 := by
  intro E
  induction E with
  | nil => intro c _; rfl
  | cons e E ih =>
    intro c h
    have h1 := h e List.mem_cons_self
    show rnd E (lo1 c e) 0 = c 0
    rw [ih _ (fun f hf => h f (List.mem_cons_of_mem _ hf))]
    unfold lo1
    split
    · simp only; rw [if_neg (by omega)]
    · rfl
theorem rep_0 {S : Sc} {E : List Eg} (h : ∀ e ∈ E, thr S e.2.1) : ∀ (n : Nat) (c : Int → Int), rep E n c 0 = c 0 := by
  intro n
  induction n with
  | zero => intro c; rfl
  | succ n ih => intro c; show rep E n (rnd E c) 0 = c 0; rw [ih, rnd_0 E c h]
theorem tk1_0 (S : Sc) (t : Int → Int) (v pit : Int) : ∀ n : Nat, tk1 S t v pit n 0 = t 0 := by
  intro n
  induction n with
  | zero => rfl
  | succ n ih =>
    simp only [tk1]
    split
    · unfold lw; rw [if_neg (by omega)]; exact ih
    · exact ih
theorem tk2_0 {S : Sc} (hS : okSc S) (c : Int → Int) (pit : Int) : ∀ (E : List Eg) (t : Int → Int), (∀ e ∈ E, e ∈ Ew S) → tk2 S c pit E t 0 = t 0 := by
  intro E
  induction E with
  | nil => intro t _; rfl
  | cons e E ih =>
    intro t h
    have h1 := Ew_mem hS (h e List.mem_cons_self)
    show tk2 S c pit E (lw t (e.2.1 + 1) _) 0 = t 0
    rw [ih _ (fun f hf => h f (List.mem_cons_of_mem _ hf))]
    unfold lw
    rw [if_neg (by omega)]
/-- behind an EVENT -/
theorem fwd_ok {S : Sc} (hS : okSc S) (hn : 0 < S 0 0) {B : Int} {v : Int → Int} {P pit : Int} (hB : 0 ≤ B ∧ B ≤ 900000000) (h : dd S B v) (hP : P = -1 ∨ thr S P) (hf : v (P + 1) < NV) :
    dt S (fwdT S (fwdC S v) pit) ∧ (fwdP S (fwdT S (fwdC S v) pit) P = -1 ∨ thr S (fwdP S (fwdT S (fwdC S v) pit) P)) ∧ fwdT S (fwdC S v) pit (fwdP S (fwdT S (fwdC S v) pit) P + 1) < NV ∧ dd S (B + 2000) (fgt S (fwdT S (fwdC S v) pit) (fwdP S (fwdT S (fwdC S v) pit) P)) ∧ fgt S (fwdT S (fwdC S v) pit) (fwdP S (fwdT S (fwdC S v) pit) P) (fwdP S (fwdT S (fwdC S v) pit) P + 1) < NV := by
  have hNV : NV = 1000000000 := rfl
  have hc := dd_fwdC hS h
  have hle : ∀ j, fwdC S v j ≤ v j := fun j => rep_le _ 61 v j
  have hc0 : fwdC S v 0 = v 0 := rep_0 (S := S) (fun e he => (sk_ok hS (fun f hf => Eu_sub S _ f hf) e he).2.1) 61 v
  generalize fwdC S v = c at hc hle hc0 ⊢
  have hn60 := hS.1
  have hcost := hS.2.2.2.2.2.2.2.1
  have hL : least c ((S 0 0).toNat + 1) ≤ B := by
    have h1 := (least_le c ((S 0 0).toNat + 1)).2 (P + 1).toNat (by rcases hP with hP | hP <;> omega)
    have h2 : (((P + 1).toNat : Nat) : Int) = P + 1 := by rcases hP with hP | hP <;> omega
    rw [h2] at h1
    have h3 := hle (P + 1)
    have h4 := h.2.2 (P + 1) hf
    omega
  have hL0 : 0 ≤ least c ((S 0 0).toNat + 1) := least_nn (fun j => (hc.1 j).1) _
  have c4 := hcost 4 (by omega) (by omega)
  have hdt0 := dt_tk0 hS hc
  have hdt1 := dt_tk1 hS (v := least c ((S 0 0).toNat + 1) + S 5 4) (pit := pit) hdt0 (by omega) (S 0 0).toNat
  have hdt := dt_tk2 hS (c := c) (pit := pit) (fun j => (hc.1 j).1) (El S) _ (fun e he => Eu_sub S _ e he) hdt1
  have ht0 : fwdT S c pit 0 = min NV (v 0 + S 5 1) := by
    unfold fwdT
    rw [tk2_0 hS c pit (El S) _ (fun e he => Eu_sub S _ e he), tk1_0]
    unfold tk0
    rw [hc0]
  have hthr : ∀ n : Int, thr S n → fwdT S c pit (n + 1) ≤ B + 2000 := by
    intro n hn
    have h1 := tk2_le S c pit (El S) (tk1 S (tk0 S c) (least c ((S 0 0).toNat + 1) + S 5 4) pit (S 0 0).toNat) (n + 1)
    have hi : ((n.toNat : Nat) : Int) = n := by omega
    have h2 := tk1_at (S := S) (t := tk0 S c) (v := least c ((S 0 0).toNat + 1) + S 5 4) (pit := pit) (S 0 0).toNat n.toNat (by omega) (by rw [hi]; exact hn)
    rw [hi] at h2
    have h3 := wr_in hS n pit
    unfold fwdT
    omega
  have hdt : dt S (fwdT S c pit) := hdt
  generalize fwdT S c pit = t at hdt ht0 hthr ⊢
  obtain ⟨n0, hn0⟩ := thr_ex hS hn
  have hP1 := chF_in t (P + 1) (S 0 0).toNat
  have hlt : t (fwdP S t P + 1) < NV := by
    have h1 := hP1.2.2 (n0 + 1).toNat (by omega)
    have h2 : (((n0 + 1).toNat : Nat) : Int) = n0 + 1 := by omega
    rw [h2] at h1
    have h3 := hthr n0 hn0
    unfold fwdP
    omega
  have hPt : fwdP S t P = -1 ∨ thr S (fwdP S t P) := by
    by_cases hq : fwdP S t P = -1
    · exact Or.inl hq
    · right
      have hge : -1 ≤ fwdP S t P := hP1.1
      by_cases ht : thr S (fwdP S t P)
      · exact ht
      · have := hdt.2 (fwdP S t P + 1) (Or.inr ⟨by omega, by rw [show fwdP S t P + 1 - 1 = fwdP S t P by omega]; exact ht⟩)
        omega
  refine ⟨hdt, hPt, hlt, ⟨fun j => ?_, fun j hj => ?_, fun j hj => ?_⟩, ?_⟩
  · have := hdt.1 j
    unfold fgt
    split <;> omega
  · unfold fgt
    split
    · rfl
    · exact hdt.2 j hj
  · unfold fgt at hj ⊢
    split at hj
    · omega
    next hq =>
      rw [if_neg hq]
      by_cases h0 : j = 0
      · subst h0
        rw [ht0] at hj ⊢
        have c1 := hcost 1 (by omega) (by omega)
        have := h.2.2 0 (by omega)
        omega
      · by_cases ht : thr S (j - 1)
        · have := hthr (j - 1) ht
          rw [show j - 1 + 1 = j by omega] at this
          exact this
        · have := hdt.2 j (by omega)
          omega
  · unfold fgt
    have hsp := hS.2.2.2.1
    have e1 : fwdP S t P + 1 - 1 - fwdP S t P = 0 := by omega
    rw [e1, ab_0, if_neg (by omega)]
    exact hlt
theorem FVP_ok {S : Sc} (hS : okSc S) (hn : 0 < S 0 0) (hp : Int → Int) : ∀ k : Nat, k ≤ 120 → dd S (2000 * (k : Nat)) (FVP S hp k).1 ∧ ((FVP S hp k).2 = -1 ∨ thr S (FVP S hp k).2) ∧ (FVP S hp k).1 ((FVP S hp k).2 + 1) < NV := by
  intro k
  induction k with
  | zero =>
    intro _
    have hNV : NV = 1000000000 := rfl
    refine ⟨⟨fun j => ?_, fun j hj => ?_, fun j hj => ?_⟩, Or.inl rfl, ?_⟩
    · show 0 ≤ v00 j ∧ v00 j ≤ NV
      unfold v00; split <;> omega
    · show v00 j = NV
      unfold v00; rw [if_neg (by omega)]
    · have hj : v00 j < NV := hj
      show v00 j ≤ _
      unfold v00 at hj ⊢
      split at hj
      · rw [if_pos (by assumption)]; omega
      · omega
    · show v00 (-1 + 1) < NV
      unfold v00; simp; omega
  | succ k ih =>
    intro hk
    obtain ⟨h1, h2, h3⟩ := ih (by omega)
    have := fwd_ok hS hn (pit := hp (k : Nat)) ⟨by omega, by omega⟩ h1 h2 h3
    refine ⟨?_, this.2.1, this.2.2.2.2⟩
    have e1 : (2000 : Int) * ((k + 1 : Nat) : Int) = 2000 * (k : Nat) + 2000 := by omega
    rw [e1]
    exact this.2.2.2.1
theorem rep_cong {E : List Eg} (hE : okE E) : ∀ (n : Nat) (c c2 : Int → Int), (∀ j, 0 ≤ j → j ≤ 60 → c j = c2 j) → ∀ j, 0 ≤ j → j ≤ 60 → rep E n c j = rep E n c2 j := by
  have h1 : ∀ (F : List Eg), (∀ e ∈ F, e ∈ E) → ∀ (c c2 : Int → Int), (∀ j, 0 ≤ j → j ≤ 60 → c j = c2 j) → ∀ j, 0 ≤ j → j ≤ 60 → rnd F c j = rnd F c2 j := by
    intro F
    induction F with
    | nil => intro _ c c2 h j a b; exact h j a b
    | cons e F ih =>
      intro hF c c2 h
      have he := hE e (hF e List.mem_cons_self)
      refine ih (fun f hf => hF f (List.mem_cons_of_mem _ hf)) (lo1 c e) (lo1 c2 e) (fun j a b => ?_)
      unfold lo1
      rw [h (e.1 + 1) (by omega) (by omega), h (e.2.1 + 1) (by omega) (by omega)]
      split
      · simp only; split
        · rfl
        · exact h j a b
      · exact h j a b
  intro n
  induction n with
  | zero => intro c c2 h j a b; exact h j a b
  | succ n ih => intro c c2 h; exact ih _ _ (h1 E (fun _ h => h) c c2 h)
