/-! PURE: following, an EVENT on -/
def lw (t : Int → Int) (i v : Int) : Int → Int := fun j => if j = i then min (t j) v else t j
def least (c : Int → Int) : Nat → Int
  | 0 => NV
  | n + 1 => min (least c n) (c (n : Nat))
def wr (S : Sc) (n pit : Int) : Int := if S 1 n = pit then 0 else S 5 0
def ab (x : Int) : Int := if 0 ≤ x then x else -x
def tk0 (S : Sc) (c : Int → Int) : Int → Int := fun j => min NV (c j + S 5 1)
def tk1 (S : Sc) (t : Int → Int) (v pit : Int) : Nat → (Int → Int)
  | 0 => t
  | n + 1 => if thr S (n : Nat) then lw (tk1 S t v pit n) ((n : Nat) + 1) (v + wr S (n : Nat) pit) else tk1 S t v pit n
def tk2 (S : Sc) (c : Int → Int) (pit : Int) (E : List Eg) (t : Int → Int) : Int → Int := E.foldl (fun t e => lw t (e.2.1 + 1) (c (e.1 + 1) + e.2.2 + wr S e.2.1 pit)) t
def chF (t : Int → Int) (goal : Int) : Nat → Int
  | 0 => -1
  | n + 1 => if t ((n : Nat) + 1) - t (chF t goal n + 1) < 0 ∨ (t ((n : Nat) + 1) - t (chF t goal n + 1) = 0 ∧ ab ((n : Nat) - goal) < ab (chF t goal n - goal)) then (n : Nat) else chF t goal n
def fgt (S : Sc) (t : Int → Int) (P : Int) : Int → Int := fun j => if 0 ≤ j ∧ j ≤ S 0 0 ∧ S 0 4 < ab (j - 1 - P) then NV else t j
def fwdC (S : Sc) (v : Int → Int) : Int → Int := rep ((El S).map (sk1 S)) 61 v
def fwdT (S : Sc) (c : Int → Int) (pit : Int) : Int → Int := tk2 S c pit (El S) (tk1 S (tk0 S c) (least c ((S 0 0).toNat + 1) + S 5 4) pit (S 0 0).toNat)
def fwdP (S : Sc) (t : Int → Int) (P : Int) : Int := chF t (P + 1) (S 0 0).toNat
def v00 : Int → Int := fun j => if j = 0 then 0 else NV
/-- the VALUES and THE PLACE behind k EVENTS with the pitches hp -/
def FVP (S : Sc) (hp : Int → Int) : Nat → (Int → Int) × Int
  | 0 => (v00, -1)
  | k + 1 => (fgt S (fwdT S (fwdC S (FVP S hp k).1) (hp (k : Nat))) (fwdP S (fwdT S (fwdC S (FVP S hp k).1) (hp (k : Nat))) (FVP S hp k).2), fwdP S (fwdT S (fwdC S (FVP S hp k).1) (hp (k : Nat))) (FVP S hp k).2)
/-- values: within 0 .. NV; none where no place is; if one, at most B -/
def dd (S : Sc) (B : Int) (c : Int → Int) : Prop := (∀ j, 0 ≤ c j ∧ c j ≤ NV) ∧ (∀ j, (j < 0 ∨ (0 < j ∧ ¬ thr S (j - 1))) → c j = NV) ∧ ∀ j, c j < NV → c j ≤ B
theorem dd_lo1 {S : Sc} {B : Int} {c : Int → Int} {e : Eg} (h : dd S B c) (h1 : -1 ≤ e.1) (h2 : thr S e.2.1) (h3 : 0 ≤ e.2.2 ∧ e.2.2 ≤ 2000) : dd S (B + 2000) (lo1 c e) := by
  obtain ⟨d1, d2, d3⟩ := h
  have hx := d1 (e.1 + 1)
  have hy := d1 (e.2.1 + 1)
  refine ⟨fun j => ?_, fun j hj => ?_, fun j hj => ?_⟩
  · have := d1 j
    unfold lo1
    split
    · simp only; split <;> omega
    · omega
  · unfold lo1
    split
    · simp only
      rw [if_neg ?_]
      · exact d2 j hj
      · intro hq
        subst hq
        rcases hj with hj | hj
        · omega
        · apply hj.2
          rw [show e.2.1 + 1 - 1 = e.2.1 by omega]
          exact h2
    · exact d2 j hj
  · unfold lo1 at hj ⊢
    split at hj
    next hlt =>
      rw [if_pos hlt] 
      simp only at hj ⊢
      split at hj
      next hq =>
        rw [if_pos hq]
        have := d3 (e.1 + 1) (by omega)
        omega
      next hq =>
        rw [if_neg hq]
        have := d3 j hj
        omega
    next hlt =>
      rw [if_neg hlt]
      have := d3 j hj
      omega
theorem dd_rnd {S : Sc} : ∀ (E : List Eg) (B : Int) (c : Int → Int), (∀ e ∈ E, -1 ≤ e.1 ∧ thr S e.2.1 ∧ 0 ≤ e.2.2 ∧ e.2.2 ≤ 2000) → dd S B c → dd S (B + 2000 * E.length) (rnd E c) := by
  intro E
  induction E with
  | nil => intro B c _ h; simpa [rnd] using h
  | cons e E ih =>
    intro B c hE h
    have h1 := hE e List.mem_cons_self
    have := ih (B + 2000) (lo1 c e) (fun f hf => hE f (List.mem_cons_of_mem _ hf)) (dd_lo1 h h1.1 h1.2.1 h1.2.2)
    rw [show B + 2000 + 2000 * (E.length : Int) = B + 2000 * ((e :: E).length : Int) by simp; omega] at this
    exact this
theorem dd_rep {S : Sc} {E : List Eg} (hE : ∀ e ∈ E, -1 ≤ e.1 ∧ thr S e.2.1 ∧ 0 ≤ e.2.2 ∧ e.2.2 ≤ 2000) {L : Int} (hL : 2000 * (E.length : Int) ≤ L) (h0 : 0 ≤ L) : ∀ (n : Nat) (B : Int) (c : Int → Int), dd S B c → dd S (B + L * n) (rep E n c) := by
  intro n
  induction n with
  | zero => intro B c h; simpa [rep] using h
  | succ n ih =>
    intro B c h
    have h1 := dd_rnd E B c hE h
    have h2 : dd S (B + L) (rnd E c) := ⟨h1.1, h1.2.1, fun j hj => by have := h1.2.2 j hj; omega⟩
    have h3 := ih (B + L) (rnd E c) h2
    have e1 : B + L + L * (n : Int) = B + L * ((n + 1 : Nat) : Int) := by
      rw [show ((n + 1 : Nat) : Int) = (n : Int) + 1 by omega, Int.mul_add]; omega
    rw [e1] at h3
    exact h3
theorem sk_ok {S : Sc} (hS : okSc S) {E : List Eg} (h : ∀ e ∈ E, e ∈ Ew S) : ∀ e ∈ E.map (sk1 S), -1 ≤ e.1 ∧ thr S e.2.1 ∧ 0 ≤ e.2.2 ∧ e.2.2 ≤ 2000 := by
  intro e he
  obtain ⟨f, hf, rfl⟩ := List.mem_map.mp he
  have h1 := Ew_mem hS (h f hf)
  have h3 := hS.2.2.2.2.2.2.2.1 2 (by omega) (by omega)
  refine ⟨h1.1.1, h1.2.1, ?_, ?_⟩ <;> simp only [sk1] <;> omega
theorem dd_fwdC {S : Sc} (hS : okSc S) {B : Int} {v : Int → Int} (h : dd S B v) : dd S (B + 9028000) (fwdC S v) := by
  have hl := El_len hS
  have := dd_rep (E := (El S).map (sk1 S)) (sk_ok hS (fun e he => Eu_sub S _ e he)) (L := 148000) (by rw [List.length_map]; omega) (by omega) 61 B v h
  exact this
/-- from where there is no value nothing comes: edges from all places, or from those that are there -/
theorem rnd_Ev {S : Sc} (hS : okSc S) : ∀ (n : Nat) (B : Int) (c : Int → Int), (n : Int) ≤ S 0 0 + 1 → dd S B c → rnd ((Ev S n).map (sk1 S)) c = rnd ((Eu S n).map (sk1 S)) c := by
  intro n
  induction n with
  | zero => intro B c _ h; rfl
  | succ n ih =>
    intro B c hn h
    have e0 : ∀ (E F : List Eg) (c : Int → Int), rnd ((E ++ F).map (sk1 S)) c = rnd (F.map (sk1 S)) (rnd (E.map (sk1 S)) c) := by
      intro E F c; simp [rnd, List.map_append, List.foldl_append]
    simp only [Ev, Eu]
    rw [e0, e0, ih B c (by omega) h]
    split
    next => rfl
    next hc =>
      have hdn := dd_rnd ((Eu S n).map (sk1 S)) B c (sk_ok hS (fun e he => by
        have hm := Eu_sub S n e he
        have : ∀ m, n ≤ m → e ∈ Ev S m := by
          intro m hm2
          induction hm2 with
          | refl => exact hm
          | step _ ih2 => exact List.mem_append_left _ ih2
        exact this _ (by omega))) h
      apply rnd_att
      intro e he
      obtain ⟨f, hf, rfl⟩ := List.mem_map.mp he
      obtain ⟨q, hq, rfl⟩ := List.mem_map.mp hf
      have h1 : rnd ((Eu S n).map (sk1 S)) c ((n : Int) - 1 + 1) = NV := hdn.2.1 _ (Or.inr ⟨by omega, by rw [show (n : Int) - 1 + 1 - 1 = (n : Int) - 1 by omega]; exact fun q => hc (Or.inr q)⟩)
      have h2 := hdn.1 (q.1 + 1)
      have h3 := nx_mem hS hq
      have h4 := hS.2.2.2.2.2.2.2.2.2
      unfold att
      simp only [sk1]
      omega
theorem rep_Ew {S : Sc} (hS : okSc S) : ∀ (n : Nat) (B : Int) (c : Int → Int), dd S B c → rep ((Ew S).map (sk1 S)) n c = rep ((El S).map (sk1 S)) n c := by
  intro n
  induction n with
  | zero => intro B c _; rfl
  | succ n ih =>
    intro B c h
    have hs := hS.1
    have h1 : rnd ((Ew S).map (sk1 S)) c = rnd ((El S).map (sk1 S)) c := rnd_Ev hS _ B c (by omega) h
    show rep ((Ew S).map (sk1 S)) n (rnd ((Ew S).map (sk1 S)) c) = rep ((El S).map (sk1 S)) n (rnd ((El S).map (sk1 S)) c)
    rw [h1]
    exact ih _ _ (dd_rnd _ B c (sk_ok hS (fun e he => Eu_sub S _ e he)) h)
/-- the least value -/
theorem least_le (c : Int → Int) : ∀ (n : Nat), least c n ≤ NV ∧ ∀ i : Nat, i < n → least c n ≤ c (i : Nat) := by
  intro n
  induction n with
  | zero => exact ⟨Int.le_refl _, fun i h => by omega⟩
  | succ n ih =>
    refine ⟨by have := ih.1; simp only [least]; omega, fun i hi => ?_⟩
    simp only [least]
    by_cases h : i = n
    · subst h; omega
    · have := ih.2 i (by omega); omega
theorem least_nn {c : Int → Int} (h : ∀ j, 0 ≤ c j) : ∀ n : Nat, 0 ≤ least c n := by
  intro n
  induction n with
  | zero => simp [least]
  | succ n ih => have := h (n : Nat); simp only [least]; omega
theorem least_more {c : Int → Int} {n m : Nat} (h : n ≤ m) (hc : ∀ i : Nat, n ≤ i → i < m → c (i : Nat) = NV) : least c m = least c n := by
  induction h with
  | refl => rfl
  | step hm ih =>
    rename_i m
    have h1 := ih (fun i h1 h2 => hc i h1 (by omega))
    have h2 := hc m hm (by omega)
    have h3 := (least_le c n).1
    simp only [least]
    rw [h1, h2]
    omega
theorem lw_le (t : Int → Int) (i v j : Int) : lw t i v j ≤ t j := by unfold lw; split <;> omega
theorem wr_in {S : Sc} (hS : okSc S) (n pit : Int) : 0 ≤ wr S n pit ∧ wr S n pit ≤ 1000 := by
  have h := hS.2.2.2.2.2.2.2.1 0 (by omega) (by omega)
  unfold wr
  split <;> omega
/-- a row of new values: within 0 .. NV, none where no note is there -/
def dt (S : Sc) (t : Int → Int) : Prop := (∀ j, 0 ≤ t j ∧ t j ≤ NV) ∧ ∀ j, (j < 0 ∨ (0 < j ∧ ¬ thr S (j - 1))) → t j = NV
theorem dt_lw {S : Sc} {t : Int → Int} {n v : Int} (h : dt S t) (hn : thr S n) (hv : 0 ≤ v) : dt S (lw t (n + 1) v) := by
  refine ⟨fun j => ?_, fun j hj => ?_⟩
  · have := h.1 j
    unfold lw
    split <;> omega
  · unfold lw
    rw [if_neg ?_]
    · exact h.2 j hj
    · intro hq
      subst hq
      rcases hj with hj | hj
      · omega
      · apply hj.2
        rw [show n + 1 - 1 = n by omega]
        exact hn
theorem dt_tk0 {S : Sc} (hS : okSc S) {B : Int} {c : Int → Int} (h : dd S B c) : dt S (tk0 S c) := by
  have h1 := hS.2.2.2.2.2.2.2.2.1
  refine ⟨fun j => ?_, fun j hj => ?_⟩
  · have := h.1 j; unfold tk0; omega
  · have := h.2.1 j hj; unfold tk0; omega
theorem dt_tk1 {S : Sc} (hS : okSc S) {t : Int → Int} {v pit : Int} (h : dt S t) (hv : 0 ≤ v) : ∀ n : Nat, dt S (tk1 S t v pit n) := by
  intro n
  induction n with
  | zero => exact h
  | succ n ih =>
    simp only [tk1]
    split
    next hc => exact dt_lw ih hc (by have := wr_in hS (n : Nat) pit; omega)
    next => exact ih
theorem tk1_le (S : Sc) (t : Int → Int) (v pit : Int) : ∀ (n : Nat) (j : Int), tk1 S t v pit n j ≤ t j := by
  intro n
  induction n with
  | zero => intro j; exact Int.le_refl _
  | succ n ih =>
    intro j
    simp only [tk1]
    split
    · exact Int.le_trans (lw_le _ _ _ _) (ih j)
    · exact ih j
theorem tk1_at {S : Sc} {t : Int → Int} {v pit : Int} : ∀ (n i : Nat), i < n → thr S (i : Nat) → tk1 S t v pit n ((i : Nat) + 1) ≤ v + wr S (i : Nat) pit := by
  intro n
  induction n with
  | zero => intro i h; omega
  | succ n ih =>
    intro i hi ht
    simp only [tk1]
    by_cases h : i = n
    · subst h
      rw [if_pos ht]
      unfold lw
      rw [if_pos rfl]
      omega
    · have := ih i (by omega) ht
      split
      · exact Int.le_trans (lw_le _ _ _ _) this
      · exact this
theorem tk2_le (S : Sc) (c : Int → Int) (pit : Int) : ∀ (E : List Eg) (t : Int → Int) (j : Int), tk2 S c pit E t j ≤ t j := by
  intro E
  induction E with
  | nil => intro t j; exact Int.le_refl _
  | cons e E ih => intro t j; exact Int.le_trans (ih _ j) (lw_le _ _ _ _)
theorem dt_tk2 {S : Sc} (hS : okSc S) {c : Int → Int} {pit : Int} (hc : ∀ j, 0 ≤ c j) : ∀ (E : List Eg) (t : Int → Int), (∀ e ∈ E, e ∈ Ew S) → dt S t → dt S (tk2 S c pit E t) := by
  intro E
  induction E with
  | nil => intro t _ h; exact h
  | cons e E ih =>
    intro t hE h
    have h1 := Ew_mem hS (hE e List.mem_cons_self)
    have h2 := wr_in hS e.2.1 pit
    have h3 := hc (e.1 + 1)
    exact ih _ (fun f hf => hE f (List.mem_cons_of_mem _ hf)) (dt_lw h h1.2.1 (by omega))
theorem tk2_Ev {S : Sc} (hS : okSc S) {B : Int} {c : Int → Int} {pit : Int} (h : dd S B c) : ∀ (n : Nat) (t : Int → Int), (n : Int) ≤ S 0 0 + 1 → dt S t → tk2 S c pit (Ev S n) t = tk2 S c pit (Eu S n) t := by
  intro n
  induction n with
  | zero => intro t _ _; rfl
  | succ n ih =>
    intro t hn ht
    have e0 : ∀ (E F : List Eg) (t : Int → Int), tk2 S c pit (E ++ F) t = tk2 S c pit F (tk2 S c pit E t) := by
      intro E F t; simp [tk2, List.foldl_append]
    simp only [Ev, Eu]
    rw [e0, e0, ih t (by omega) ht]
    split
    next => rfl
    next hc =>
      have hin : ∀ e ∈ Eu S n, e ∈ Ew S := by
        intro e he
        have hm := Eu_sub S n e he
        have : ∀ m, n ≤ m → e ∈ Ev S m := by
          intro m hm2
          induction hm2 with
          | refl => exact hm
          | step _ ih2 => exact List.mem_append_left _ ih2
        exact this _ (by omega)
      have hdt := dt_tk2 hS (pit := pit) (fun j => (h.1 j).1) (Eu S n) t hin ht
      generalize tk2 S c pit (Eu S n) t = u at hdt
      have key : ∀ (F : List Eg), (∀ e ∈ F, e.1 = (n : Int) - 1 ∧ (e.2.1, e.2.2) ∈ nx S ((n : Int) - 1)) → tk2 S c pit F u = u := by
        intro F
        induction F with
        | nil => intro _; rfl
        | cons e F ih2 =>
          intro hF
          have h1 := hF e List.mem_cons_self
          have h2 : c (e.1 + 1) = NV := h.2.1 _ (Or.inr ⟨by omega, by rw [h1.1, show (n : Int) - 1 + 1 - 1 = (n : Int) - 1 by omega]; exact fun q => hc (Or.inr q)⟩)
          have h3 := nx_mem hS h1.2
          have h4 := wr_in hS e.2.1 pit
          have h5 : lw u (e.2.1 + 1) (c (e.1 + 1) + e.2.2 + wr S e.2.1 pit) = u := by
            funext j
            unfold lw
            split
            · have := hdt.1 j; simp only at h3; omega
            · rfl
          show tk2 S c pit F (lw u (e.2.1 + 1) (c (e.1 + 1) + e.2.2 + wr S e.2.1 pit)) = u
          rw [h5]
          exact ih2 (fun f hf => hF f (List.mem_cons_of_mem _ hf))
      exact key _ (fun e he => by obtain ⟨q, hq, rfl⟩ := List.mem_map.mp he; exact ⟨rfl, hq⟩)
/-- the place that is chosen has the least value -/
theorem chF_in (t : Int → Int) (goal : Int) : ∀ n : Nat, -1 ≤ chF t goal n ∧ chF t goal n < n ∧ ∀ i : Nat, i ≤ n → t (chF t goal n + 1) ≤ t (i : Nat) := by
  intro n
  induction n with
  | zero =>
    refine ⟨by simp [chF], by simp [chF], fun i hi => ?_⟩
    have : i = 0 := by omega
    subst this
    simp [chF]
  | succ n ih =>
    obtain ⟨h1, h2, h3⟩ := ih
    simp only [chF]
    split
    next hc =>
      refine ⟨by omega, by omega, fun i hi => ?_⟩
      by_cases h : i = n + 1
      · subst h; rw [show ((n + 1 : Nat) : Int) = (n : Int) + 1 by omega]; exact Int.le_refl _
      · have := h3 i (by omega); omega
    next hc =>
      refine ⟨h1, by omega, fun i hi => ?_⟩
      by_cases h : i = n + 1
      · subst h; rw [show ((n + 1 : Nat) : Int) = (n : Int) + 1 by omega]; omega
      · exact h3 i (by omega)
theorem ab_nn (x : Int) : 0 ≤ ab x := by unfold ab; split <;> omega
theorem ab_0 : ab 0 = 0 := rfl
