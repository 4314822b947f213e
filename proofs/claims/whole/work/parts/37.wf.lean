/-! the state stays sound -/
theorem wk_len (S : Sc) (hp : Int → Int) (R : Int → Int → Int) (cnt : Int) : ∀ (f : Nat) (e p : Int), (wk S hp R cnt f e p).length ≤ f := by
  intro f
  induction f with
  | zero => intro e p; simp [wk]
  | succ f ih =>
    intro e p
    simp only [wk]
    split
    · simp
    · have := ih (if (opt S hp R e p).1 = 2 then e else e + 1) (opt S hp R e p).2.1
      simp only [List.length_cons]
      omega
theorem AlS_len {S : Sc} {hp : Int → Int} {cnt sum : Int} {ls : List St4} (h : AlS S hp cnt sum ls) : ls.length ≤ 7320 := by
  obtain ⟨R, -, h2, -⟩ := h
  rw [h2]
  exact wk_len _ _ _ _ _ _ _
theorem WF_mono {t : Nat} {S : Sc} {cnt : Int} {hp ht : Int → Int} {ses : Int} {bx : Int → Int} {al : Al8} (h : WF t S cnt hp ht ses bx al) : WF (t + 1) S cnt hp ht ses bx al := ⟨h.1, h.2.1, h.2.2.1, h.2.2.2.1, ⟨h.2.2.2.2.1.1, by have := h.2.2.2.2.1.2; omega⟩, h.2.2.2.2.2.1, h.2.2.2.2.2.2⟩
theorem okSc_addN {S : Sc} (hS : okSc S) {p s : Int} (hp : 0 ≤ p ∧ p ≤ 127) (hs : 0 ≤ s ∧ s ≤ 1000000) (hl : lastS S < s) (hn : S 0 0 < 60) (h2 : S 0 2 = -1) : okSc (addN S p s) := by
  obtain ⟨o0, o1, o2, o4, oa, ob, ow, oc, oc1, oc2⟩ := hS
  have f00 : addN S p s 0 0 = S 0 0 + 1 := by simp [addN, up]
  have f01 : addN S p s 0 1 = S 0 1 := by simp [addN, up]
  have f02 : addN S p s 0 2 = S 0 2 := by simp [addN, up]
  have f03 : addN S p s 0 3 = S 0 3 := by simp [addN, up]
  have f04 : addN S p s 0 4 = S 0 4 := by simp [addN, up]
  have f1 : ∀ i, addN S p s 1 i = if i = S 0 0 then p else S 1 i := fun i => by simp [addN, up]
  have f2 : ∀ i, addN S p s 2 i = if i = S 0 0 then s else S 2 i := fun i => by simp [addN, up]
  have f3 : ∀ i, addN S p s 3 i = S 3 i := fun i => by simp [addN, up]
  have f4 : ∀ i, addN S p s 4 i = S 4 i := fun i => by simp [addN, up]
  have f5 : ∀ i, addN S p s 5 i = S 5 i := fun i => by simp [addN, up]
  unfold okSc
  rw [f00, f01, f02, f03, f04]
  refine ⟨by omega, o1, by omega, o4, fun i a b => ?_, fun i j a b c => ?_, fun k a b => ?_, fun k a b => by rw [f5]; exact oc k a b, by rw [f5]; exact oc1, by rw [f5]; exact oc2⟩
  · rw [f1, f2]
    by_cases hi : i = S 0 0
    · rw [if_pos hi, if_pos hi]; exact ⟨hp, hs⟩
    · rw [if_neg hi, if_neg hi]; exact oa i a (by omega)
  · rw [f2, f2, if_neg (by omega)]
    by_cases hj : j = S 0 0
    · rw [if_pos hj]
      unfold lastS at hl
      rw [if_neg (by omega)] at hl
      by_cases hi : i = S 0 0 - 1
      · rw [hi]; exact hl
      · have := ob i (S 0 0 - 1) a (by omega) (by omega); omega
    · rw [if_neg hj]; exact ob i j a b (by omega)
  · rw [f3, f4]
    have := ow k a b
    omega
theorem okSc_addW {S : Sc} (hS : okSc S) {f g : Int} (hf : 0 ≤ f ∧ f < S 0 0) (hg : 0 ≤ g ∧ g < S 0 0) (hn : S 0 1 < 12) : okSc (addW S f g) := by
  obtain ⟨o0, o1, o2, o4, oa, ob, ow, oc, oc1, oc2⟩ := hS
  have f00 : addW S f g 0 0 = S 0 0 := by simp [addW, up]
  have f01 : addW S f g 0 1 = S 0 1 + 1 := by simp [addW, up]
  have f02 : addW S f g 0 2 = S 0 2 := by simp [addW, up]
  have f03 : addW S f g 0 3 = S 0 3 := by simp [addW, up]
  have f04 : addW S f g 0 4 = S 0 4 := by simp [addW, up]
  have f1 : ∀ i, addW S f g 1 i = S 1 i := fun i => by simp [addW, up]
  have f2 : ∀ i, addW S f g 2 i = S 2 i := fun i => by simp [addW, up]
  have f3 : ∀ i, addW S f g 3 i = if i = S 0 1 then f else S 3 i := fun i => by simp [addW, up]
  have f4 : ∀ i, addW S f g 4 i = if i = S 0 1 then g else S 4 i := fun i => by simp [addW, up]
  have f5 : ∀ i, addW S f g 5 i = S 5 i := fun i => by simp [addW, up]
  unfold okSc
  rw [f00, f01, f02, f03, f04]
  refine ⟨o0, by omega, o2, o4, fun i a b => by rw [f1, f2]; exact oa i a b, fun i j a b c => by rw [f2, f2]; exact ob i j a b c, fun k a b => ?_, fun k a b => by rw [f5]; exact oc k a b, by rw [f5]; exact oc1, by rw [f5]; exact oc2⟩
  rw [f3, f4]
  by_cases hk : k = S 0 1
  · rw [if_pos hk, if_pos hk]; exact ⟨hf, hg⟩
  · rw [if_neg hk, if_neg hk]; exact ow k a (by omega)
theorem okSc_loop {S : Sc} (hS : okSc S) {f g : Int} (h : ¬ (f ≠ -1 ∧ ¬ (0 ≤ f ∧ f ≤ g ∧ g < S 0 0))) : okSc (up (up S 0 2 f) 0 3 (if f = -1 then -1 else g)) := by
  obtain ⟨o0, o1, o2, o4, oa, ob, ow, oc, oc1, oc2⟩ := hS
  have f00 : up (up S 0 2 f) 0 3 (if f = -1 then -1 else g) 0 0 = S 0 0 := by simp [up]
  have f01 : up (up S 0 2 f) 0 3 (if f = -1 then -1 else g) 0 1 = S 0 1 := by simp [up]
  have f02 : up (up S 0 2 f) 0 3 (if f = -1 then -1 else g) 0 2 = f := by simp [up]
  have f03 : up (up S 0 2 f) 0 3 (if f = -1 then -1 else g) 0 3 = (if f = -1 then -1 else g) := by simp [up]
  have f04 : up (up S 0 2 f) 0 3 (if f = -1 then -1 else g) 0 4 = S 0 4 := by simp [up]
  have fx : ∀ k i, k ≠ 0 → up (up S 0 2 f) 0 3 (if f = -1 then -1 else g) k i = S k i := fun k i h => by simp [up, h]
  unfold okSc
  rw [f00, f01, f02, f03, f04]
  refine ⟨o0, o1, by split <;> omega, o4, fun i a b => by rw [fx 1 _ (by omega), fx 2 _ (by omega)]; exact oa i a b, fun i j a b c => by rw [fx 2 _ (by omega), fx 2 _ (by omega)]; exact ob i j a b c, fun k a b => by rw [fx 3 _ (by omega), fx 4 _ (by omega)]; exact ow k a b, fun k a b => by rw [fx 5 _ (by omega)]; exact oc k a b, by rw [fx 5 _ (by omega)]; exact oc1, by rw [fx 5 _ (by omega)]; exact oc2⟩
theorem okSc_cost {S : Sc} (hS : okSc S) {w v : Int} (h : (0 ≤ w ∧ w ≤ 4) ∧ (if w = 1 ∨ w = 2 then 1 else 0) ≤ v ∧ v ≤ 1000) : okSc (up S 5 w v) := by
  obtain ⟨o0, o1, o2, o4, oa, ob, ow, oc, oc1, oc2⟩ := hS
  have fx : ∀ k i, k ≠ 5 → up S 5 w v k i = S k i := fun k i h => by simp [up, h]
  have f5 : ∀ i, up S 5 w v 5 i = if i = w then v else S 5 i := fun i => by simp [up]
  unfold okSc
  rw [fx 0 0 (by omega), fx 0 1 (by omega), fx 0 2 (by omega), fx 0 3 (by omega), fx 0 4 (by omega)]
  refine ⟨o0, o1, o2, o4, fun i a b => by rw [fx 1 _ (by omega), fx 2 _ (by omega)]; exact oa i a b, fun i j a b c => by rw [fx 2 _ (by omega), fx 2 _ (by omega)]; exact ob i j a b c, fun k a b => by rw [fx 3 _ (by omega), fx 4 _ (by omega)]; exact ow k a b, fun k a b => ?_, ?_, ?_⟩
  · rw [f5]
    have := oc k a b
    split
    · have h1 := h.2.1
      split at h1 <;> omega
    · exact this
  · rw [f5]
    split
    · have h1 := h.2.1
      rw [if_pos (by omega)] at h1
      exact h1
    · exact oc1
  · rw [f5]
    split
    · have h1 := h.2.1
      rw [if_pos (by omega)] at h1
      exact h1
    · exact oc2
theorem okSc_span {S : Sc} (hS : okSc S) {s : Int} (h : 0 ≤ s ∧ s ≤ 100) : okSc (up S 0 4 s) := by
  obtain ⟨o0, o1, o2, o4, oa, ob, ow, oc, oc1, oc2⟩ := hS
  have f00 : up S 0 4 s 0 0 = S 0 0 := by simp [up]
  have f01 : up S 0 4 s 0 1 = S 0 1 := by simp [up]
  have f02 : up S 0 4 s 0 2 = S 0 2 := by simp [up]
  have f03 : up S 0 4 s 0 3 = S 0 3 := by simp [up]
  have f04 : up S 0 4 s 0 4 = s := by simp [up]
  have fx : ∀ k i, k ≠ 0 → up S 0 4 s k i = S k i := fun k i h => by simp [up, h]
  unfold okSc
  rw [f00, f01, f02, f03, f04]
  exact ⟨o0, o1, o2, h, fun i a b => by rw [fx 1 _ (by omega), fx 2 _ (by omega)]; exact oa i a b, fun i j a b c => by rw [fx 2 _ (by omega), fx 2 _ (by omega)]; exact ob i j a b c, fun k a b => by rw [fx 3 _ (by omega), fx 4 _ (by omega)]; exact ow k a b, fun k a b => by rw [fx 5 _ (by omega)]; exact oc k a b, by rw [fx 5 _ (by omega)]; exact oc1, by rw [fx 5 _ (by omega)]; exact oc2⟩
theorem okSc_eS (S : Sc) : okSc (eS S) := by
  have f00 : eS S 0 0 = 0 := by simp [eS]
  have f01 : eS S 0 1 = 0 := by simp [eS]
  have f02 : eS S 0 2 = -1 := by simp [eS]
  have f03 : eS S 0 3 = -1 := by simp [eS]
  have f04 : eS S 0 4 = 8 := by simp [eS]
  have f5 : ∀ k, 0 ≤ k → k < 5 → eS S 5 k = ra_fc k := fun k a b => by simp [eS, a, b]
  unfold okSc
  rw [f00, f01, f02, f03, f04]
  refine ⟨by omega, by omega, by omega, by omega, fun i a b => by omega, fun i j a b c => by omega, fun k a b => by omega, fun k a b => ?_, ?_, ?_⟩
  · rw [f5 k a b]
    unfold ra_fc
    split
    · omega
    · split
      · omega
      · split
        · omega
        · split <;> omega
  · rw [f5 1 (by omega) (by omega)]; decide
  · rw [f5 2 (by omega) (by omega)]; decide
theorem WF_score {t : Nat} {S S2 : Sc} {cnt : Int} {hp ht : Int → Int} {ses : Int} {bx bx2 : Int → Int} {al : Al8} (h : WF t S cnt hp ht ses bx al) (h0 : cnt = 0) (hS2 : okSc S2) (hb : ∀ n, 0 ≤ n → n < 60 → 0 ≤ bx2 n ∧ bx2 n ≤ 5) : WF (t + 1) S2 cnt hp ht ses bx2 al := by
  subst h0
  have h1 := WF_mono h
  refine ⟨hS2, h1.2.1, fun q => absurd q (by omega), h1.2.2.2.1, h1.2.2.2.2.1, hb, fun q hq => ?_⟩
  have h2 := AlS_0 (h.2.2.2.2.2.2 q hq)
  exact AlS_of0 h2.1 h2.2
theorem WF_note {t : Nat} {S : Sc} {cnt : Int} {hp ht : Int → Int} {ses : Int} {bx du : Int → Int} {al : Al8} (h : WF t S cnt hp ht ses bx al) (p s : Int) : WFs (t + 1) (aNote S cnt hp ht ses bx du al p s).2 := by
  have hc := h.2.1
  unfold aNote
  split
  · exact WF_mono h
  next h1 =>
    have h1 := Classical.not_not.mp h1
    split
    · exact WF_mono h
    next h2 =>
      split
      · exact WF_mono h
      next h3 =>
        have h0 : cnt = 0 := by omega
        refine WF_score h h0 (okSc_addN h.1 h1.1 h1.2.1 h1.2.2 (by omega) (by omega)) (fun n a b => ?_)
        have := h.2.2.2.2.2.1 n a b
        simp only [fU]
        split <;> omega
theorem WF_way {t : Nat} {S : Sc} {cnt : Int} {hp ht : Int → Int} {ses : Int} {bx du : Int → Int} {al : Al8} (h : WF t S cnt hp ht ses bx al) (f g : Int) : WFs (t + 1) (aWay S cnt hp ht ses bx du al f g).2 := by
  have hc := h.2.1
  unfold aWay
  split
  · exact WF_mono h
  next h1 =>
    have h1 := Classical.not_not.mp h1
    split
    · exact WF_mono h
    · split
      · exact WF_mono h
      · have h0 : cnt = 0 := by omega
        exact WF_score h h0 (okSc_addW h.1 h1.1 h1.2.1 (by omega)) h.2.2.2.2.2.1
theorem WF_loop {t : Nat} {S : Sc} {cnt : Int} {hp ht : Int → Int} {ses : Int} {bx du : Int → Int} {al : Al8} (h : WF t S cnt hp ht ses bx al) (f g : Int) : WFs (t + 1) (aLoop S cnt hp ht ses bx du al f g).2 := by
  have hc := h.2.1
  unfold aLoop
  split
  · exact WF_mono h
  next h1 =>
    split
    · exact WF_mono h
    · have h0 : cnt = 0 := by omega
      exact WF_score h h0 (okSc_loop h.1 h1) h.2.2.2.2.2.1
theorem WF_cost {t : Nat} {S : Sc} {cnt : Int} {hp ht : Int → Int} {ses : Int} {bx du : Int → Int} {al : Al8} (h : WF t S cnt hp ht ses bx al) (w v : Int) : WFs (t + 1) (aCost S cnt hp ht ses bx du al w v).2 := by
  have hc := h.2.1
  unfold aCost
  by_cases h1 : (0 ≤ w ∧ w ≤ 4) ∧ (if w = 1 ∨ w = 2 then 1 else 0) ≤ v ∧ v ≤ 1000
  · rw [if_neg (fun q => q h1)]
    split
    · exact WF_mono h
    · have h0 : cnt = 0 := by omega
      exact WF_score h h0 (okSc_cost h.1 h1) h.2.2.2.2.2.1
  · rw [if_pos h1]
    exact WF_mono h
theorem WF_span {t : Nat} {S : Sc} {cnt : Int} {hp ht : Int → Int} {ses : Int} {bx du : Int → Int} {al : Al8} (h : WF t S cnt hp ht ses bx al) (s : Int) : WFs (t + 1) (aSpan S cnt hp ht ses bx du al s).2 := by
  have hc := h.2.1
  unfold aSpan
  split
  · exact WF_mono h
  next h1 =>
    have h1 := Classical.not_not.mp h1
    split
    · exact WF_mono h
    · have h0 : cnt = 0 := by omega
      exact WF_score h h0 (okSc_span h.1 h1) h.2.2.2.2.2.1
theorem WF_hear {t : Nat} {S : Sc} {cnt : Int} {hp ht : Int → Int} {ses : Int} {bx du : Int → Int} {al : Al8} (h : WF t S cnt hp ht ses bx al) (p s : Int) : WFs (t + 1) (aHear S cnt hp ht ses bx du al p s).2 := by
  have hc := h.2.1
  have hs0 := h.1.1
  unfold aHear
  by_cases h1 : (0 ≤ p ∧ p ≤ 127) ∧ (0 ≤ s ∧ s ≤ 10000000) ∧ (if cnt = 0 then 0 else ht (cnt - 1)) ≤ s
  case neg =>
    rw [if_pos h1]
    exact WF_mono h
  case pos =>
    rw [if_neg (fun q => q h1)]
    split
    · exact WF_mono h
    · split
      · exact WF_mono h
      · have h2 := WF_mono h
        refine ⟨h2.1, ⟨by simp only; omega, by simp only; omega⟩, fun _ => by simp only; omega, ⟨fun i a b => ?_, fun i j a b c => ?_⟩, h2.2.2.2.2.1, h2.2.2.2.2.2.1, fun q hq => by cases hq⟩
        · simp only at b ⊢
          unfold fU
          split
          · exact h1.2.1
          · exact h.2.2.2.1.1 i a (by omega)
        · simp only at c ⊢
          unfold fU
          by_cases hj : j = cnt
          · rw [if_pos hj]
            split
            · omega
            · have h3 := h1.2.2
              rw [if_neg (by omega)] at h3
              have := h.2.2.2.1.2 i (cnt - 1) a (by omega) (by omega)
              omega
          · rw [if_neg hj, if_neg (by omega)]
            exact h.2.2.2.1.2 i j a b (by omega)
theorem WF_cut {t : Nat} {S : Sc} {cnt : Int} {hp ht : Int → Int} {ses : Int} {bx du : Int → Int} {al : Al8} (h : WF t S cnt hp ht ses bx al) (n : Int) : WFs (t + 1) (aCut S cnt hp ht ses bx du al n).2 := by
  have hc := h.2.1
  unfold aCut
  split
  · exact WF_mono h
  next h1 =>
    have h1 := Classical.not_not.mp h1
    have h2 := WF_mono h
    exact ⟨h2.1, ⟨h1.1, by simp only; omega⟩, fun q => h2.2.2.1 (by simp only at q; omega), ⟨fun i a b => h.2.2.2.1.1 i a (by simp only at b; omega), fun i j a b c => h.2.2.2.1.2 i j a b (by simp only at c; omega)⟩, h2.2.2.2.2.1, h2.2.2.2.2.2.1, fun q hq => by cases hq⟩
theorem WF_end {t : Nat} {S : Sc} {cnt : Int} {hp ht : Int → Int} {ses : Int} {bx du : Int → Int} {al : Al8} (h : WF t S cnt hp ht ses bx al) : WFs (t + 1) (aEnd S cnt hp ht ses bx du al).2 := by
  have hs0 := h.1.1
  unfold aEnd
  split
  · exact WF_mono h
  · split
    · exact WF_mono h
    · have h2 := WF_mono h
      have h5 := h.2.2.2.2.1
      exact ⟨h2.1, ⟨by simp, by simp⟩, fun q => absurd q (by simp), ⟨fun i a b => by simp only at b; omega, fun i j a b c => by simp only at c; omega⟩, ⟨by simp only; omega, by simp only; omega⟩, fun n a b => eBD_in (q := (bx, du)) h.2.2.2.2.2.1 _ (by omega) n a b, fun q hq => by cases hq⟩
theorem WF_clear {t : Nat} {S : Sc} {cnt : Int} {hp ht : Int → Int} {ses : Int} {bx : Int → Int} {al : Al8} (h : WF t S cnt hp ht ses bx al) : WF (t + 1) (eS S) 0 hp ht 0 bx none :=
  ⟨okSc_eS S, by omega, fun q => absurd q (by omega), ⟨fun i a b => by omega, fun i j a b c => by omega⟩, by omega, h.2.2.2.2.2.1, fun q hq => by cases hq⟩
theorem WF_align {t : Nat} {S : Sc} {cnt : Int} {hp ht : Int → Int} {ses : Int} {bx : Int → Int} {al : Al8} (h : WF t S cnt hp ht ses bx al) {sum : Int} {ls : List St4} (ha : AlS S hp cnt sum ls) : WF (t + 1) S cnt hp ht ses bx (some (sum, ls)) := by
  have h2 := WF_mono h
  exact ⟨h2.1, h2.2.1, h2.2.2.1, h2.2.2.2.1, h2.2.2.2.2.1, h2.2.2.2.2.2.1, fun q hq => by cases hq; exact ha⟩
