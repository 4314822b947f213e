/-! the class's NEXT row -/
def scC (M : ra_M) : Sc := fun k j => match k with
  | 0 => if j = 0 then M 1 5 else if j = 1 then M 1 6 else if j = 2 then M 1 7 else if j = 3 then M 1 8 else if j = 4 then M 1 9 else 0
  | 1 => M 2 j
  | 2 => M 3 j
  | 3 => M 4 j
  | 4 => M 5 j
  | 5 => M 6 j
  | _ => 0
/-- the score's cells stay -/
def frS (M M2 : ra_M) : Prop := ∀ k, 1 ≤ k → k ≤ 6 → M2 k = M k
theorem scC_fr {M M2 : ra_M} (h : frS M M2) : scC M2 = scC M := by
  funext k j
  unfold scC
  rw [h 1 (by omega) (by omega), h 2 (by omega) (by omega), h 3 (by omega) (by omega), h 4 (by omega) (by omega), h 5 (by omega) (by omega), h 6 (by omega) (by omega)]
/-- of two heaps: only cells of the list differ -/
def frX (l : List Nat) (M M2 : ra_M) : Prop := ∀ k, k ∉ l → M2 k = M k
theorem frX_refl (l : List Nat) (M : ra_M) : frX l M M := fun _ _ => rfl
theorem frX_trans {l : List Nat} {M M1 M2 : ra_M} (h1 : frX l M M1) (h2 : frX l M1 M2) : frX l M M2 := fun k hk => (h2 k hk).trans (h1 k hk)
theorem frX_sub {l l2 : List Nat} {M M2 : ra_M} (h : frX l M M2) (hs : ∀ k ∈ l, k ∈ l2) : frX l2 M M2 := fun k hk => h k (fun q => hk (hs k q))
theorem frX_up {l : List Nat} {M M2 : ra_M} (h : frX l M M2) {k : Nat} (j z : Int) (hk : k ∈ l) : frX l M (up M2 k j z) := fun k2 h2 => by
  rw [up_k M2 j z (fun q => h2 (by rw [q]; exact hk))]
  exact h k2 h2
theorem frX_S {l : List Nat} {M M2 : ra_M} (h : frX l M M2) (hl : ∀ k ∈ l, k < 1 ∨ 6 < k) : frS M M2 := fun k h1 h2 => h k (fun q => by have := hl k q; omega)
/-- the row of NEXT holds the list -/
def NxL (M : ra_M) (l : List Eg) : Prop := M 10 5 = (l.length : Nat) ∧ ∀ (i : Nat) (e : Eg), l[i]? = some e → M 11 (i : Nat) = e.1 ∧ M 12 (i : Nat) = e.2.1 ∧ M 13 (i : Nat) = e.2.2
theorem NxL_fr {M M2 : ra_M} {l : List Eg} (h : NxL M l) (e1 : M2 10 = M 10) (e2 : M2 11 = M 11) (e3 : M2 12 = M 12) (e4 : M2 13 = M 13) : NxL M2 l := by
  unfold NxL
  rw [e1, e2, e3, e4]
  exact h

set_option maxRecDepth 20000 in
set_option maxHeartbeats 2000000 in
theorem t_nadd (d : Nat) (M : ra_M) (p t w : Int) (l : List Eg) (h1 : NxL M l) (h2 : l.length < 74) : Ex d m_X5_add [vR 10, vI p, vI t, vI w] M (fun r M2 => r = none ∧ NxL M2 (l ++ [(p, t, w)]) ∧ frX [10, 11, 12, 13] M M2) := by
  refine Ex_leaf (Nat.le_of_ble_eq_true rfl) (fun C K hK => ?_)
  show K 0 [some (vR 10), some (vI p), some (vI t), some (vI w)] [] M
  have hK : ra_Clo _ m_X5_add cX5_add _ K := hK
  have e1 := h1.1
  refine k_aln hK (q := 1)  dX5_add_0 rfl (z := 10) rfl (k_gI hK (q := 4) (z := M 10 5) 0 dX5_add_1 rfl rf_X5_28 rfl rfl rfl rfl (k_bp hK (q := 6)  dX5_add_4 rfl (by decide) ?_))
  refine k_clt hK (q := 9) (t := 10) dX5_add_6 rfl rfl (fun h6 => ?_) (fun h6 => ?_)
  · refine k_aln hK (q := 11)  dX5_add_10 rfl (z := 10) rfl (k_gR hK (q := 14) (r := 11) dX5_add_11 rfl rf_X5_9 rfl rfl (k_aln hK (q := 15)  dX5_add_14 rfl (z := 10) rfl (k_gI hK (q := 18) (z := M 10 5) 0 dX5_add_15 rfl rf_X5_28 rfl rfl rfl rfl (k_iln hK (q := 19)  dX5_add_18 rfl (z := p) rfl (k_ast hK (q := 20)  dX5_add_19 rfl rfl (by omega) ?_)))))
    refine k_aln hK (q := 21)  dX5_add_20 rfl (z := 10) rfl (k_gR hK (q := 24) (r := 12) dX5_add_21 rfl rf_X5_15 rfl rfl (k_aln hK (q := 25)  dX5_add_24 rfl (z := 10) rfl (k_gI hK (q := 28) (z := M 10 5) 0 dX5_add_25 rfl rf_X5_28 rfl rfl rfl rfl (k_iln hK (q := 29)  dX5_add_28 rfl (z := t) rfl (k_ast hK (q := 30)  dX5_add_29 rfl rfl (by omega) ?_)))))
    refine k_aln hK (q := 31)  dX5_add_30 rfl (z := 10) rfl (k_gR hK (q := 34) (r := 13) dX5_add_31 rfl rf_X5_18 rfl rfl (k_aln hK (q := 35)  dX5_add_34 rfl (z := 10) rfl (k_gI hK (q := 38) (z := M 10 5) 0 dX5_add_35 rfl rf_X5_28 rfl rfl rfl rfl (k_iln hK (q := 39)  dX5_add_38 rfl (z := w) rfl (k_ast hK (q := 40)  dX5_add_39 rfl rfl (by omega) ?_)))))
    refine k_aln hK (q := 41)  dX5_add_40 rfl (z := 10) rfl (k_dup hK (q := 42)  dX5_add_41 rfl rfl (k_gI hK (q := 45) (z := M 10 5) 0 dX5_add_42 rfl rf_X5_28 rfl rfl rfl rfl (k_ic hK (q := 46)  dX5_add_45 rfl (by decide) (k_add hK (q := 47)  dX5_add_46 rfl (z := (M 10 5) + 1) rfl (by omega) (k_pI hK (q := 50) (M2 := up (up (up (up M 11 (M 10 5) p) 12 (M 10 5) t) 13 (M 10 5) w) 10 5 ((M 10 5) + 1)) dX5_add_47 rfl rp_X5_28 rfl rfl rfl ?_)))))
    refine k_vr hK dX5_add_50 rfl ?_
    refine ⟨rfl, ⟨?_, fun i e hi => ?_⟩, ?_⟩
    · rw [up_same, e1, List.length_append]
      simp
    · by_cases hl : i < l.length
      · rw [List.getElem?_append_left hl] at hi
        have := h1.2 i e hi
        have hne : ((i : Nat) : Int) ≠ M 10 5 := by omega
        simp [up, hne, this]
      · have hil := (List.getElem?_eq_some_iff.mp hi).1
        simp at hil
        have hi2 : i = l.length := by omega
        subst hi2
        simp at hi
        subst hi
        simp [up, e1]
    · exact frX_up (frX_up (frX_up (frX_up (frX_refl _ _) _ _ (by decide)) _ _ (by decide)) _ _ (by decide)) _ _ (by decide)
  · exact absurd h6 (by omega)

theorem scC_e {M : ra_M} {S : Sc} (h : scC M = S) : M 1 5 = S 0 0 ∧ M 1 6 = S 0 1 ∧ M 1 7 = S 0 2 ∧ M 1 8 = S 0 3 ∧ M 1 9 = S 0 4 := by subst h; exact ⟨rfl, rfl, rfl, rfl, rfl⟩
theorem scC_a {M : ra_M} {S : Sc} (h : scC M = S) : M 2 = S 1 ∧ M 3 = S 2 ∧ M 4 = S 3 ∧ M 5 = S 4 ∧ M 6 = S 5 := by subst h; exact ⟨rfl, rfl, rfl, rfl, rfl⟩
/-- a note is there, as the class asks it -/
theorem thr_C {M : ra_M} {S : Sc} (h : scC M = S) (hS : okSc S) (n : Int) : ((if M 1 7 ≠ -1 then M 1 7 else 0) ≤ n ∧ n ≤ (if M 1 7 ≠ -1 then M 1 8 else M 1 5 - 1)) ↔ thr S n := by
  obtain ⟨e5, e6, e7, e8, e9⟩ := scC_e h
  rw [e5, e7, e8]
  have h1 := hS.2.2.1
  have h2 := hS.1
  constructor
  · intro h
    split at h <;> refine ⟨?_, ?_, ?_⟩ <;> omega
  · intro h
    split <;> omega

set_option maxRecDepth 20000 in
set_option maxHeartbeats 2000000 in
theorem layFrom_loop {d : Nat} {Q : Option ra_V → ra_M → Prop} {K : Nat → ra_L → List ra_V → ra_M → Prop} (hK : ra_Clo (Ex (d + 2)) m_X5_layFrom cX5_layFrom Q K) {S : Sc} {p : Int} (hS : okSc S) {M0 : ra_M} {l0 : List Eg}
    (hp2 : ∀ k : Int, 0 ≤ k → k < S 0 1 → S 3 k = p → thr S p) (hlen : ∀ k : Nat, k < (S 0 1).toNat → (S 3 (k : Nat) = p ∧ thr S p ∧ thr S (S 4 (k : Nat))) → l0.length + (wyl S p k).length < 74)
    (hQ : ∀ M2, frX [10, 11, 12, 13] M0 M2 → NxL M2 (l0 ++ (wyl S p (S 0 1).toNat).map (fun q => (p, q.1, q.2))) → Q none M2) :
    ∀ (n k : Nat) (M : ra_M) (b : Int), k + n = (S 0 1).toNat → scC M = S → frX [10, 11, 12, 13] M0 M → NxL M (l0 ++ (wyl S p k).map (fun q => (p, q.1, q.2))) → K 73 [some (vR 10), some (vI p), some (vI b), some (vI (k : Nat))] [] M := by
  intro n
  induction n with
  | zero =>
    intro k M b hk hs hf hn
    obtain ⟨e5, e6, e7, e8, e9⟩ := scC_e hs
    have hs1 := hS.2.1
    refine k_iln hK (q := 74)  dX5_layFrom_73 rfl (z := (k : Nat)) rfl (k_aln hK (q := 75)  dX5_layFrom_74 rfl (z := 10) rfl (k_gR hK (q := 78) (r := 1) dX5_layFrom_75 rfl rf_X5_24 rfl rfl (k_gI hK (q := 81) (z := M 1 6) 0 dX5_layFrom_78 rfl rf_X5_63 rfl rfl rfl rfl ?_)))
    refine k_cge hK (q := 84) (t := 145) dX5_layFrom_81 rfl rfl (fun h81 => ?_) (fun h81 => ?_)
    · refine k_vr hK dX5_layFrom_145 rfl ?_
      have hk2 : k = (S 0 1).toNat := by omega
      subst hk2
      exact hQ M hf hn
    · exact absurd h81 (by omega)
  | succ n ih =>
    intro k M b hk hs hf hn
    obtain ⟨e5, e6, e7, e8, e9⟩ := scC_e hs
    obtain ⟨a2, a3, a4, a5, a6⟩ := scC_a hs
    have hs0 := hS.1
    have hs1 := hS.2.1
    refine k_iln hK (q := 74)  dX5_layFrom_73 rfl (z := (k : Nat)) rfl (k_aln hK (q := 75)  dX5_layFrom_74 rfl (z := 10) rfl (k_gR hK (q := 78) (r := 1) dX5_layFrom_75 rfl rf_X5_24 rfl rfl (k_gI hK (q := 81) (z := M 1 6) 0 dX5_layFrom_78 rfl rf_X5_63 rfl rfl rfl rfl ?_)))
    refine k_cge hK (q := 84) (t := 145) dX5_layFrom_81 rfl rfl (fun h81 => ?_) (fun h81 => ?_)
    · exact absurd h81 (by omega)
    · refine k_aln hK (q := 85)  dX5_layFrom_84 rfl (z := 10) rfl (k_gR hK (q := 88) (r := 1) dX5_layFrom_85 rfl rf_X5_24 rfl rfl (k_gR hK (q := 91) (r := 4) dX5_layFrom_88 rfl rf_X5_66 rfl rfl (k_iln hK (q := 92)  dX5_layFrom_91 rfl (z := (k : Nat)) rfl (k_ald hK (q := 93)  dX5_layFrom_92 rfl (y := M 4 (k : Nat)) rfl (by omega) rfl (k_iln hK (q := 94)  dX5_layFrom_93 rfl (z := p) rfl ?_)))))
      refine k_cne hK (q := 97) (t := 139) dX5_layFrom_94 rfl rfl (fun h94 => ?_) (fun h94 => ?_)
      · have hnot : ¬ (S 3 (k : Nat) = p ∧ thr S p ∧ thr S (S 4 (k : Nat))) := by rw [← a4]; exact fun q => h94 q.1
        refine k_inc hK (q := 142)  dX5_layFrom_139 rfl (y := (k : Nat) + 1) (L2 := [some (vR 10), some (vI p), some (vI b), some (vI ((k : Nat) + 1))]) rfl rfl (by omega) rfl (k_goto hK (t := 73) dX5_layFrom_142 rfl ?_)
        exact ih (k + 1) M b (by omega) hs hf (by simp only [wyl]; rw [if_neg hnot, List.append_nil]; exact hn)
      · refine k_aln hK (q := 98)  dX5_layFrom_97 rfl (z := 10) rfl (k_gR hK (q := 101) (r := 1) dX5_layFrom_98 rfl rf_X5_24 rfl rfl (k_aln hK (q := 102)  dX5_layFrom_101 rfl (z := 10) rfl (k_gR hK (q := 105) (r := 1) dX5_layFrom_102 rfl rf_X5_24 rfl rfl (k_gR hK (q := 108) (r := 5) dX5_layFrom_105 rfl rf_X5_69 rfl rfl (k_iln hK (q := 109)  dX5_layFrom_108 rfl (z := (k : Nat)) rfl ?_)))))
        refine k_ald hK (q := 110)  dX5_layFrom_109 rfl (y := M 5 (k : Nat)) rfl (by omega) rfl ?_
        refine k_iv1I hK (q := 113) dX5_layFrom_110 rfl rm_X5_37 rfl rfl (Nat.le_of_ble_eq_true rfl) (t_isThereC _ M (M 5 (k : Nat)) (by omega)) ?_
        refine k_ifeq hK (q := 116) (t := 139) dX5_layFrom_113 rfl rfl (fun h113 => ?_) (fun h113 => ?_)
        · have h113 := bi_0.mp h113
          have h113 : ¬ thr S (M 5 (k : Nat)) := fun q => h113 ((thr_C hs hS _).mpr q)
          have hnot : ¬ (S 3 (k : Nat) = p ∧ thr S p ∧ thr S (S 4 (k : Nat))) := by rw [← a5]; exact fun q => h113 q.2.2
          refine k_inc hK (q := 142)  dX5_layFrom_139 rfl (y := (k : Nat) + 1) (L2 := [some (vR 10), some (vI p), some (vI b), some (vI ((k : Nat) + 1))]) rfl rfl (by omega) rfl (k_goto hK (t := 73) dX5_layFrom_142 rfl ?_)
          exact ih (k + 1) M b (by omega) hs hf (by simp only [wyl]; rw [if_neg hnot, List.append_nil]; exact hn)
        · have h113 := bi_1.mp h113
          have h113 : thr S (M 5 (k : Nat)) := (thr_C hs hS _).mp h113
          have hyes : S 3 (k : Nat) = p ∧ thr S p ∧ thr S (S 4 (k : Nat)) := by rw [← a4, ← a5]; exact ⟨by omega, hp2 (k : Nat) (by omega) (by omega) (by rw [← a4]; omega), h113⟩
          have hlen2 := hlen k (by omega) hyes
          refine k_aln hK (q := 117)  dX5_layFrom_116 rfl (z := 10) rfl (k_iln hK (q := 118)  dX5_layFrom_117 rfl (z := p) rfl (k_aln hK (q := 119)  dX5_layFrom_118 rfl (z := 10) rfl (k_gR hK (q := 122) (r := 1) dX5_layFrom_119 rfl rf_X5_24 rfl rfl (k_gR hK (q := 125) (r := 5) dX5_layFrom_122 rfl rf_X5_69 rfl rfl (k_iln hK (q := 126)  dX5_layFrom_125 rfl (z := (k : Nat)) rfl ?_)))))
          refine k_ald hK (q := 127)  dX5_layFrom_126 rfl (y := M 5 (k : Nat)) rfl (by omega) rfl (k_aln hK (q := 128)  dX5_layFrom_127 rfl (z := 10) rfl (k_gR hK (q := 131) (r := 1) dX5_layFrom_128 rfl rf_X5_24 rfl rfl (k_gR hK (q := 134) (r := 6) dX5_layFrom_131 rfl rf_X5_72 rfl rfl (k_ic hK (q := 135)  dX5_layFrom_134 rfl (by decide) (k_ald hK (q := 136)  dX5_layFrom_135 rfl (y := M 6 3) rfl (by omega) rfl ?_)))))
          refine k_iv3 hK (q := 139) dX5_layFrom_136 rfl rm_X5_49 rfl rfl (Nat.le_of_ble_eq_true rfl) (t_nadd _ M p (M 5 (k : Nat)) (M 6 3) _ hn (by simp; omega)) (fun r9 M5 h9 => ?_)
          obtain ⟨rfl, hn2, hf2⟩ := h9
          show K 139 [some (vR 10), some (vI p), some (vI b), some (vI (k : Nat))] [] M5
          refine k_inc hK (q := 142)  dX5_layFrom_139 rfl (y := (k : Nat) + 1) (L2 := [some (vR 10), some (vI p), some (vI b), some (vI ((k : Nat) + 1))]) rfl rfl (by omega) rfl (k_goto hK (t := 73) dX5_layFrom_142 rfl ?_)
          have hs5 : scC M5 = S := by rw [scC_fr (frX_S hf2 (by decide))]; exact hs
          refine ih (k + 1) M5 b (by omega) hs5 (frX_trans hf hf2) ?_
          simp only [wyl]
          rw [if_pos hyes, List.map_append, ← List.append_assoc]
          have e7 : (p, M 5 (k : Nat), M 6 3) = (p, S 4 (k : Nat), S 5 3) := by rw [a5, a6]
          rw [e7] at hn2
          exact hn2

theorem wyl_lt (S : Sc) (p : Int) {k m : Nat} (h : k < m) (hc : S 3 (k : Nat) = p ∧ thr S p ∧ thr S (S 4 (k : Nat))) : (wyl S p k).length < (wyl S p m).length := by
  induction h with
  | refl => simp only [wyl]; rw [if_pos hc]; simp
  | step _ ih => simp only [wyl, List.length_append]; omega

set_option maxRecDepth 20000 in
set_option maxHeartbeats 2000000 in
theorem t_layFrom (d : Nat) (M : ra_M) (p : Int) (S : Sc) (l : List Eg) (hs : scC M = S) (hS : okSc S) (hp : p = -1 ∨ thr S p) (hn : NxL M l) (hlen : l.length + (nx S p).length ≤ 74) : Ex (d + 3) m_X5_layFrom [vR 10, vI p] M (fun r M2 => r = none ∧ NxL M2 (l ++ (nx S p).map (fun q => (p, q.1, q.2))) ∧ frX [10, 11, 12, 13] M M2) := by
  refine Ex_call (Nat.le_of_ble_eq_true rfl) (fun K hK => ?_)
  show K 0 [some (vR 10), some (vI p), none, none] [] M
  have hK : ra_Clo _ m_X5_layFrom cX5_layFrom _ K := hK
  obtain ⟨e5, e6, e7, e8, e9⟩ := scC_e hs
  have hs0 := hS.1
  have hs1 := hS.2.1
  have hs2 := hS.2.2.1
  have hpb : -1 ≤ p ∧ p < 60 := by rcases hp with h | h <;> omega
  have hp2 : ∀ k : Int, 0 ≤ k → k < S 0 1 → S 3 k = p → thr S p := by
    intro k hk hk2 he
    rcases hp with h | h
    · have := (hS.2.2.2.2.2.2.1 k hk hk2).1.1
      omega
    · exact h
  have hnx : (nx S p).length = (nx0 S p).length + ((nx1 S p).length + (wyl S p (S 0 1).toNat).length) := by simp [nx]
  have hlen2 : ∀ k : Nat, k < (S 0 1).toNat → (S 3 (k : Nat) = p ∧ thr S p ∧ thr S (S 4 (k : Nat))) → (l ++ (nx0 S p ++ nx1 S p).map (fun q => (p, q.1, q.2))).length + (wyl S p k).length < 74 := by
    intro k hk hc
    have hw := wyl_lt S p hk hc
    simp
    omega
  have hQ2 : ∀ M2, frX [10, 11, 12, 13] M M2 → NxL M2 ((l ++ (nx0 S p ++ nx1 S p).map (fun q => (p, q.1, q.2))) ++ (wyl S p (S 0 1).toNat).map (fun q => (p, q.1, q.2))) → (fun (r : Option ra_V) M2 => r = none ∧ NxL M2 (l ++ (nx S p).map (fun q => (p, q.1, q.2))) ∧ frX [10, 11, 12, 13] M M2) none M2 := by
    intro M2 h1 h2
    refine ⟨rfl, ?_, h1⟩
    simpa [nx] using h2
  refine k_iln hK (q := 1)  dX5_layFrom_0 rfl (z := p) rfl (k_ic hK (q := 2)  dX5_layFrom_1 rfl (by decide) ?_)
  refine k_cne hK (q := 5) (t := 15) dX5_layFrom_2 rfl rfl (fun h2 => ?_) (fun h2 => ?_)
  · refine k_iln hK (q := 16)  dX5_layFrom_15 rfl (z := p) rfl (k_ic hK (q := 17)  dX5_layFrom_16 rfl (by decide) (k_add hK (q := 18)  dX5_layFrom_17 rfl (z := p + 1) rfl (by omega) (k_isn hK (q := 19)  dX5_layFrom_18 rfl (L2 := [some (vR 10), some (vI p), some (vI (p + 1)), none]) (Nat.le_of_ble_eq_true rfl) rfl ?_)))
    have hb : (p + 1) = bhd S p := by unfold bhd; rw [if_pos (by omega)]
    rw [hb]
    have J71 : ∀ M1, scC M1 = S → frX [10, 11, 12, 13] M M1 → NxL M1 (l ++ (nx0 S p ++ nx1 S p).map (fun q => (p, q.1, q.2))) → K 71 [some (vR 10), some (vI p), some (vI (bhd S p)), none] [] M1 := by
      intro M1 hs1 hf1 hn1
      refine k_ic hK (q := 72)  dX5_layFrom_71 rfl (by decide) (k_isn hK (q := 73)  dX5_layFrom_72 rfl (L2 := [some (vR 10), some (vI p), some (vI (bhd S p)), some (vI 0)]) (Nat.le_of_ble_eq_true rfl) rfl ?_)
      exact layFrom_loop hK hS hp2 hlen2 hQ2 (S 0 1).toNat 0 M1 _ (by omega) hs1 hf1 (by simpa [wyl] using hn1)
    have J37 : ∀ M1, scC M1 = S → frX [10, 11, 12, 13] M M1 → NxL M1 (l ++ (nx0 S p).map (fun q => (p, q.1, q.2))) → K 37 [some (vR 10), some (vI p), some (vI (bhd S p)), none] [] M1 := by
      intro M1 hs1 hf1 hn1
      obtain ⟨e5, e6, e7, e8, e9⟩ := scC_e hs1
      refine k_aln hK (q := 38)  dX5_layFrom_37 rfl (z := 10) rfl (k_gR hK (q := 41) (r := 1) dX5_layFrom_38 rfl rf_X5_24 rfl rfl ?_)
      refine k_iv0I hK (q := 44) dX5_layFrom_41 rfl rm_X5_53 rfl rfl (Nat.le_of_ble_eq_true rfl) (t_hasLoop _ M1) ?_
      refine k_ifeq hK (q := 47) (t := 71) dX5_layFrom_44 rfl rfl (fun h44 => ?_) (fun h44 => ?_)
      · have h44 := bi_0.mp h44
        have hno : nx1 S p = [] := by unfold nx1; rw [if_neg (by omega)]
        exact J71 M1 hs1 hf1 (by rw [hno, List.append_nil]; exact hn1)
      · have h44 := bi_1.mp h44
        refine k_iln hK (q := 48)  dX5_layFrom_47 rfl (z := p) rfl (k_aln hK (q := 49)  dX5_layFrom_48 rfl (z := 10) rfl (k_gR hK (q := 52) (r := 1) dX5_layFrom_49 rfl rf_X5_24 rfl rfl (k_gI hK (q := 55) (z := M1 1 8) 0 dX5_layFrom_52 rfl rf_X5_57 rfl rfl rfl rfl ?_)))
        refine k_cne hK (q := 58) (t := 71) dX5_layFrom_55 rfl rfl (fun h55 => ?_) (fun h55 => ?_)
        · have hno : nx1 S p = [] := by unfold nx1; rw [if_neg (by omega)]
          exact J71 M1 hs1 hf1 (by rw [hno, List.append_nil]; exact hn1)
        · have hyes : nx1 S p = [(S 0 2, 0)] := by unfold nx1; rw [if_pos (by omega)]
          have hl1 : (nx1 S p).length = 1 := by rw [hyes]; rfl
          refine k_aln hK (q := 59)  dX5_layFrom_58 rfl (z := 10) rfl (k_iln hK (q := 60)  dX5_layFrom_59 rfl (z := p) rfl (k_aln hK (q := 61)  dX5_layFrom_60 rfl (z := 10) rfl (k_gR hK (q := 64) (r := 1) dX5_layFrom_61 rfl rf_X5_24 rfl rfl (k_gI hK (q := 67) (z := M1 1 7) 0 dX5_layFrom_64 rfl rf_X5_60 rfl rfl rfl rfl (k_ic hK (q := 68)  dX5_layFrom_67 rfl (by decide) ?_)))))
          refine k_iv3 hK (q := 71) dX5_layFrom_68 rfl rm_X5_49 rfl rfl (Nat.le_of_ble_eq_true rfl) (t_nadd _ M1 p (M1 1 7) 0 _ hn1 (by rw [hnx] at hlen; simp; omega)) (fun r9 M5 h9 => ?_)
          obtain ⟨rfl, hn2, hf2⟩ := h9
          show K 71 [some (vR 10), some (vI p), some (vI (bhd S p)), none] [] M5
          refine J71 M5 (by rw [scC_fr (frX_S hf2 (by decide))]; exact hs1) (frX_trans hf1 hf2) ?_
          rw [hyes, List.map_append, ← List.append_assoc]
          rw [e7] at hn2
          exact hn2
    refine k_aln hK (q := 20)  dX5_layFrom_19 rfl (z := 10) rfl (k_gR hK (q := 23) (r := 1) dX5_layFrom_20 rfl rf_X5_24 rfl rfl (k_iln hK (q := 24)  dX5_layFrom_23 rfl (z := (bhd S p)) rfl ?_))
    refine k_iv1I hK (q := 27) dX5_layFrom_24 rfl rm_X5_37 rfl rfl (Nat.le_of_ble_eq_true rfl) (t_isThereC _ M (bhd S p) (by omega)) ?_
    refine k_ifeq hK (q := 30) (t := 37) dX5_layFrom_27 rfl rfl (fun h27 => ?_) (fun h27 => ?_)
    · have h27 := bi_0.mp h27
      have hB : ¬ thr S (bhd S p) := fun q => h27 ((thr_C hs hS _).mpr q)
      have hno : nx0 S p = [] := by unfold nx0; rw [if_neg hB]
      exact J37 M hs (frX_refl _ _) (by rw [hno]; simpa using hn)
    · have h27 := bi_1.mp h27
      have hB : thr S (bhd S p) := (thr_C hs hS _).mp h27
      have hyes : nx0 S p = [(bhd S p, 0)] := by unfold nx0; rw [if_pos hB]
      have hl1 : (nx0 S p).length = 1 := by rw [hyes]; rfl
      refine k_aln hK (q := 31)  dX5_layFrom_30 rfl (z := 10) rfl (k_iln hK (q := 32)  dX5_layFrom_31 rfl (z := p) rfl (k_iln hK (q := 33)  dX5_layFrom_32 rfl (z := (bhd S p)) rfl (k_ic hK (q := 34)  dX5_layFrom_33 rfl (by decide) ?_)))
      refine k_iv3 hK (q := 37) dX5_layFrom_34 rfl rm_X5_49 rfl rfl (Nat.le_of_ble_eq_true rfl) (t_nadd _ M p (bhd S p) 0 _ hn (by rw [hnx] at hlen; omega)) (fun r9 M5 h9 => ?_)
      obtain ⟨rfl, hn2, hf2⟩ := h9
      show K 37 [some (vR 10), some (vI p), some (vI (bhd S p)), none] [] M5
      refine J37 M5 (by rw [scC_fr (frX_S hf2 (by decide))]; exact hs) hf2 ?_
      rw [hyes]
      exact hn2
  · refine k_aln hK (q := 6)  dX5_layFrom_5 rfl (z := 10) rfl (k_gR hK (q := 9) (r := 1) dX5_layFrom_6 rfl rf_X5_24 rfl rfl ?_)
    refine k_iv0I hK (q := 12) dX5_layFrom_9 rfl rm_X5_45 rfl rfl (Nat.le_of_ble_eq_true rfl) (t_firstThere _ M) ?_
    refine k_goto hK (t := 18) dX5_layFrom_12 rfl (k_isn hK (q := 19)  dX5_layFrom_18 rfl (L2 := [some (vR 10), some (vI p), some (vI (if M 1 7 ≠ -1 then M 1 7 else 0)), none]) (Nat.le_of_ble_eq_true rfl) rfl ?_)
    have hb : (if M 1 7 ≠ -1 then M 1 7 else 0) = bhd S p := by unfold bhd; split <;> (first | omega | (split <;> omega))
    rw [hb]
    have J71 : ∀ M1, scC M1 = S → frX [10, 11, 12, 13] M M1 → NxL M1 (l ++ (nx0 S p ++ nx1 S p).map (fun q => (p, q.1, q.2))) → K 71 [some (vR 10), some (vI p), some (vI (bhd S p)), none] [] M1 := by
      intro M1 hs1 hf1 hn1
      refine k_ic hK (q := 72)  dX5_layFrom_71 rfl (by decide) (k_isn hK (q := 73)  dX5_layFrom_72 rfl (L2 := [some (vR 10), some (vI p), some (vI (bhd S p)), some (vI 0)]) (Nat.le_of_ble_eq_true rfl) rfl ?_)
      exact layFrom_loop hK hS hp2 hlen2 hQ2 (S 0 1).toNat 0 M1 _ (by omega) hs1 hf1 (by simpa [wyl] using hn1)
    have J37 : ∀ M1, scC M1 = S → frX [10, 11, 12, 13] M M1 → NxL M1 (l ++ (nx0 S p).map (fun q => (p, q.1, q.2))) → K 37 [some (vR 10), some (vI p), some (vI (bhd S p)), none] [] M1 := by
      intro M1 hs1 hf1 hn1
      obtain ⟨e5, e6, e7, e8, e9⟩ := scC_e hs1
      refine k_aln hK (q := 38)  dX5_layFrom_37 rfl (z := 10) rfl (k_gR hK (q := 41) (r := 1) dX5_layFrom_38 rfl rf_X5_24 rfl rfl ?_)
      refine k_iv0I hK (q := 44) dX5_layFrom_41 rfl rm_X5_53 rfl rfl (Nat.le_of_ble_eq_true rfl) (t_hasLoop _ M1) ?_
      refine k_ifeq hK (q := 47) (t := 71) dX5_layFrom_44 rfl rfl (fun h44 => ?_) (fun h44 => ?_)
      · have h44 := bi_0.mp h44
        have hno : nx1 S p = [] := by unfold nx1; rw [if_neg (by omega)]
        exact J71 M1 hs1 hf1 (by rw [hno, List.append_nil]; exact hn1)
      · have h44 := bi_1.mp h44
        refine k_iln hK (q := 48)  dX5_layFrom_47 rfl (z := p) rfl (k_aln hK (q := 49)  dX5_layFrom_48 rfl (z := 10) rfl (k_gR hK (q := 52) (r := 1) dX5_layFrom_49 rfl rf_X5_24 rfl rfl (k_gI hK (q := 55) (z := M1 1 8) 0 dX5_layFrom_52 rfl rf_X5_57 rfl rfl rfl rfl ?_)))
        refine k_cne hK (q := 58) (t := 71) dX5_layFrom_55 rfl rfl (fun h55 => ?_) (fun h55 => ?_)
        · have hno : nx1 S p = [] := by unfold nx1; rw [if_neg (by omega)]
          exact J71 M1 hs1 hf1 (by rw [hno, List.append_nil]; exact hn1)
        · have hyes : nx1 S p = [(S 0 2, 0)] := by unfold nx1; rw [if_pos (by omega)]
          have hl1 : (nx1 S p).length = 1 := by rw [hyes]; rfl
          refine k_aln hK (q := 59)  dX5_layFrom_58 rfl (z := 10) rfl (k_iln hK (q := 60)  dX5_layFrom_59 rfl (z := p) rfl (k_aln hK (q := 61)  dX5_layFrom_60 rfl (z := 10) rfl (k_gR hK (q := 64) (r := 1) dX5_layFrom_61 rfl rf_X5_24 rfl rfl (k_gI hK (q := 67) (z := M1 1 7) 0 dX5_layFrom_64 rfl rf_X5_60 rfl rfl rfl rfl (k_ic hK (q := 68)  dX5_layFrom_67 rfl (by decide) ?_)))))
          refine k_iv3 hK (q := 71) dX5_layFrom_68 rfl rm_X5_49 rfl rfl (Nat.le_of_ble_eq_true rfl) (t_nadd _ M1 p (M1 1 7) 0 _ hn1 (by rw [hnx] at hlen; simp; omega)) (fun r9 M5 h9 => ?_)
          obtain ⟨rfl, hn2, hf2⟩ := h9
          show K 71 [some (vR 10), some (vI p), some (vI (bhd S p)), none] [] M5
          refine J71 M5 (by rw [scC_fr (frX_S hf2 (by decide))]; exact hs1) (frX_trans hf1 hf2) ?_
          rw [hyes, List.map_append, ← List.append_assoc]
          rw [e7] at hn2
          exact hn2
    refine k_aln hK (q := 20)  dX5_layFrom_19 rfl (z := 10) rfl (k_gR hK (q := 23) (r := 1) dX5_layFrom_20 rfl rf_X5_24 rfl rfl (k_iln hK (q := 24)  dX5_layFrom_23 rfl (z := (bhd S p)) rfl ?_))
    refine k_iv1I hK (q := 27) dX5_layFrom_24 rfl rm_X5_37 rfl rfl (Nat.le_of_ble_eq_true rfl) (t_isThereC _ M (bhd S p) (by omega)) ?_
    refine k_ifeq hK (q := 30) (t := 37) dX5_layFrom_27 rfl rfl (fun h27 => ?_) (fun h27 => ?_)
    · have h27 := bi_0.mp h27
      have hB : ¬ thr S (bhd S p) := fun q => h27 ((thr_C hs hS _).mpr q)
      have hno : nx0 S p = [] := by unfold nx0; rw [if_neg hB]
      exact J37 M hs (frX_refl _ _) (by rw [hno]; simpa using hn)
    · have h27 := bi_1.mp h27
      have hB : thr S (bhd S p) := (thr_C hs hS _).mp h27
      have hyes : nx0 S p = [(bhd S p, 0)] := by unfold nx0; rw [if_pos hB]
      have hl1 : (nx0 S p).length = 1 := by rw [hyes]; rfl
      refine k_aln hK (q := 31)  dX5_layFrom_30 rfl (z := 10) rfl (k_iln hK (q := 32)  dX5_layFrom_31 rfl (z := p) rfl (k_iln hK (q := 33)  dX5_layFrom_32 rfl (z := (bhd S p)) rfl (k_ic hK (q := 34)  dX5_layFrom_33 rfl (by decide) ?_)))
      refine k_iv3 hK (q := 37) dX5_layFrom_34 rfl rm_X5_49 rfl rfl (Nat.le_of_ble_eq_true rfl) (t_nadd _ M p (bhd S p) 0 _ hn (by rw [hnx] at hlen; omega)) (fun r9 M5 h9 => ?_)
      obtain ⟨rfl, hn2, hf2⟩ := h9
      show K 37 [some (vR 10), some (vI p), some (vI (bhd S p)), none] [] M5
      refine J37 M5 (by rw [scC_fr (frX_S hf2 (by decide))]; exact hs) hf2 ?_
      rw [hyes]
      exact hn2
