/-! the reference: its score, its frames, NEXT -/
def scM (M : ra_M) : Sc := fun k j => match k with
  | 0 => if j = 0 then M 32 4 else if j = 1 then M 32 7 else if j = 2 then M 32 8 else if j = 3 then M 32 9 else if j = 4 then M 32 11 else 0
  | 1 => M 33 j
  | 2 => M 34 j
  | 3 => M 37 j
  | 4 => M 38 j
  | 5 => M 39 j
  | _ => 0
/-- only these cells, and of the object's fields only these, differ -/
def frM (l : List Nat) (fs : List Int) (M M2 : ra_M) : Prop := (∀ k, k ≠ 32 → k ∉ l → M2 k = M k) ∧ ∀ j, j ∉ fs → M2 32 j = M 32 j
theorem frM_refl (l : List Nat) (fs : List Int) (M : ra_M) : frM l fs M M := ⟨fun _ _ _ => rfl, fun _ _ => rfl⟩
theorem frM_trans {l : List Nat} {fs : List Int} {M M1 M2 : ra_M} (h1 : frM l fs M M1) (h2 : frM l fs M1 M2) : frM l fs M M2 := ⟨fun k a b => (h2.1 k a b).trans (h1.1 k a b), fun j a => (h2.2 j a).trans (h1.2 j a)⟩
theorem frM_sub {l l2 : List Nat} {fs fs2 : List Int} {M M2 : ra_M} (h : frM l fs M M2) (h1 : ∀ k ∈ l, k ∈ l2) (h2 : ∀ j ∈ fs, j ∈ fs2) : frM l2 fs2 M M2 := ⟨fun k a b => h.1 k a (fun q => b (h1 k q)), fun j a => h.2 j (fun q => a (h2 j q))⟩
theorem frM_up {l : List Nat} {fs : List Int} {M M2 : ra_M} (h : frM l fs M M2) {k : Nat} (j z : Int) (hk : k ∈ l) (hn : k ≠ 32) : frM l fs M (up M2 k j z) := ⟨fun k2 a b => by rw [up_k M2 j z (fun q => b (by rw [q]; exact hk))]; exact h.1 k2 a b, fun j2 a => by rw [up_k M2 j z (fun q => hn q.symm)]; exact h.2 j2 a⟩
theorem frM_fd {l : List Nat} {fs : List Int} {M M2 : ra_M} (h : frM l fs M M2) {j : Int} (z : Int) (hj : j ∈ fs) : frM l fs M (up M2 32 j z) := ⟨fun k2 a b => by rw [up_k M2 j z a]; exact h.1 k2 a b, fun j2 a => by rw [up_j _ _ (fun q => a (by rw [q]; exact hj))]; exact h.2 j2 a⟩
theorem scM_fr {l : List Nat} {fs : List Int} {M M2 : ra_M} (h : frM l fs M M2) (hl : ∀ k ∈ l, k ≠ 33 ∧ k ≠ 34 ∧ k ≠ 37 ∧ k ≠ 38 ∧ k ≠ 39) (hfs : ∀ j ∈ fs, j ≠ 4 ∧ j ≠ 7 ∧ j ≠ 8 ∧ j ≠ 9 ∧ j ≠ 11) : scM M2 = scM M := by
  funext k j
  unfold scM
  rw [h.2 4 (fun q => (hfs 4 q).1 rfl), h.2 7 (fun q => (hfs 7 q).2.1 rfl), h.2 8 (fun q => (hfs 8 q).2.2.1 rfl), h.2 9 (fun q => (hfs 9 q).2.2.2.1 rfl), h.2 11 (fun q => (hfs 11 q).2.2.2.2 rfl), h.1 33 (by decide) (fun q => (hl 33 q).1 rfl), h.1 34 (by decide) (fun q => (hl 34 q).2.1 rfl), h.1 37 (by decide) (fun q => (hl 37 q).2.2.1 rfl), h.1 38 (by decide) (fun q => (hl 38 q).2.2.2.1 rfl), h.1 39 (by decide) (fun q => (hl 39 q).2.2.2.2 rfl)]
theorem scM_e {M : ra_M} {S : Sc} (h : scM M = S) : M 32 4 = S 0 0 ∧ M 32 7 = S 0 1 ∧ M 32 8 = S 0 2 ∧ M 32 9 = S 0 3 ∧ M 32 11 = S 0 4 := by subst h; exact ⟨rfl, rfl, rfl, rfl, rfl⟩
theorem scM_a {M : ra_M} {S : Sc} (h : scM M = S) : M 33 = S 1 ∧ M 34 = S 2 ∧ M 37 = S 3 ∧ M 38 = S 4 ∧ M 39 = S 5 := by subst h; exact ⟨rfl, rfl, rfl, rfl, rfl⟩
theorem thr_M {M : ra_M} {S : Sc} (h : scM M = S) (n : Int) : (0 ≤ n ∧ n < M 32 4 ∧ (M 32 8 < 0 ∨ (M 32 8 ≤ n ∧ n ≤ M 32 9))) ↔ thr S n := by
  obtain ⟨e5, e6, e7, e8, e9⟩ := scM_e h
  rw [e5, e7, e8]
def NxM (M : ra_M) (l : List (Int × Int)) : Prop := M 32 25 = (l.length : Nat) ∧ ∀ (i : Nat) (q : Int × Int), l[i]? = some q → M 47 (i : Nat) = q.1 ∧ M 48 (i : Nat) = q.2
theorem NxM_f {M M2 : ra_M} {l : List (Int × Int)} (h : NxM M l) (h1 : M2 32 25 = M 32 25) (h2 : M2 47 = M 47) (h3 : M2 48 = M 48) : NxM M2 l := by
  unfold NxM at *
  rw [h1, h2, h3]
  exact h

set_option maxRecDepth 20000 in
set_option maxHeartbeats 2000000 in
theorem xm_lay (d : Nat) (M : ra_M) (n c : Int) (l : List (Int × Int)) (h1 : NxM M l) (h2 : l.length < 14) : Ex d m_X8_lay [vR 32, vI n, vI c] M (fun r M2 => r = none ∧ NxM M2 (l ++ [(n, c)]) ∧ frM [47, 48] [25] M M2) := by
  refine Ex_leaf (Nat.le_of_ble_eq_true rfl) (fun C K hK => ?_)
  show K 0 [some (vR 32), some (vI n), some (vI c)] [] M
  have hK : ra_Clo _ m_X8_lay cX8_lay _ K := hK
  have e1 := h1.1
  refine k_aln hK (q := 1)  dX8_lay_0 rfl (z := 32) rfl (k_gR hK (q := 4) (r := 47) dX8_lay_1 rfl rf_X8_59 rfl rfl (k_aln hK (q := 5)  dX8_lay_4 rfl (z := 32) rfl (k_gI hK (q := 8) (z := M 32 25) 0 dX8_lay_5 rfl rf_X8_112 rfl rfl rfl rfl (k_iln hK (q := 9)  dX8_lay_8 rfl (z := n) rfl (k_ast hK (q := 10)  dX8_lay_9 rfl rfl (by omega) ?_)))))
  refine k_aln hK (q := 11)  dX8_lay_10 rfl (z := 32) rfl (k_gR hK (q := 14) (r := 48) dX8_lay_11 rfl rf_X8_62 rfl rfl (k_aln hK (q := 15)  dX8_lay_14 rfl (z := 32) rfl (k_gI hK (q := 18) (z := M 32 25) 0 dX8_lay_15 rfl rf_X8_112 rfl rfl rfl rfl (k_iln hK (q := 19)  dX8_lay_18 rfl (z := c) rfl (k_ast hK (q := 20)  dX8_lay_19 rfl rfl (by omega) ?_)))))
  refine k_aln hK (q := 21)  dX8_lay_20 rfl (z := 32) rfl (k_dup hK (q := 22)  dX8_lay_21 rfl rfl (k_gI hK (q := 25) (z := M 32 25) 0 dX8_lay_22 rfl rf_X8_112 rfl rfl rfl rfl (k_ic hK (q := 26)  dX8_lay_25 rfl (by decide) (k_add hK (q := 27)  dX8_lay_26 rfl (z := (M 32 25) + 1) rfl (by omega) (k_pI hK (q := 30) (M2 := up (up (up M 47 (M 32 25) n) 48 (M 32 25) c) 32 25 ((M 32 25) + 1)) dX8_lay_27 rfl rp_X8_112 rfl rfl rfl ?_)))))
  refine k_vr hK dX8_lay_30 rfl ?_
  refine ⟨rfl, ⟨?_, fun i e hi => ?_⟩, ?_⟩
  · rw [up_same, e1, List.length_append]
    simp
  · by_cases hl : i < l.length
    · rw [List.getElem?_append_left hl] at hi
      have := h1.2 i e hi
      have hne : ((i : Nat) : Int) ≠ M 32 25 := by omega
      simp [up, hne, this]
    · have hil := (List.getElem?_eq_some_iff.mp hi).1
      simp at hil
      have hi2 : i = l.length := by omega
      subst hi2
      simp at hi
      subst hi
      simp [up, e1]
  · exact frM_fd (frM_up (frM_up (frM_refl _ _ _) _ _ (by decide) (by decide)) _ _ (by decide) (by decide)) _ (by decide)

set_option maxRecDepth 20000 in
set_option maxHeartbeats 2000000 in
theorem nextsOf_loop {d : Nat} {Q : Option ra_V → ra_M → Prop} {K : Nat → ra_L → List ra_V → ra_M → Prop} (hK : ra_Clo (Ex d) m_X8_nextsOf cX8_nextsOf Q K) {S : Sc} {p : Int} (hS : okSc S) {M0 : ra_M} {l0 : List (Int × Int)}
    (hlen : ∀ k : Nat, k < (S 0 1).toNat → (S 3 (k : Nat) = p ∧ thr S p ∧ thr S (S 4 (k : Nat))) → l0.length + (wyl S p k).length < 14)
    (hQ : ∀ M2, frM [47, 48] [25] M0 M2 → NxM M2 (l0 ++ (wyl S p (S 0 1).toNat)) → Q none M2) :
    ∀ (n k : Nat) (M : ra_M) (b : Int), k + n = (S 0 1).toNat → scM M = S → frM [47, 48] [25] M0 M → NxM M (l0 ++ (wyl S p k)) → K 71 [some (vR 32), some (vI p), some (vI b), some (vI (k : Nat))] [] M := by
  intro n
  induction n with
  | zero =>
    intro k M b hk hs hf hn
    obtain ⟨e5, e6, e7, e8, e9⟩ := scM_e hs
    have hs1 := hS.2.1
    refine k_iln hK (q := 72)  dX8_nextsOf_71 rfl (z := (k : Nat)) rfl (k_aln hK (q := 73)  dX8_nextsOf_72 rfl (z := 32) rfl (k_gI hK (q := 76) (z := M 32 7) 0 dX8_nextsOf_73 rfl rf_X8_89 rfl rfl rfl rfl ?_))
    refine k_cge hK (q := 79) (t := 132) dX8_nextsOf_76 rfl rfl (fun h76 => ?_) (fun h76 => ?_)
    · refine k_vr hK dX8_nextsOf_132 rfl ?_
      have hk2 : k = (S 0 1).toNat := by omega
      subst hk2
      exact hQ M hf hn
    · exact absurd h76 (by omega)
  | succ n ih =>
    intro k M b hk hs hf hn
    obtain ⟨e5, e6, e7, e8, e9⟩ := scM_e hs
    obtain ⟨a2, a3, a4, a5, a6⟩ := scM_a hs
    have hs0 := hS.1
    have hs1 := hS.2.1
    refine k_iln hK (q := 72)  dX8_nextsOf_71 rfl (z := (k : Nat)) rfl (k_aln hK (q := 73)  dX8_nextsOf_72 rfl (z := 32) rfl (k_gI hK (q := 76) (z := M 32 7) 0 dX8_nextsOf_73 rfl rf_X8_89 rfl rfl rfl rfl ?_))
    refine k_cge hK (q := 79) (t := 132) dX8_nextsOf_76 rfl rfl (fun h76 => ?_) (fun h76 => ?_)
    · exact absurd h76 (by omega)
    · refine k_aln hK (q := 80)  dX8_nextsOf_79 rfl (z := 32) rfl (k_gR hK (q := 83) (r := 37) dX8_nextsOf_80 rfl rf_X8_22 rfl rfl (k_iln hK (q := 84)  dX8_nextsOf_83 rfl (z := (k : Nat)) rfl (k_ald hK (q := 85)  dX8_nextsOf_84 rfl (y := M 37 (k : Nat)) rfl (by omega) rfl (k_iln hK (q := 86)  dX8_nextsOf_85 rfl (z := p) rfl ?_))))
      refine k_cne hK (q := 89) (t := 126) dX8_nextsOf_86 rfl rfl (fun h86 => ?_) (fun h86 => ?_)
      · have hnot : ¬ (S 3 (k : Nat) = p ∧ thr S p ∧ thr S (S 4 (k : Nat))) := by rw [← a4]; exact fun q => h86 q.1
        refine k_inc hK (q := 129)  dX8_nextsOf_126 rfl (y := (k : Nat) + 1) (L2 := [some (vR 32), some (vI p), some (vI b), some (vI ((k : Nat) + 1))]) rfl rfl (by omega) rfl (k_goto hK (t := 71) dX8_nextsOf_129 rfl ?_)
        exact ih (k + 1) M b (by omega) hs hf (by simp only [wyl]; rw [if_neg hnot, List.append_nil]; exact hn)
      · refine k_aln hK (q := 90)  dX8_nextsOf_89 rfl (z := 32) rfl (k_iln hK (q := 91)  dX8_nextsOf_90 rfl (z := p) rfl ?_)
        refine k_iv1I hK (q := 94) dX8_nextsOf_91 rfl rm_X8_115 rfl rfl (Nat.le_of_ble_eq_true rfl) (t_isThere _ M p) ?_
        refine k_ifeq hK (q := 97) (t := 126) dX8_nextsOf_94 rfl rfl (fun h94 => ?_) (fun h94 => ?_)
        · have h94 := bi_0.mp h94
          have hnot : ¬ (S 3 (k : Nat) = p ∧ thr S p ∧ thr S (S 4 (k : Nat))) := fun q => h94 ((thr_M hs _).mpr q.2.1)
          refine k_inc hK (q := 129)  dX8_nextsOf_126 rfl (y := (k : Nat) + 1) (L2 := [some (vR 32), some (vI p), some (vI b), some (vI ((k : Nat) + 1))]) rfl rfl (by omega) rfl (k_goto hK (t := 71) dX8_nextsOf_129 rfl ?_)
          exact ih (k + 1) M b (by omega) hs hf (by simp only [wyl]; rw [if_neg hnot, List.append_nil]; exact hn)
        · have h94 := bi_1.mp h94
          refine k_aln hK (q := 98)  dX8_nextsOf_97 rfl (z := 32) rfl (k_aln hK (q := 99)  dX8_nextsOf_98 rfl (z := 32) rfl (k_gR hK (q := 102) (r := 38) dX8_nextsOf_99 rfl rf_X8_25 rfl rfl (k_iln hK (q := 103)  dX8_nextsOf_102 rfl (z := (k : Nat)) rfl (k_ald hK (q := 104)  dX8_nextsOf_103 rfl (y := M 38 (k : Nat)) rfl (by omega) rfl ?_))))
          refine k_iv1I hK (q := 107) dX8_nextsOf_104 rfl rm_X8_115 rfl rfl (Nat.le_of_ble_eq_true rfl) (t_isThere _ M (M 38 (k : Nat))) ?_
          refine k_ifeq hK (q := 110) (t := 126) dX8_nextsOf_107 rfl rfl (fun h107 => ?_) (fun h107 => ?_)
          · have h107 := bi_0.mp h107
            have hnot : ¬ (S 3 (k : Nat) = p ∧ thr S p ∧ thr S (S 4 (k : Nat))) := fun q => h107 ((thr_M hs _).mpr (by rw [a5]; exact q.2.2))
            refine k_inc hK (q := 129)  dX8_nextsOf_126 rfl (y := (k : Nat) + 1) (L2 := [some (vR 32), some (vI p), some (vI b), some (vI ((k : Nat) + 1))]) rfl rfl (by omega) rfl (k_goto hK (t := 71) dX8_nextsOf_129 rfl ?_)
            exact ih (k + 1) M b (by omega) hs hf (by simp only [wyl]; rw [if_neg hnot, List.append_nil]; exact hn)
          · have h107 := bi_1.mp h107
            have hyes : S 3 (k : Nat) = p ∧ thr S p ∧ thr S (S 4 (k : Nat)) := ⟨by rw [← a4]; omega, (thr_M hs _).mp h94, by rw [← a5]; exact (thr_M hs _).mp h107⟩
            have hlen2 := hlen k (by omega) hyes
            refine k_aln hK (q := 111)  dX8_nextsOf_110 rfl (z := 32) rfl (k_aln hK (q := 112)  dX8_nextsOf_111 rfl (z := 32) rfl (k_gR hK (q := 115) (r := 38) dX8_nextsOf_112 rfl rf_X8_25 rfl rfl (k_iln hK (q := 116)  dX8_nextsOf_115 rfl (z := (k : Nat)) rfl (k_ald hK (q := 117)  dX8_nextsOf_116 rfl (y := M 38 (k : Nat)) rfl (by omega) rfl (k_aln hK (q := 118)  dX8_nextsOf_117 rfl (z := 32) rfl ?_)))))
            refine k_gR hK (q := 121) (r := 39) dX8_nextsOf_118 rfl rf_X8_35 rfl rfl (k_ic hK (q := 122)  dX8_nextsOf_121 rfl (by decide) (k_ald hK (q := 123)  dX8_nextsOf_122 rfl (y := M 39 3) rfl (by omega) rfl ?_))
            refine k_iv2 hK (q := 126) dX8_nextsOf_123 rfl rm_X8_119 rfl rfl (Nat.le_of_ble_eq_true rfl) (xm_lay _ M (M 38 (k : Nat)) (M 39 3) _ hn (by simp; omega)) (fun r9 M5 h9 => ?_)
            obtain ⟨rfl, hn2, hf2⟩ := h9
            show K 126 [some (vR 32), some (vI p), some (vI b), some (vI (k : Nat))] [] M5
            refine k_inc hK (q := 129)  dX8_nextsOf_126 rfl (y := (k : Nat) + 1) (L2 := [some (vR 32), some (vI p), some (vI b), some (vI ((k : Nat) + 1))]) rfl rfl (by omega) rfl (k_goto hK (t := 71) dX8_nextsOf_129 rfl ?_)
            have hs5 : scM M5 = S := by rw [scM_fr hf2 (by decide) (by decide)]; exact hs
            refine ih (k + 1) M5 b (by omega) hs5 (frM_trans hf hf2) ?_
            simp only [wyl]
            rw [if_pos hyes, ← List.append_assoc]
            have e7 : (M 38 (k : Nat), M 39 3) = (S 4 (k : Nat), S 5 3) := by rw [a5, a6]
            rw [e7] at hn2
            exact hn2

set_option maxRecDepth 20000 in
set_option maxHeartbeats 2000000 in
theorem xm_nextsOf (d : Nat) (M : ra_M) (p : Int) (S : Sc) (hs : scM M = S) (hS : okSc S) (hp : -1 ≤ p ∧ p < 60) : Ex (d + 1) m_X8_nextsOf [vR 32, vI p] M (fun r M2 => r = none ∧ NxM M2 (nx S p) ∧ frM [47, 48] [25] M M2) := by
  refine Ex_call (Nat.le_of_ble_eq_true rfl) (fun K hK => ?_)
  show K 0 [some (vR 32), some (vI p), none, none] [] M
  have hK : ra_Clo _ m_X8_nextsOf cX8_nextsOf _ K := hK
  obtain ⟨e5, e6, e7, e8, e9⟩ := scM_e hs
  have hs0 := hS.1
  have hs1 := hS.2.1
  have hs2 := hS.2.2.1
  have hnx : (nx S p).length = (nx0 S p).length + ((nx1 S p).length + (wyl S p (S 0 1).toNat).length) := by simp [nx]
  have hlen := nx_len hS p
  have hlen2 : ∀ k : Nat, k < (S 0 1).toNat → (S 3 (k : Nat) = p ∧ thr S p ∧ thr S (S 4 (k : Nat))) → (nx0 S p ++ nx1 S p).length + (wyl S p k).length < 14 := by
    intro k hk hc
    have hw := wyl_lt S p hk hc
    simp
    omega
  have hQ2 : ∀ M2, frM [47, 48] [25] M M2 → NxM M2 ((nx0 S p ++ nx1 S p) ++ (wyl S p (S 0 1).toNat)) → (fun (r : Option ra_V) M2 => r = none ∧ NxM M2 (nx S p) ∧ frM [47, 48] [25] M M2) none M2 := by
    intro M2 h1 h2
    refine ⟨rfl, ?_, h1⟩
    simpa [nx] using h2
  refine k_aln hK (q := 1)  dX8_nextsOf_0 rfl (z := 32) rfl (k_ic hK (q := 2)  dX8_nextsOf_1 rfl (by decide) (k_pI hK (q := 5) (M2 := up M 32 25 0) dX8_nextsOf_2 rfl rp_X8_112 rfl rfl rfl (k_iln hK (q := 6)  dX8_nextsOf_5 rfl (z := p) rfl ?_)))
  refine k_iflt hK (q := 9) (t := 15) dX8_nextsOf_6 rfl rfl (fun h6 => ?_) (fun h6 => ?_)
  · refine k_aln hK (q := 16)  dX8_nextsOf_15 rfl (z := 32) rfl (k_gI hK (q := 19) (z := M 32 8) 0 dX8_nextsOf_16 rfl rf_X8_28 rfl rfl rfl rfl ?_)
    refine k_iflt hK (q := 22) (t := 29) dX8_nextsOf_19 rfl rfl (fun h19 => ?_) (fun h19 => ?_)
    · refine k_ic hK (q := 30)  dX8_nextsOf_29 rfl (by decide) ?_
      have hb : (0) = bhd S p := by unfold bhd; split <;> (first | omega | (split <;> omega))
      suffices h9 : K 30 [some (vR 32), some (vI p), none, none] [vI (bhd S p)] (up M 32 25 0) by rw [← hb] at h9; exact h9
      have J69 : ∀ M1, scM M1 = S → frM [47, 48] [25] M M1 → NxM M1 (nx0 S p ++ nx1 S p) → K 69 [some (vR 32), some (vI p), some (vI (bhd S p)), none] [] M1 := by
        intro M1 hs1 hf1 hn1
        refine k_ic hK (q := 70)  dX8_nextsOf_69 rfl (by decide) (k_isn hK (q := 71)  dX8_nextsOf_70 rfl (L2 := [some (vR 32), some (vI p), some (vI (bhd S p)), some (vI 0)]) (Nat.le_of_ble_eq_true rfl) rfl ?_)
        exact nextsOf_loop hK hS hlen2 hQ2 (S 0 1).toNat 0 M1 _ (by omega) hs1 hf1 (by simpa [wyl] using hn1)
      have J45 : ∀ M1, scM M1 = S → frM [47, 48] [25] M M1 → NxM M1 (nx0 S p) → K 45 [some (vR 32), some (vI p), some (vI (bhd S p)), none] [] M1 := by
        intro M1 hs1 hf1 hn1
        obtain ⟨e5, e6, e7, e8, e9⟩ := scM_e hs1
        refine k_aln hK (q := 46)  dX8_nextsOf_45 rfl (z := 32) rfl (k_gI hK (q := 49) (z := M1 32 8) 0 dX8_nextsOf_46 rfl rf_X8_28 rfl rfl rfl rfl ?_)
        refine k_iflt hK (q := 52) (t := 69) dX8_nextsOf_49 rfl rfl (fun h49 => ?_) (fun h49 => ?_)
        · have hno : nx1 S p = [] := by unfold nx1; rw [if_neg (by omega)]
          exact J69 M1 hs1 hf1 (by rw [hno, List.append_nil]; exact hn1)
        · refine k_iln hK (q := 53)  dX8_nextsOf_52 rfl (z := p) rfl (k_aln hK (q := 54)  dX8_nextsOf_53 rfl (z := 32) rfl (k_gI hK (q := 57) (z := M1 32 9) 0 dX8_nextsOf_54 rfl rf_X8_32 rfl rfl rfl rfl ?_))
          refine k_cne hK (q := 60) (t := 69) dX8_nextsOf_57 rfl rfl (fun h57 => ?_) (fun h57 => ?_)
          · have hno : nx1 S p = [] := by unfold nx1; rw [if_neg (by omega)]
            exact J69 M1 hs1 hf1 (by rw [hno, List.append_nil]; exact hn1)
          · have hyes : nx1 S p = [(S 0 2, 0)] := by unfold nx1; rw [if_pos (by omega)]
            have hl1 : (nx1 S p).length = 1 := by rw [hyes]; rfl
            refine k_aln hK (q := 61)  dX8_nextsOf_60 rfl (z := 32) rfl (k_aln hK (q := 62)  dX8_nextsOf_61 rfl (z := 32) rfl (k_gI hK (q := 65) (z := M1 32 8) 0 dX8_nextsOf_62 rfl rf_X8_28 rfl rfl rfl rfl (k_ic hK (q := 66)  dX8_nextsOf_65 rfl (by decide) ?_)))
            refine k_iv2 hK (q := 69) dX8_nextsOf_66 rfl rm_X8_119 rfl rfl (Nat.le_of_ble_eq_true rfl) (xm_lay _ M1 (M1 32 8) 0 _ hn1 (by have := nx0_len S p; omega)) (fun r9 M5 h9 => ?_)
            obtain ⟨rfl, hn2, hf2⟩ := h9
            show K 69 [some (vR 32), some (vI p), some (vI (bhd S p)), none] [] M5
            refine J69 M5 (by rw [scM_fr hf2 (by decide) (by decide)]; exact hs1) (frM_trans hf1 hf2) ?_
            rw [hyes]
            rw [e7] at hn2
            exact hn2
      have hs9 : scM (up M 32 25 0) = S := by rw [scM_fr (M := M) (frM_fd (frM_refl [] [25] _) _ (by decide)) (by decide) (by decide)]; exact hs
      refine k_isn hK (q := 31)  dX8_nextsOf_30 rfl (L2 := [some (vR 32), some (vI p), some (vI (bhd S p)), none]) (Nat.le_of_ble_eq_true rfl) rfl (k_aln hK (q := 32)  dX8_nextsOf_31 rfl (z := 32) rfl (k_iln hK (q := 33)  dX8_nextsOf_32 rfl (z := (bhd S p)) rfl ?_))
      refine k_iv1I hK (q := 36) dX8_nextsOf_33 rfl rm_X8_115 rfl rfl (Nat.le_of_ble_eq_true rfl) (t_isThere _ (up M 32 25 0) (bhd S p)) ?_
      refine k_ifeq hK (q := 39) (t := 45) dX8_nextsOf_36 rfl rfl (fun h36 => ?_) (fun h36 => ?_)
      · have h36 := bi_0.mp h36
        have hB : ¬ thr S (bhd S p) := fun q => h36 ((thr_M hs9 _).mpr q)
        have hno : nx0 S p = [] := by unfold nx0; rw [if_neg hB]
        exact J45 _ hs9 (frM_fd (frM_refl _ _ _) _ (by decide)) (by rw [hno]; exact ⟨by rw [up_same]; rfl, fun i q hi => by simp at hi⟩)
      · have h36 := bi_1.mp h36
        have hB : thr S (bhd S p) := (thr_M hs9 _).mp h36
        have hyes : nx0 S p = [(bhd S p, 0)] := by unfold nx0; rw [if_pos hB]
        have hl1 : (nx0 S p).length = 1 := by rw [hyes]; rfl
        refine k_aln hK (q := 40)  dX8_nextsOf_39 rfl (z := 32) rfl (k_iln hK (q := 41)  dX8_nextsOf_40 rfl (z := (bhd S p)) rfl (k_ic hK (q := 42)  dX8_nextsOf_41 rfl (by decide) ?_))
        refine k_iv2 hK (q := 45) dX8_nextsOf_42 rfl rm_X8_119 rfl rfl (Nat.le_of_ble_eq_true rfl) (xm_lay _ (up M 32 25 0) (bhd S p) 0 [] ⟨by rw [up_same]; rfl, fun i q hi => by simp at hi⟩ (by simp)) (fun r9 M5 h9 => ?_)
        obtain ⟨rfl, hn2, hf2⟩ := h9
        show K 45 [some (vR 32), some (vI p), some (vI (bhd S p)), none] [] M5
        refine J45 M5 (by rw [scM_fr hf2 (by decide) (by decide)]; exact hs9) (frM_trans (frM_fd (frM_refl _ _ _) _ (by decide)) hf2) ?_
        rw [hyes]
        exact hn2
    · refine k_aln hK (q := 23)  dX8_nextsOf_22 rfl (z := 32) rfl (k_gI hK (q := 26) (z := M 32 8) 0 dX8_nextsOf_23 rfl rf_X8_28 rfl rfl rfl rfl (k_goto hK (t := 30) dX8_nextsOf_26 rfl ?_))
      have hb : (M 32 8) = bhd S p := by unfold bhd; split <;> (first | omega | (split <;> omega))
      suffices h9 : K 30 [some (vR 32), some (vI p), none, none] [vI (bhd S p)] (up M 32 25 0) by rw [← hb] at h9; exact h9
      have J69 : ∀ M1, scM M1 = S → frM [47, 48] [25] M M1 → NxM M1 (nx0 S p ++ nx1 S p) → K 69 [some (vR 32), some (vI p), some (vI (bhd S p)), none] [] M1 := by
        intro M1 hs1 hf1 hn1
        refine k_ic hK (q := 70)  dX8_nextsOf_69 rfl (by decide) (k_isn hK (q := 71)  dX8_nextsOf_70 rfl (L2 := [some (vR 32), some (vI p), some (vI (bhd S p)), some (vI 0)]) (Nat.le_of_ble_eq_true rfl) rfl ?_)
        exact nextsOf_loop hK hS hlen2 hQ2 (S 0 1).toNat 0 M1 _ (by omega) hs1 hf1 (by simpa [wyl] using hn1)
      have J45 : ∀ M1, scM M1 = S → frM [47, 48] [25] M M1 → NxM M1 (nx0 S p) → K 45 [some (vR 32), some (vI p), some (vI (bhd S p)), none] [] M1 := by
        intro M1 hs1 hf1 hn1
        obtain ⟨e5, e6, e7, e8, e9⟩ := scM_e hs1
        refine k_aln hK (q := 46)  dX8_nextsOf_45 rfl (z := 32) rfl (k_gI hK (q := 49) (z := M1 32 8) 0 dX8_nextsOf_46 rfl rf_X8_28 rfl rfl rfl rfl ?_)
        refine k_iflt hK (q := 52) (t := 69) dX8_nextsOf_49 rfl rfl (fun h49 => ?_) (fun h49 => ?_)
        · have hno : nx1 S p = [] := by unfold nx1; rw [if_neg (by omega)]
          exact J69 M1 hs1 hf1 (by rw [hno, List.append_nil]; exact hn1)
        · refine k_iln hK (q := 53)  dX8_nextsOf_52 rfl (z := p) rfl (k_aln hK (q := 54)  dX8_nextsOf_53 rfl (z := 32) rfl (k_gI hK (q := 57) (z := M1 32 9) 0 dX8_nextsOf_54 rfl rf_X8_32 rfl rfl rfl rfl ?_))
          refine k_cne hK (q := 60) (t := 69) dX8_nextsOf_57 rfl rfl (fun h57 => ?_) (fun h57 => ?_)
          · have hno : nx1 S p = [] := by unfold nx1; rw [if_neg (by omega)]
            exact J69 M1 hs1 hf1 (by rw [hno, List.append_nil]; exact hn1)
          · have hyes : nx1 S p = [(S 0 2, 0)] := by unfold nx1; rw [if_pos (by omega)]
            have hl1 : (nx1 S p).length = 1 := by rw [hyes]; rfl
            refine k_aln hK (q := 61)  dX8_nextsOf_60 rfl (z := 32) rfl (k_aln hK (q := 62)  dX8_nextsOf_61 rfl (z := 32) rfl (k_gI hK (q := 65) (z := M1 32 8) 0 dX8_nextsOf_62 rfl rf_X8_28 rfl rfl rfl rfl (k_ic hK (q := 66)  dX8_nextsOf_65 rfl (by decide) ?_)))
            refine k_iv2 hK (q := 69) dX8_nextsOf_66 rfl rm_X8_119 rfl rfl (Nat.le_of_ble_eq_true rfl) (xm_lay _ M1 (M1 32 8) 0 _ hn1 (by have := nx0_len S p; omega)) (fun r9 M5 h9 => ?_)
            obtain ⟨rfl, hn2, hf2⟩ := h9
            show K 69 [some (vR 32), some (vI p), some (vI (bhd S p)), none] [] M5
            refine J69 M5 (by rw [scM_fr hf2 (by decide) (by decide)]; exact hs1) (frM_trans hf1 hf2) ?_
            rw [hyes]
            rw [e7] at hn2
            exact hn2
      have hs9 : scM (up M 32 25 0) = S := by rw [scM_fr (M := M) (frM_fd (frM_refl [] [25] _) _ (by decide)) (by decide) (by decide)]; exact hs
      refine k_isn hK (q := 31)  dX8_nextsOf_30 rfl (L2 := [some (vR 32), some (vI p), some (vI (bhd S p)), none]) (Nat.le_of_ble_eq_true rfl) rfl (k_aln hK (q := 32)  dX8_nextsOf_31 rfl (z := 32) rfl (k_iln hK (q := 33)  dX8_nextsOf_32 rfl (z := (bhd S p)) rfl ?_))
      refine k_iv1I hK (q := 36) dX8_nextsOf_33 rfl rm_X8_115 rfl rfl (Nat.le_of_ble_eq_true rfl) (t_isThere _ (up M 32 25 0) (bhd S p)) ?_
      refine k_ifeq hK (q := 39) (t := 45) dX8_nextsOf_36 rfl rfl (fun h36 => ?_) (fun h36 => ?_)
      · have h36 := bi_0.mp h36
        have hB : ¬ thr S (bhd S p) := fun q => h36 ((thr_M hs9 _).mpr q)
        have hno : nx0 S p = [] := by unfold nx0; rw [if_neg hB]
        exact J45 _ hs9 (frM_fd (frM_refl _ _ _) _ (by decide)) (by rw [hno]; exact ⟨by rw [up_same]; rfl, fun i q hi => by simp at hi⟩)
      · have h36 := bi_1.mp h36
        have hB : thr S (bhd S p) := (thr_M hs9 _).mp h36
        have hyes : nx0 S p = [(bhd S p, 0)] := by unfold nx0; rw [if_pos hB]
        have hl1 : (nx0 S p).length = 1 := by rw [hyes]; rfl
        refine k_aln hK (q := 40)  dX8_nextsOf_39 rfl (z := 32) rfl (k_iln hK (q := 41)  dX8_nextsOf_40 rfl (z := (bhd S p)) rfl (k_ic hK (q := 42)  dX8_nextsOf_41 rfl (by decide) ?_))
        refine k_iv2 hK (q := 45) dX8_nextsOf_42 rfl rm_X8_119 rfl rfl (Nat.le_of_ble_eq_true rfl) (xm_lay _ (up M 32 25 0) (bhd S p) 0 [] ⟨by rw [up_same]; rfl, fun i q hi => by simp at hi⟩ (by simp)) (fun r9 M5 h9 => ?_)
        obtain ⟨rfl, hn2, hf2⟩ := h9
        show K 45 [some (vR 32), some (vI p), some (vI (bhd S p)), none] [] M5
        refine J45 M5 (by rw [scM_fr hf2 (by decide) (by decide)]; exact hs9) (frM_trans (frM_fd (frM_refl _ _ _) _ (by decide)) hf2) ?_
        rw [hyes]
        exact hn2
  · refine k_iln hK (q := 10)  dX8_nextsOf_9 rfl (z := p) rfl (k_ic hK (q := 11)  dX8_nextsOf_10 rfl (by decide) (k_add hK (q := 12)  dX8_nextsOf_11 rfl (z := p + 1) rfl (by omega) (k_goto hK (t := 30) dX8_nextsOf_12 rfl ?_)))
    have hb : (p + 1) = bhd S p := by unfold bhd; split <;> (first | omega | (split <;> omega))
    suffices h9 : K 30 [some (vR 32), some (vI p), none, none] [vI (bhd S p)] (up M 32 25 0) by rw [← hb] at h9; exact h9
    have J69 : ∀ M1, scM M1 = S → frM [47, 48] [25] M M1 → NxM M1 (nx0 S p ++ nx1 S p) → K 69 [some (vR 32), some (vI p), some (vI (bhd S p)), none] [] M1 := by
      intro M1 hs1 hf1 hn1
      refine k_ic hK (q := 70)  dX8_nextsOf_69 rfl (by decide) (k_isn hK (q := 71)  dX8_nextsOf_70 rfl (L2 := [some (vR 32), some (vI p), some (vI (bhd S p)), some (vI 0)]) (Nat.le_of_ble_eq_true rfl) rfl ?_)
      exact nextsOf_loop hK hS hlen2 hQ2 (S 0 1).toNat 0 M1 _ (by omega) hs1 hf1 (by simpa [wyl] using hn1)
    have J45 : ∀ M1, scM M1 = S → frM [47, 48] [25] M M1 → NxM M1 (nx0 S p) → K 45 [some (vR 32), some (vI p), some (vI (bhd S p)), none] [] M1 := by
      intro M1 hs1 hf1 hn1
      obtain ⟨e5, e6, e7, e8, e9⟩ := scM_e hs1
      refine k_aln hK (q := 46)  dX8_nextsOf_45 rfl (z := 32) rfl (k_gI hK (q := 49) (z := M1 32 8) 0 dX8_nextsOf_46 rfl rf_X8_28 rfl rfl rfl rfl ?_)
      refine k_iflt hK (q := 52) (t := 69) dX8_nextsOf_49 rfl rfl (fun h49 => ?_) (fun h49 => ?_)
      · have hno : nx1 S p = [] := by unfold nx1; rw [if_neg (by omega)]
        exact J69 M1 hs1 hf1 (by rw [hno, List.append_nil]; exact hn1)
      · refine k_iln hK (q := 53)  dX8_nextsOf_52 rfl (z := p) rfl (k_aln hK (q := 54)  dX8_nextsOf_53 rfl (z := 32) rfl (k_gI hK (q := 57) (z := M1 32 9) 0 dX8_nextsOf_54 rfl rf_X8_32 rfl rfl rfl rfl ?_))
        refine k_cne hK (q := 60) (t := 69) dX8_nextsOf_57 rfl rfl (fun h57 => ?_) (fun h57 => ?_)
        · have hno : nx1 S p = [] := by unfold nx1; rw [if_neg (by omega)]
          exact J69 M1 hs1 hf1 (by rw [hno, List.append_nil]; exact hn1)
        · have hyes : nx1 S p = [(S 0 2, 0)] := by unfold nx1; rw [if_pos (by omega)]
          have hl1 : (nx1 S p).length = 1 := by rw [hyes]; rfl
          refine k_aln hK (q := 61)  dX8_nextsOf_60 rfl (z := 32) rfl (k_aln hK (q := 62)  dX8_nextsOf_61 rfl (z := 32) rfl (k_gI hK (q := 65) (z := M1 32 8) 0 dX8_nextsOf_62 rfl rf_X8_28 rfl rfl rfl rfl (k_ic hK (q := 66)  dX8_nextsOf_65 rfl (by decide) ?_)))
          refine k_iv2 hK (q := 69) dX8_nextsOf_66 rfl rm_X8_119 rfl rfl (Nat.le_of_ble_eq_true rfl) (xm_lay _ M1 (M1 32 8) 0 _ hn1 (by have := nx0_len S p; omega)) (fun r9 M5 h9 => ?_)
          obtain ⟨rfl, hn2, hf2⟩ := h9
          show K 69 [some (vR 32), some (vI p), some (vI (bhd S p)), none] [] M5
          refine J69 M5 (by rw [scM_fr hf2 (by decide) (by decide)]; exact hs1) (frM_trans hf1 hf2) ?_
          rw [hyes]
          rw [e7] at hn2
          exact hn2
    have hs9 : scM (up M 32 25 0) = S := by rw [scM_fr (M := M) (frM_fd (frM_refl [] [25] _) _ (by decide)) (by decide) (by decide)]; exact hs
    refine k_isn hK (q := 31)  dX8_nextsOf_30 rfl (L2 := [some (vR 32), some (vI p), some (vI (bhd S p)), none]) (Nat.le_of_ble_eq_true rfl) rfl (k_aln hK (q := 32)  dX8_nextsOf_31 rfl (z := 32) rfl (k_iln hK (q := 33)  dX8_nextsOf_32 rfl (z := (bhd S p)) rfl ?_))
    refine k_iv1I hK (q := 36) dX8_nextsOf_33 rfl rm_X8_115 rfl rfl (Nat.le_of_ble_eq_true rfl) (t_isThere _ (up M 32 25 0) (bhd S p)) ?_
    refine k_ifeq hK (q := 39) (t := 45) dX8_nextsOf_36 rfl rfl (fun h36 => ?_) (fun h36 => ?_)
    · have h36 := bi_0.mp h36
      have hB : ¬ thr S (bhd S p) := fun q => h36 ((thr_M hs9 _).mpr q)
      have hno : nx0 S p = [] := by unfold nx0; rw [if_neg hB]
      exact J45 _ hs9 (frM_fd (frM_refl _ _ _) _ (by decide)) (by rw [hno]; exact ⟨by rw [up_same]; rfl, fun i q hi => by simp at hi⟩)
    · have h36 := bi_1.mp h36
      have hB : thr S (bhd S p) := (thr_M hs9 _).mp h36
      have hyes : nx0 S p = [(bhd S p, 0)] := by unfold nx0; rw [if_pos hB]
      have hl1 : (nx0 S p).length = 1 := by rw [hyes]; rfl
      refine k_aln hK (q := 40)  dX8_nextsOf_39 rfl (z := 32) rfl (k_iln hK (q := 41)  dX8_nextsOf_40 rfl (z := (bhd S p)) rfl (k_ic hK (q := 42)  dX8_nextsOf_41 rfl (by decide) ?_))
      refine k_iv2 hK (q := 45) dX8_nextsOf_42 rfl rm_X8_119 rfl rfl (Nat.le_of_ble_eq_true rfl) (xm_lay _ (up M 32 25 0) (bhd S p) 0 [] ⟨by rw [up_same]; rfl, fun i q hi => by simp at hi⟩ (by simp)) (fun r9 M5 h9 => ?_)
      obtain ⟨rfl, hn2, hf2⟩ := h9
      show K 45 [some (vR 32), some (vI p), some (vI (bhd S p)), none] [] M5
      refine J45 M5 (by rw [scM_fr hf2 (by decide) (by decide)]; exact hs9) (frM_trans (frM_fd (frM_refl _ _ _) _ (by decide)) hf2) ?_
      rw [hyes]
      exact hn2

set_option maxRecDepth 20000 in
set_option maxHeartbeats 2000000 in
theorem xm_wrong (d : Nat) (M : ra_M) (n e : Int) (S : Sc) (hs : scM M = S) (hn : 0 ≤ n ∧ n < 60) (he : 0 ≤ e ∧ e < 120) : Ex d m_X8_wrong [vR 32, vI n, vI e] M (fun r M2 => r = some (vI (wr S n (M 40 e))) ∧ M2 = M) := by
  refine Ex_leaf (Nat.le_of_ble_eq_true rfl) (fun C K hK => ?_)
  show K 0 [some (vR 32), some (vI n), some (vI e)] [] M
  have hK : ra_Clo _ m_X8_wrong cX8_wrong _ K := hK
  obtain ⟨a2, a3, a4, a5, a6⟩ := scM_a hs
  refine k_aln hK (q := 1)  dX8_wrong_0 rfl (z := 32) rfl (k_gR hK (q := 4) (r := 33) dX8_wrong_1 rfl rf_X8_7 rfl rfl (k_iln hK (q := 5)  dX8_wrong_4 rfl (z := n) rfl (k_ald hK (q := 6)  dX8_wrong_5 rfl (y := M 33 n) rfl (by omega) rfl (k_aln hK (q := 7)  dX8_wrong_6 rfl (z := 32) rfl (k_gR hK (q := 10) (r := 40) dX8_wrong_7 rfl rf_X8_38 rfl rfl ?_)))))
  refine k_iln hK (q := 11)  dX8_wrong_10 rfl (z := e) rfl (k_ald hK (q := 12)  dX8_wrong_11 rfl (y := M 40 e) rfl (by omega) rfl ?_)
  refine k_ceq hK (q := 15) (t := 24) dX8_wrong_12 rfl rfl (fun h12 => ?_) (fun h12 => ?_)
  · refine k_ic hK (q := 25)  dX8_wrong_24 rfl (by decide) ?_
    refine k_ir hK dX8_wrong_25 rfl ?_
    refine ⟨?_, rfl⟩
    unfold wr
    rw [← a2, ← a6]
    rw [if_pos h12]
  · refine k_aln hK (q := 16)  dX8_wrong_15 rfl (z := 32) rfl (k_gR hK (q := 19) (r := 39) dX8_wrong_16 rfl rf_X8_35 rfl rfl (k_ic hK (q := 20)  dX8_wrong_19 rfl (by decide) (k_ald hK (q := 21)  dX8_wrong_20 rfl (y := M 39 0) rfl (by omega) rfl (k_goto hK (t := 25) dX8_wrong_21 rfl ?_))))
    refine k_ir hK dX8_wrong_25 rfl ?_
    refine ⟨?_, rfl⟩
    unfold wr
    rw [← a2, ← a6]
    rw [if_neg h12]

set_option maxRecDepth 20000 in
set_option maxHeartbeats 2000000 in
theorem xm_at (d : Nat) (M : ra_M) (e p : Int) (he : 0 ≤ e ∧ e ≤ 121) (hp : -1 ≤ p ∧ p < 60) : Ex d m_X8_at [vR 32, vI e, vI p] M (fun r M2 => r = some (vI (e * 61 + p + 1)) ∧ M2 = M) := by
  refine Ex_leaf (Nat.le_of_ble_eq_true rfl) (fun C K hK => ?_)
  show K 0 [some (vR 32), some (vI e), some (vI p)] [] M
  have hK : ra_Clo _ m_X8_at cX8_at _ K := hK
  refine k_bp hK (q := 2)  dX8_at_0 rfl (by decide) (k_iln hK (q := 3)  dX8_at_2 rfl (z := e) rfl (k_mul hK (q := 4)  dX8_at_3 rfl (z := 61 * e) rfl (by omega) (k_iln hK (q := 5)  dX8_at_4 rfl (z := p) rfl (k_add hK (q := 6)  dX8_at_5 rfl (z := (61 * e) + p) rfl (by omega) (k_ic hK (q := 7)  dX8_at_6 rfl (by decide) ?_)))))
  refine k_add hK (q := 8)  dX8_at_7 rfl (z := ((61 * e) + p) + 1) rfl (by omega) ?_
  refine k_ir hK dX8_at_8 rfl ?_
  refine ⟨?_, rfl⟩
  congr 2
  omega
