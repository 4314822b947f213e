/-! the reference chooses THE PLACE, and looks for an ANCHOR -/
def chI (t : Int → Int) (goal : Int) (n : Nat) (b : Int) : Prop := (b = -2 ∧ ∀ j : Nat, j < n → t (j : Nat) = NV) ∨ (1 ≤ n ∧ (-1 ≤ b ∧ b < (n : Int) - 1) ∧ t (b + 1) < NV ∧ b = chF t goal (n - 1))
theorem ch_step {t : Int → Int} {goal b b2 : Int} {n : Nat} (hi : chI t goal n b) (ht : ∀ j, t j ≤ NV) (h : (b2 = (n : Int) - 1 ∧ t (n : Nat) < NV ∧ (b < -1 ∨ t (n : Nat) < t (b + 1) ∨ (t (n : Nat) = t (b + 1) ∧ ab ((n : Int) - 1 - goal) < ab (b - goal)))) ∨ (b2 = b ∧ ¬ (t (n : Nat) < NV ∧ (b < -1 ∨ t (n : Nat) < t (b + 1) ∨ (t (n : Nat) = t (b + 1) ∧ ab ((n : Int) - 1 - goal) < ab (b - goal)))))) : chI t goal (n + 1) b2 := by
  have htn := ht (n : Nat)
  rcases hi with ⟨hb, hall⟩ | ⟨hn, hb, hlt, hch⟩
  · rcases h with ⟨h1, h2, -⟩ | ⟨h1, h2⟩
    · right
      refine ⟨by omega, by omega, by rw [h1, show ((n : Nat) : Int) - 1 + 1 = (n : Nat) by omega]; exact h2, ?_⟩
      rw [h1]
      show _ = chF t goal n
      cases n with
      | zero => rfl
      | succ m =>
        have h3 := chF_in t goal m
        have h4 := hall (chF t goal m + 1).toNat (by omega)
        rw [show (((chF t goal m + 1).toNat : Nat) : Int) = chF t goal m + 1 by omega] at h4
        simp only [chF]
        rw [show (((m + 1 : Nat) : Nat) : Int) = (m : Nat) + 1 by omega] at h2 ⊢
        rw [if_pos (by omega)]
        omega
    · left
      refine ⟨by omega, fun j hj => ?_⟩
      by_cases hjn : j = n
      · subst hjn; omega
      · exact hall j (by omega)
  · obtain ⟨m, rfl⟩ : ∃ m, n = m + 1 := ⟨n - 1, by omega⟩
    rw [show m + 1 - 1 = m by omega] at hch
    right
    have e1 : (((m + 1 : Nat) : Nat) : Int) = (m : Nat) + 1 := by omega
    rw [e1] at h htn
    rw [show ((m : Nat) : Int) + 1 - 1 - goal = (m : Nat) - goal by omega] at h
    have hcf : chF t goal (m + 1) = if t ((m : Nat) + 1) - t (b + 1) < 0 ∨ (t ((m : Nat) + 1) - t (b + 1) = 0 ∧ ab ((m : Nat) - goal) < ab (b - goal)) then ((m : Nat) : Int) else b := by
      rw [hch]
      rfl
    show 1 ≤ m + 1 + 1 ∧ _ ∧ _ ∧ b2 = chF t goal (m + 1)
    rw [hcf]
    rcases h with ⟨h1, h2, h3⟩ | ⟨h1, h2⟩
    · rw [if_pos (by omega)]
      refine ⟨by omega, by omega, ?_, by omega⟩
      rw [h1, show ((m : Nat) : Int) + 1 - 1 + 1 = (m : Nat) + 1 by omega]
      exact h2
    · rw [if_neg (by omega)]
      exact ⟨by omega, by omega, by rw [h1]; exact hlt, h1⟩

set_option maxRecDepth 20000 in
set_option maxHeartbeats 2000000 in
theorem choose_a {C : Nat → List ra_V → ra_M → (Option ra_V → ra_M → Prop) → Prop} {Q : Option ra_V → ra_M → Prop} {K : Nat → ra_L → List ra_V → ra_M → Prop} (hK : ra_Clo C m_X8_choose cX8_choose Q K) {S : Sc} (hS : okSc S) {M : ra_M} (hs : scM M = S) {t : Int → Int} {goal : Int} (hg : 0 ≤ goal ∧ goal ≤ 60) (hdt : dt S t) (hte : eq61 (M 42) t) (hfin : t (chF t goal (S 0 0).toNat + 1) < NV)
    (hX : ∀ z, K 123 [some (vR 32), some (vI goal), some (vI (chF t goal (S 0 0).toNat)), some (vI z), none, none] [] M) :
    ∀ (m n : Nat) (b : Int), n + m = (S 0 0).toNat + 1 → chI t goal n b → K 12 [some (vR 32), some (vI goal), some (vI b), some (vI (((n : Nat) : Int) - 1)), none, none] [] M := by
  have hNV : NV = 1000000000 := rfl
  obtain ⟨e5, e6, e7, e8, e9⟩ := scM_e hs
  have hs0 := hS.1
  intro m
  induction m with
  | zero =>
    intro n b hn hinv
    refine k_iln hK (q := 13)  dX8_choose_12 rfl (z := (((n : Nat) : Int) - 1)) rfl (k_aln hK (q := 14)  dX8_choose_13 rfl (z := 32) rfl (k_gI hK (q := 17) (z := M 32 4) 0 dX8_choose_14 rfl rf_X8_86 rfl rfl rfl rfl ?_))
    refine k_cge hK (q := 20) (t := 123) dX8_choose_17 rfl rfl (fun h17 => ?_) (fun h17 => ?_)
    · have hn2 : n = (S 0 0).toNat + 1 := by omega
      subst hn2
      have hb : b = chF t goal (S 0 0).toNat := by
        rcases hinv with ⟨_, hall⟩ | ⟨_, _, _, hch⟩
        · exfalso
          have h3 := chF_in t goal (S 0 0).toNat
          have h4 := hall (chF t goal (S 0 0).toNat + 1).toNat (by omega)
          rw [show (((chF t goal (S 0 0).toNat + 1).toNat : Nat) : Int) = chF t goal (S 0 0).toNat + 1 by omega] at h4
          omega
        · exact hch
      subst hb
      exact hX _
    · exact absurd h17 (by omega)
  | succ m ih =>
    intro n b hn hinv
    have hbr : -2 ≤ b ∧ b < (n : Int) := by rcases hinv with h | h <;> omega
    have hv1 : M 42 (((n : Nat) : Int) - 1 + 1) = t (n : Nat) := by rw [show ((n : Nat) : Int) - 1 + 1 = (n : Nat) by omega]; exact hte _ (by omega) (by omega)
    have hv2 : -1 ≤ b → M 42 (b + 1) = t (b + 1) := fun q => hte _ (by omega) (by omega)
    refine k_iln hK (q := 13)  dX8_choose_12 rfl (z := (((n : Nat) : Int) - 1)) rfl (k_aln hK (q := 14)  dX8_choose_13 rfl (z := 32) rfl (k_gI hK (q := 17) (z := M 32 4) 0 dX8_choose_14 rfl rf_X8_86 rfl rfl rfl rfl ?_))
    refine k_cge hK (q := 20) (t := 123) dX8_choose_17 rfl rfl (fun h17 => ?_) (fun h17 => ?_)
    · exact absurd h17 (by omega)
    · refine k_iln hK (q := 21)  dX8_choose_20 rfl (z := (((n : Nat) : Int) - 1)) rfl (k_iln hK (q := 22)  dX8_choose_21 rfl (z := goal) rfl ?_)
      refine k_cle hK (q := 25) (t := 31) dX8_choose_22 rfl rfl (fun h22 => ?_) (fun h22 => ?_)
      · refine k_iln hK (q := 32)  dX8_choose_31 rfl (z := goal) rfl (k_iln hK (q := 33)  dX8_choose_32 rfl (z := (((n : Nat) : Int) - 1)) rfl (k_sub hK (q := 34)  dX8_choose_33 rfl (z := goal - (((n : Nat) : Int) - 1)) rfl (by omega) (k_is hK (q := 36)  dX8_choose_34 rfl (L2 := [some (vR 32), some (vI goal), some (vI b), some (vI (((n : Nat) : Int) - 1)), some (vI (goal - (((n : Nat) : Int) - 1))), none]) (Nat.le_of_ble_eq_true rfl) rfl (k_iln hK (q := 37)  dX8_choose_36 rfl (z := b) rfl (k_iln hK (q := 38)  dX8_choose_37 rfl (z := goal) rfl ?_)))))
        refine k_cle hK (q := 41) (t := 47) dX8_choose_38 rfl rfl (fun h38 => ?_) (fun h38 => ?_)
        · refine k_iln hK (q := 48)  dX8_choose_47 rfl (z := goal) rfl (k_iln hK (q := 49)  dX8_choose_48 rfl (z := b) rfl (k_sub hK (q := 50)  dX8_choose_49 rfl (z := goal - b) rfl (by omega) (k_is hK (q := 52)  dX8_choose_50 rfl (L2 := [some (vR 32), some (vI goal), some (vI b), some (vI (((n : Nat) : Int) - 1)), some (vI (goal - (((n : Nat) : Int) - 1))), some (vI (goal - b))]) (Nat.le_of_ble_eq_true rfl) rfl (k_aln hK (q := 53)  dX8_choose_52 rfl (z := 32) rfl (k_gR hK (q := 56) (r := 42) dX8_choose_53 rfl rf_X8_44 rfl rfl ?_)))))
          refine k_iln hK (q := 57)  dX8_choose_56 rfl (z := (((n : Nat) : Int) - 1)) rfl (k_ic hK (q := 58)  dX8_choose_57 rfl (by decide) (k_add hK (q := 59)  dX8_choose_58 rfl (z := (((n : Nat) : Int) - 1) + 1) rfl (by omega) (k_ald hK (q := 60)  dX8_choose_59 rfl (y := M 42 ((((n : Nat) : Int) - 1) + 1)) rfl (by omega) rfl (k_ldc hK (q := 62)  dX8_choose_60 rfl rc_X8_123 ?_))))
          refine k_cge hK (q := 65) (t := 117) dX8_choose_62 rfl rfl (fun h62 => ?_) (fun h62 => ?_)
          · refine k_inc hK (q := 120)  dX8_choose_117 rfl (y := (((n : Nat) : Int) - 1) + 1) (L2 := [some (vR 32), some (vI goal), some (vI b), some (vI ((((n : Nat) : Int) - 1) + 1)), some (vI (goal - (((n : Nat) : Int) - 1))), some (vI (goal - b))]) rfl rfl (by omega) rfl (k_goto hK (t := 12) dX8_choose_120 rfl ?_)
            refine k_weak hK (L2 := [some (vR 32), some (vI goal), some (vI b), some (vI ((((n : Nat) : Int) - 1) + 1)), none, none]) ⟨Or.inl rfl, Or.inl rfl, Or.inl rfl, Or.inl rfl, Or.inr rfl, Or.inr rfl, trivial⟩ ?_
            have hp9 : ((n : Nat) : Int) - 1 + 1 = ((n + 1 : Nat) : Int) - 1 := by omega
            rw [hp9]
            refine ih (n + 1) _ (by omega) (ch_step hinv (fun j => (hdt.1 j).2) ?_)
            unfold ab
            omega
          · refine k_iln hK (q := 66)  dX8_choose_65 rfl (z := b) rfl (k_ic hK (q := 67)  dX8_choose_66 rfl (by decide) ?_)
            refine k_clt hK (q := 70) (t := 115) dX8_choose_67 rfl rfl (fun h67 => ?_) (fun h67 => ?_)
            · refine k_iln hK (q := 116)  dX8_choose_115 rfl (z := (((n : Nat) : Int) - 1)) rfl (k_isn hK (q := 117)  dX8_choose_116 rfl (L2 := [some (vR 32), some (vI goal), some (vI (((n : Nat) : Int) - 1)), some (vI (((n : Nat) : Int) - 1)), some (vI (goal - (((n : Nat) : Int) - 1))), some (vI (goal - b))]) (Nat.le_of_ble_eq_true rfl) rfl (k_inc hK (q := 120)  dX8_choose_117 rfl (y := (((n : Nat) : Int) - 1) + 1) (L2 := [some (vR 32), some (vI goal), some (vI (((n : Nat) : Int) - 1)), some (vI ((((n : Nat) : Int) - 1) + 1)), some (vI (goal - (((n : Nat) : Int) - 1))), some (vI (goal - b))]) rfl rfl (by omega) rfl (k_goto hK (t := 12) dX8_choose_120 rfl ?_)))
              refine k_weak hK (L2 := [some (vR 32), some (vI goal), some (vI (((n : Nat) : Int) - 1)), some (vI ((((n : Nat) : Int) - 1) + 1)), none, none]) ⟨Or.inl rfl, Or.inl rfl, Or.inl rfl, Or.inl rfl, Or.inr rfl, Or.inr rfl, trivial⟩ ?_
              have hp9 : ((n : Nat) : Int) - 1 + 1 = ((n + 1 : Nat) : Int) - 1 := by omega
              rw [hp9]
              refine ih (n + 1) _ (by omega) (ch_step hinv (fun j => (hdt.1 j).2) ?_)
              unfold ab
              omega
            · refine k_aln hK (q := 71)  dX8_choose_70 rfl (z := 32) rfl (k_gR hK (q := 74) (r := 42) dX8_choose_71 rfl rf_X8_44 rfl rfl (k_iln hK (q := 75)  dX8_choose_74 rfl (z := (((n : Nat) : Int) - 1)) rfl (k_ic hK (q := 76)  dX8_choose_75 rfl (by decide) (k_add hK (q := 77)  dX8_choose_76 rfl (z := (((n : Nat) : Int) - 1) + 1) rfl (by omega) (k_ald hK (q := 78)  dX8_choose_77 rfl (y := M 42 ((((n : Nat) : Int) - 1) + 1)) rfl (by omega) rfl ?_)))))
              refine k_aln hK (q := 79)  dX8_choose_78 rfl (z := 32) rfl (k_gR hK (q := 82) (r := 42) dX8_choose_79 rfl rf_X8_44 rfl rfl (k_iln hK (q := 83)  dX8_choose_82 rfl (z := b) rfl (k_ic hK (q := 84)  dX8_choose_83 rfl (by decide) (k_add hK (q := 85)  dX8_choose_84 rfl (z := b + 1) rfl (by omega) (k_ald hK (q := 86)  dX8_choose_85 rfl (y := M 42 (b + 1)) rfl (by omega) rfl ?_)))))
              refine k_clt hK (q := 89) (t := 115) dX8_choose_86 rfl rfl (fun h86 => ?_) (fun h86 => ?_)
              · refine k_iln hK (q := 116)  dX8_choose_115 rfl (z := (((n : Nat) : Int) - 1)) rfl (k_isn hK (q := 117)  dX8_choose_116 rfl (L2 := [some (vR 32), some (vI goal), some (vI (((n : Nat) : Int) - 1)), some (vI (((n : Nat) : Int) - 1)), some (vI (goal - (((n : Nat) : Int) - 1))), some (vI (goal - b))]) (Nat.le_of_ble_eq_true rfl) rfl (k_inc hK (q := 120)  dX8_choose_117 rfl (y := (((n : Nat) : Int) - 1) + 1) (L2 := [some (vR 32), some (vI goal), some (vI (((n : Nat) : Int) - 1)), some (vI ((((n : Nat) : Int) - 1) + 1)), some (vI (goal - (((n : Nat) : Int) - 1))), some (vI (goal - b))]) rfl rfl (by omega) rfl (k_goto hK (t := 12) dX8_choose_120 rfl ?_)))
                refine k_weak hK (L2 := [some (vR 32), some (vI goal), some (vI (((n : Nat) : Int) - 1)), some (vI ((((n : Nat) : Int) - 1) + 1)), none, none]) ⟨Or.inl rfl, Or.inl rfl, Or.inl rfl, Or.inl rfl, Or.inr rfl, Or.inr rfl, trivial⟩ ?_
                have hp9 : ((n : Nat) : Int) - 1 + 1 = ((n + 1 : Nat) : Int) - 1 := by omega
                rw [hp9]
                refine ih (n + 1) _ (by omega) (ch_step hinv (fun j => (hdt.1 j).2) ?_)
                unfold ab
                omega
              · refine k_aln hK (q := 90)  dX8_choose_89 rfl (z := 32) rfl (k_gR hK (q := 93) (r := 42) dX8_choose_90 rfl rf_X8_44 rfl rfl (k_iln hK (q := 94)  dX8_choose_93 rfl (z := (((n : Nat) : Int) - 1)) rfl (k_ic hK (q := 95)  dX8_choose_94 rfl (by decide) (k_add hK (q := 96)  dX8_choose_95 rfl (z := (((n : Nat) : Int) - 1) + 1) rfl (by omega) (k_ald hK (q := 97)  dX8_choose_96 rfl (y := M 42 ((((n : Nat) : Int) - 1) + 1)) rfl (by omega) rfl ?_)))))
                refine k_aln hK (q := 98)  dX8_choose_97 rfl (z := 32) rfl (k_gR hK (q := 101) (r := 42) dX8_choose_98 rfl rf_X8_44 rfl rfl (k_iln hK (q := 102)  dX8_choose_101 rfl (z := b) rfl (k_ic hK (q := 103)  dX8_choose_102 rfl (by decide) (k_add hK (q := 104)  dX8_choose_103 rfl (z := b + 1) rfl (by omega) (k_ald hK (q := 105)  dX8_choose_104 rfl (y := M 42 (b + 1)) rfl (by omega) rfl ?_)))))
                refine k_cne hK (q := 108) (t := 117) dX8_choose_105 rfl rfl (fun h105 => ?_) (fun h105 => ?_)
                · refine k_inc hK (q := 120)  dX8_choose_117 rfl (y := (((n : Nat) : Int) - 1) + 1) (L2 := [some (vR 32), some (vI goal), some (vI b), some (vI ((((n : Nat) : Int) - 1) + 1)), some (vI (goal - (((n : Nat) : Int) - 1))), some (vI (goal - b))]) rfl rfl (by omega) rfl (k_goto hK (t := 12) dX8_choose_120 rfl ?_)
                  refine k_weak hK (L2 := [some (vR 32), some (vI goal), some (vI b), some (vI ((((n : Nat) : Int) - 1) + 1)), none, none]) ⟨Or.inl rfl, Or.inl rfl, Or.inl rfl, Or.inl rfl, Or.inr rfl, Or.inr rfl, trivial⟩ ?_
                  have hp9 : ((n : Nat) : Int) - 1 + 1 = ((n + 1 : Nat) : Int) - 1 := by omega
                  rw [hp9]
                  refine ih (n + 1) _ (by omega) (ch_step hinv (fun j => (hdt.1 j).2) ?_)
                  unfold ab
                  omega
                · refine k_il hK (q := 110)  dX8_choose_108 rfl (z := (goal - (((n : Nat) : Int) - 1))) rfl (k_il hK (q := 112)  dX8_choose_110 rfl (z := (goal - b)) rfl ?_)
                  refine k_cge hK (q := 115) (t := 117) dX8_choose_112 rfl rfl (fun h112 => ?_) (fun h112 => ?_)
                  · refine k_inc hK (q := 120)  dX8_choose_117 rfl (y := (((n : Nat) : Int) - 1) + 1) (L2 := [some (vR 32), some (vI goal), some (vI b), some (vI ((((n : Nat) : Int) - 1) + 1)), some (vI (goal - (((n : Nat) : Int) - 1))), some (vI (goal - b))]) rfl rfl (by omega) rfl (k_goto hK (t := 12) dX8_choose_120 rfl ?_)
                    refine k_weak hK (L2 := [some (vR 32), some (vI goal), some (vI b), some (vI ((((n : Nat) : Int) - 1) + 1)), none, none]) ⟨Or.inl rfl, Or.inl rfl, Or.inl rfl, Or.inl rfl, Or.inr rfl, Or.inr rfl, trivial⟩ ?_
                    have hp9 : ((n : Nat) : Int) - 1 + 1 = ((n + 1 : Nat) : Int) - 1 := by omega
                    rw [hp9]
                    refine ih (n + 1) _ (by omega) (ch_step hinv (fun j => (hdt.1 j).2) ?_)
                    unfold ab
                    omega
                  · refine k_iln hK (q := 116)  dX8_choose_115 rfl (z := (((n : Nat) : Int) - 1)) rfl (k_isn hK (q := 117)  dX8_choose_116 rfl (L2 := [some (vR 32), some (vI goal), some (vI (((n : Nat) : Int) - 1)), some (vI (((n : Nat) : Int) - 1)), some (vI (goal - (((n : Nat) : Int) - 1))), some (vI (goal - b))]) (Nat.le_of_ble_eq_true rfl) rfl (k_inc hK (q := 120)  dX8_choose_117 rfl (y := (((n : Nat) : Int) - 1) + 1) (L2 := [some (vR 32), some (vI goal), some (vI (((n : Nat) : Int) - 1)), some (vI ((((n : Nat) : Int) - 1) + 1)), some (vI (goal - (((n : Nat) : Int) - 1))), some (vI (goal - b))]) rfl rfl (by omega) rfl (k_goto hK (t := 12) dX8_choose_120 rfl ?_)))
                    refine k_weak hK (L2 := [some (vR 32), some (vI goal), some (vI (((n : Nat) : Int) - 1)), some (vI ((((n : Nat) : Int) - 1) + 1)), none, none]) ⟨Or.inl rfl, Or.inl rfl, Or.inl rfl, Or.inl rfl, Or.inr rfl, Or.inr rfl, trivial⟩ ?_
                    have hp9 : ((n : Nat) : Int) - 1 + 1 = ((n + 1 : Nat) : Int) - 1 := by omega
                    rw [hp9]
                    refine ih (n + 1) _ (by omega) (ch_step hinv (fun j => (hdt.1 j).2) ?_)
                    unfold ab
                    omega
        · refine k_iln hK (q := 42)  dX8_choose_41 rfl (z := b) rfl (k_iln hK (q := 43)  dX8_choose_42 rfl (z := goal) rfl (k_sub hK (q := 44)  dX8_choose_43 rfl (z := b - goal) rfl (by omega) (k_goto hK (t := 50) dX8_choose_44 rfl (k_is hK (q := 52)  dX8_choose_50 rfl (L2 := [some (vR 32), some (vI goal), some (vI b), some (vI (((n : Nat) : Int) - 1)), some (vI (goal - (((n : Nat) : Int) - 1))), some (vI (b - goal))]) (Nat.le_of_ble_eq_true rfl) rfl (k_aln hK (q := 53)  dX8_choose_52 rfl (z := 32) rfl ?_)))))
          refine k_gR hK (q := 56) (r := 42) dX8_choose_53 rfl rf_X8_44 rfl rfl (k_iln hK (q := 57)  dX8_choose_56 rfl (z := (((n : Nat) : Int) - 1)) rfl (k_ic hK (q := 58)  dX8_choose_57 rfl (by decide) (k_add hK (q := 59)  dX8_choose_58 rfl (z := (((n : Nat) : Int) - 1) + 1) rfl (by omega) (k_ald hK (q := 60)  dX8_choose_59 rfl (y := M 42 ((((n : Nat) : Int) - 1) + 1)) rfl (by omega) rfl (k_ldc hK (q := 62)  dX8_choose_60 rfl rc_X8_123 ?_)))))
          refine k_cge hK (q := 65) (t := 117) dX8_choose_62 rfl rfl (fun h62 => ?_) (fun h62 => ?_)
          · refine k_inc hK (q := 120)  dX8_choose_117 rfl (y := (((n : Nat) : Int) - 1) + 1) (L2 := [some (vR 32), some (vI goal), some (vI b), some (vI ((((n : Nat) : Int) - 1) + 1)), some (vI (goal - (((n : Nat) : Int) - 1))), some (vI (b - goal))]) rfl rfl (by omega) rfl (k_goto hK (t := 12) dX8_choose_120 rfl ?_)
            refine k_weak hK (L2 := [some (vR 32), some (vI goal), some (vI b), some (vI ((((n : Nat) : Int) - 1) + 1)), none, none]) ⟨Or.inl rfl, Or.inl rfl, Or.inl rfl, Or.inl rfl, Or.inr rfl, Or.inr rfl, trivial⟩ ?_
            have hp9 : ((n : Nat) : Int) - 1 + 1 = ((n + 1 : Nat) : Int) - 1 := by omega
            rw [hp9]
            refine ih (n + 1) _ (by omega) (ch_step hinv (fun j => (hdt.1 j).2) ?_)
            unfold ab
            omega
          · refine k_iln hK (q := 66)  dX8_choose_65 rfl (z := b) rfl (k_ic hK (q := 67)  dX8_choose_66 rfl (by decide) ?_)
            refine k_clt hK (q := 70) (t := 115) dX8_choose_67 rfl rfl (fun h67 => ?_) (fun h67 => ?_)
            · refine k_iln hK (q := 116)  dX8_choose_115 rfl (z := (((n : Nat) : Int) - 1)) rfl (k_isn hK (q := 117)  dX8_choose_116 rfl (L2 := [some (vR 32), some (vI goal), some (vI (((n : Nat) : Int) - 1)), some (vI (((n : Nat) : Int) - 1)), some (vI (goal - (((n : Nat) : Int) - 1))), some (vI (b - goal))]) (Nat.le_of_ble_eq_true rfl) rfl (k_inc hK (q := 120)  dX8_choose_117 rfl (y := (((n : Nat) : Int) - 1) + 1) (L2 := [some (vR 32), some (vI goal), some (vI (((n : Nat) : Int) - 1)), some (vI ((((n : Nat) : Int) - 1) + 1)), some (vI (goal - (((n : Nat) : Int) - 1))), some (vI (b - goal))]) rfl rfl (by omega) rfl (k_goto hK (t := 12) dX8_choose_120 rfl ?_)))
              refine k_weak hK (L2 := [some (vR 32), some (vI goal), some (vI (((n : Nat) : Int) - 1)), some (vI ((((n : Nat) : Int) - 1) + 1)), none, none]) ⟨Or.inl rfl, Or.inl rfl, Or.inl rfl, Or.inl rfl, Or.inr rfl, Or.inr rfl, trivial⟩ ?_
              have hp9 : ((n : Nat) : Int) - 1 + 1 = ((n + 1 : Nat) : Int) - 1 := by omega
              rw [hp9]
              refine ih (n + 1) _ (by omega) (ch_step hinv (fun j => (hdt.1 j).2) ?_)
              unfold ab
              omega
            · refine k_aln hK (q := 71)  dX8_choose_70 rfl (z := 32) rfl (k_gR hK (q := 74) (r := 42) dX8_choose_71 rfl rf_X8_44 rfl rfl (k_iln hK (q := 75)  dX8_choose_74 rfl (z := (((n : Nat) : Int) - 1)) rfl (k_ic hK (q := 76)  dX8_choose_75 rfl (by decide) (k_add hK (q := 77)  dX8_choose_76 rfl (z := (((n : Nat) : Int) - 1) + 1) rfl (by omega) (k_ald hK (q := 78)  dX8_choose_77 rfl (y := M 42 ((((n : Nat) : Int) - 1) + 1)) rfl (by omega) rfl ?_)))))
              refine k_aln hK (q := 79)  dX8_choose_78 rfl (z := 32) rfl (k_gR hK (q := 82) (r := 42) dX8_choose_79 rfl rf_X8_44 rfl rfl (k_iln hK (q := 83)  dX8_choose_82 rfl (z := b) rfl (k_ic hK (q := 84)  dX8_choose_83 rfl (by decide) (k_add hK (q := 85)  dX8_choose_84 rfl (z := b + 1) rfl (by omega) (k_ald hK (q := 86)  dX8_choose_85 rfl (y := M 42 (b + 1)) rfl (by omega) rfl ?_)))))
              refine k_clt hK (q := 89) (t := 115) dX8_choose_86 rfl rfl (fun h86 => ?_) (fun h86 => ?_)
              · refine k_iln hK (q := 116)  dX8_choose_115 rfl (z := (((n : Nat) : Int) - 1)) rfl (k_isn hK (q := 117)  dX8_choose_116 rfl (L2 := [some (vR 32), some (vI goal), some (vI (((n : Nat) : Int) - 1)), some (vI (((n : Nat) : Int) - 1)), some (vI (goal - (((n : Nat) : Int) - 1))), some (vI (b - goal))]) (Nat.le_of_ble_eq_true rfl) rfl (k_inc hK (q := 120)  dX8_choose_117 rfl (y := (((n : Nat) : Int) - 1) + 1) (L2 := [some (vR 32), some (vI goal), some (vI (((n : Nat) : Int) - 1)), some (vI ((((n : Nat) : Int) - 1) + 1)), some (vI (goal - (((n : Nat) : Int) - 1))), some (vI (b - goal))]) rfl rfl (by omega) rfl (k_goto hK (t := 12) dX8_choose_120 rfl ?_)))
                refine k_weak hK (L2 := [some (vR 32), some (vI goal), some (vI (((n : Nat) : Int) - 1)), some (vI ((((n : Nat) : Int) - 1) + 1)), none, none]) ⟨Or.inl rfl, Or.inl rfl, Or.inl rfl, Or.inl rfl, Or.inr rfl, Or.inr rfl, trivial⟩ ?_
                have hp9 : ((n : Nat) : Int) - 1 + 1 = ((n + 1 : Nat) : Int) - 1 := by omega
                rw [hp9]
                refine ih (n + 1) _ (by omega) (ch_step hinv (fun j => (hdt.1 j).2) ?_)
                unfold ab
                omega
              · refine k_aln hK (q := 90)  dX8_choose_89 rfl (z := 32) rfl (k_gR hK (q := 93) (r := 42) dX8_choose_90 rfl rf_X8_44 rfl rfl (k_iln hK (q := 94)  dX8_choose_93 rfl (z := (((n : Nat) : Int) - 1)) rfl (k_ic hK (q := 95)  dX8_choose_94 rfl (by decide) (k_add hK (q := 96)  dX8_choose_95 rfl (z := (((n : Nat) : Int) - 1) + 1) rfl (by omega) (k_ald hK (q := 97)  dX8_choose_96 rfl (y := M 42 ((((n : Nat) : Int) - 1) + 1)) rfl (by omega) rfl ?_)))))
                refine k_aln hK (q := 98)  dX8_choose_97 rfl (z := 32) rfl (k_gR hK (q := 101) (r := 42) dX8_choose_98 rfl rf_X8_44 rfl rfl (k_iln hK (q := 102)  dX8_choose_101 rfl (z := b) rfl (k_ic hK (q := 103)  dX8_choose_102 rfl (by decide) (k_add hK (q := 104)  dX8_choose_103 rfl (z := b + 1) rfl (by omega) (k_ald hK (q := 105)  dX8_choose_104 rfl (y := M 42 (b + 1)) rfl (by omega) rfl ?_)))))
                refine k_cne hK (q := 108) (t := 117) dX8_choose_105 rfl rfl (fun h105 => ?_) (fun h105 => ?_)
                · refine k_inc hK (q := 120)  dX8_choose_117 rfl (y := (((n : Nat) : Int) - 1) + 1) (L2 := [some (vR 32), some (vI goal), some (vI b), some (vI ((((n : Nat) : Int) - 1) + 1)), some (vI (goal - (((n : Nat) : Int) - 1))), some (vI (b - goal))]) rfl rfl (by omega) rfl (k_goto hK (t := 12) dX8_choose_120 rfl ?_)
                  refine k_weak hK (L2 := [some (vR 32), some (vI goal), some (vI b), some (vI ((((n : Nat) : Int) - 1) + 1)), none, none]) ⟨Or.inl rfl, Or.inl rfl, Or.inl rfl, Or.inl rfl, Or.inr rfl, Or.inr rfl, trivial⟩ ?_
                  have hp9 : ((n : Nat) : Int) - 1 + 1 = ((n + 1 : Nat) : Int) - 1 := by omega
                  rw [hp9]
                  refine ih (n + 1) _ (by omega) (ch_step hinv (fun j => (hdt.1 j).2) ?_)
                  unfold ab
                  omega
                · refine k_il hK (q := 110)  dX8_choose_108 rfl (z := (goal - (((n : Nat) : Int) - 1))) rfl (k_il hK (q := 112)  dX8_choose_110 rfl (z := (b - goal)) rfl ?_)
                  refine k_cge hK (q := 115) (t := 117) dX8_choose_112 rfl rfl (fun h112 => ?_) (fun h112 => ?_)
                  · refine k_inc hK (q := 120)  dX8_choose_117 rfl (y := (((n : Nat) : Int) - 1) + 1) (L2 := [some (vR 32), some (vI goal), some (vI b), some (vI ((((n : Nat) : Int) - 1) + 1)), some (vI (goal - (((n : Nat) : Int) - 1))), some (vI (b - goal))]) rfl rfl (by omega) rfl (k_goto hK (t := 12) dX8_choose_120 rfl ?_)
                    refine k_weak hK (L2 := [some (vR 32), some (vI goal), some (vI b), some (vI ((((n : Nat) : Int) - 1) + 1)), none, none]) ⟨Or.inl rfl, Or.inl rfl, Or.inl rfl, Or.inl rfl, Or.inr rfl, Or.inr rfl, trivial⟩ ?_
                    have hp9 : ((n : Nat) : Int) - 1 + 1 = ((n + 1 : Nat) : Int) - 1 := by omega
                    rw [hp9]
                    refine ih (n + 1) _ (by omega) (ch_step hinv (fun j => (hdt.1 j).2) ?_)
                    unfold ab
                    omega
                  · refine k_iln hK (q := 116)  dX8_choose_115 rfl (z := (((n : Nat) : Int) - 1)) rfl (k_isn hK (q := 117)  dX8_choose_116 rfl (L2 := [some (vR 32), some (vI goal), some (vI (((n : Nat) : Int) - 1)), some (vI (((n : Nat) : Int) - 1)), some (vI (goal - (((n : Nat) : Int) - 1))), some (vI (b - goal))]) (Nat.le_of_ble_eq_true rfl) rfl (k_inc hK (q := 120)  dX8_choose_117 rfl (y := (((n : Nat) : Int) - 1) + 1) (L2 := [some (vR 32), some (vI goal), some (vI (((n : Nat) : Int) - 1)), some (vI ((((n : Nat) : Int) - 1) + 1)), some (vI (goal - (((n : Nat) : Int) - 1))), some (vI (b - goal))]) rfl rfl (by omega) rfl (k_goto hK (t := 12) dX8_choose_120 rfl ?_)))
                    refine k_weak hK (L2 := [some (vR 32), some (vI goal), some (vI (((n : Nat) : Int) - 1)), some (vI ((((n : Nat) : Int) - 1) + 1)), none, none]) ⟨Or.inl rfl, Or.inl rfl, Or.inl rfl, Or.inl rfl, Or.inr rfl, Or.inr rfl, trivial⟩ ?_
                    have hp9 : ((n : Nat) : Int) - 1 + 1 = ((n + 1 : Nat) : Int) - 1 := by omega
                    rw [hp9]
                    refine ih (n + 1) _ (by omega) (ch_step hinv (fun j => (hdt.1 j).2) ?_)
                    unfold ab
                    omega
      · refine k_iln hK (q := 26)  dX8_choose_25 rfl (z := (((n : Nat) : Int) - 1)) rfl (k_iln hK (q := 27)  dX8_choose_26 rfl (z := goal) rfl (k_sub hK (q := 28)  dX8_choose_27 rfl (z := (((n : Nat) : Int) - 1) - goal) rfl (by omega) (k_goto hK (t := 34) dX8_choose_28 rfl (k_is hK (q := 36)  dX8_choose_34 rfl (L2 := [some (vR 32), some (vI goal), some (vI b), some (vI (((n : Nat) : Int) - 1)), some (vI ((((n : Nat) : Int) - 1) - goal)), none]) (Nat.le_of_ble_eq_true rfl) rfl (k_iln hK (q := 37)  dX8_choose_36 rfl (z := b) rfl ?_)))))
        refine k_iln hK (q := 38)  dX8_choose_37 rfl (z := goal) rfl ?_
        refine k_cle hK (q := 41) (t := 47) dX8_choose_38 rfl rfl (fun h38 => ?_) (fun h38 => ?_)
        · refine k_iln hK (q := 48)  dX8_choose_47 rfl (z := goal) rfl (k_iln hK (q := 49)  dX8_choose_48 rfl (z := b) rfl (k_sub hK (q := 50)  dX8_choose_49 rfl (z := goal - b) rfl (by omega) (k_is hK (q := 52)  dX8_choose_50 rfl (L2 := [some (vR 32), some (vI goal), some (vI b), some (vI (((n : Nat) : Int) - 1)), some (vI ((((n : Nat) : Int) - 1) - goal)), some (vI (goal - b))]) (Nat.le_of_ble_eq_true rfl) rfl (k_aln hK (q := 53)  dX8_choose_52 rfl (z := 32) rfl (k_gR hK (q := 56) (r := 42) dX8_choose_53 rfl rf_X8_44 rfl rfl ?_)))))
          refine k_iln hK (q := 57)  dX8_choose_56 rfl (z := (((n : Nat) : Int) - 1)) rfl (k_ic hK (q := 58)  dX8_choose_57 rfl (by decide) (k_add hK (q := 59)  dX8_choose_58 rfl (z := (((n : Nat) : Int) - 1) + 1) rfl (by omega) (k_ald hK (q := 60)  dX8_choose_59 rfl (y := M 42 ((((n : Nat) : Int) - 1) + 1)) rfl (by omega) rfl (k_ldc hK (q := 62)  dX8_choose_60 rfl rc_X8_123 ?_))))
          refine k_cge hK (q := 65) (t := 117) dX8_choose_62 rfl rfl (fun h62 => ?_) (fun h62 => ?_)
          · refine k_inc hK (q := 120)  dX8_choose_117 rfl (y := (((n : Nat) : Int) - 1) + 1) (L2 := [some (vR 32), some (vI goal), some (vI b), some (vI ((((n : Nat) : Int) - 1) + 1)), some (vI ((((n : Nat) : Int) - 1) - goal)), some (vI (goal - b))]) rfl rfl (by omega) rfl (k_goto hK (t := 12) dX8_choose_120 rfl ?_)
            refine k_weak hK (L2 := [some (vR 32), some (vI goal), some (vI b), some (vI ((((n : Nat) : Int) - 1) + 1)), none, none]) ⟨Or.inl rfl, Or.inl rfl, Or.inl rfl, Or.inl rfl, Or.inr rfl, Or.inr rfl, trivial⟩ ?_
            have hp9 : ((n : Nat) : Int) - 1 + 1 = ((n + 1 : Nat) : Int) - 1 := by omega
            rw [hp9]
            refine ih (n + 1) _ (by omega) (ch_step hinv (fun j => (hdt.1 j).2) ?_)
            unfold ab
            omega
          · refine k_iln hK (q := 66)  dX8_choose_65 rfl (z := b) rfl (k_ic hK (q := 67)  dX8_choose_66 rfl (by decide) ?_)
            refine k_clt hK (q := 70) (t := 115) dX8_choose_67 rfl rfl (fun h67 => ?_) (fun h67 => ?_)
            · refine k_iln hK (q := 116)  dX8_choose_115 rfl (z := (((n : Nat) : Int) - 1)) rfl (k_isn hK (q := 117)  dX8_choose_116 rfl (L2 := [some (vR 32), some (vI goal), some (vI (((n : Nat) : Int) - 1)), some (vI (((n : Nat) : Int) - 1)), some (vI ((((n : Nat) : Int) - 1) - goal)), some (vI (goal - b))]) (Nat.le_of_ble_eq_true rfl) rfl (k_inc hK (q := 120)  dX8_choose_117 rfl (y := (((n : Nat) : Int) - 1) + 1) (L2 := [some (vR 32), some (vI goal), some (vI (((n : Nat) : Int) - 1)), some (vI ((((n : Nat) : Int) - 1) + 1)), some (vI ((((n : Nat) : Int) - 1) - goal)), some (vI (goal - b))]) rfl rfl (by omega) rfl (k_goto hK (t := 12) dX8_choose_120 rfl ?_)))
              refine k_weak hK (L2 := [some (vR 32), some (vI goal), some (vI (((n : Nat) : Int) - 1)), some (vI ((((n : Nat) : Int) - 1) + 1)), none, none]) ⟨Or.inl rfl, Or.inl rfl, Or.inl rfl, Or.inl rfl, Or.inr rfl, Or.inr rfl, trivial⟩ ?_
              have hp9 : ((n : Nat) : Int) - 1 + 1 = ((n + 1 : Nat) : Int) - 1 := by omega
              rw [hp9]
              refine ih (n + 1) _ (by omega) (ch_step hinv (fun j => (hdt.1 j).2) ?_)
              unfold ab
              omega
            · refine k_aln hK (q := 71)  dX8_choose_70 rfl (z := 32) rfl (k_gR hK (q := 74) (r := 42) dX8_choose_71 rfl rf_X8_44 rfl rfl (k_iln hK (q := 75)  dX8_choose_74 rfl (z := (((n : Nat) : Int) - 1)) rfl (k_ic hK (q := 76)  dX8_choose_75 rfl (by decide) (k_add hK (q := 77)  dX8_choose_76 rfl (z := (((n : Nat) : Int) - 1) + 1) rfl (by omega) (k_ald hK (q := 78)  dX8_choose_77 rfl (y := M 42 ((((n : Nat) : Int) - 1) + 1)) rfl (by omega) rfl ?_)))))
              refine k_aln hK (q := 79)  dX8_choose_78 rfl (z := 32) rfl (k_gR hK (q := 82) (r := 42) dX8_choose_79 rfl rf_X8_44 rfl rfl (k_iln hK (q := 83)  dX8_choose_82 rfl (z := b) rfl (k_ic hK (q := 84)  dX8_choose_83 rfl (by decide) (k_add hK (q := 85)  dX8_choose_84 rfl (z := b + 1) rfl (by omega) (k_ald hK (q := 86)  dX8_choose_85 rfl (y := M 42 (b + 1)) rfl (by omega) rfl ?_)))))
              refine k_clt hK (q := 89) (t := 115) dX8_choose_86 rfl rfl (fun h86 => ?_) (fun h86 => ?_)
              · refine k_iln hK (q := 116)  dX8_choose_115 rfl (z := (((n : Nat) : Int) - 1)) rfl (k_isn hK (q := 117)  dX8_choose_116 rfl (L2 := [some (vR 32), some (vI goal), some (vI (((n : Nat) : Int) - 1)), some (vI (((n : Nat) : Int) - 1)), some (vI ((((n : Nat) : Int) - 1) - goal)), some (vI (goal - b))]) (Nat.le_of_ble_eq_true rfl) rfl (k_inc hK (q := 120)  dX8_choose_117 rfl (y := (((n : Nat) : Int) - 1) + 1) (L2 := [some (vR 32), some (vI goal), some (vI (((n : Nat) : Int) - 1)), some (vI ((((n : Nat) : Int) - 1) + 1)), some (vI ((((n : Nat) : Int) - 1) - goal)), some (vI (goal - b))]) rfl rfl (by omega) rfl (k_goto hK (t := 12) dX8_choose_120 rfl ?_)))
                refine k_weak hK (L2 := [some (vR 32), some (vI goal), some (vI (((n : Nat) : Int) - 1)), some (vI ((((n : Nat) : Int) - 1) + 1)), none, none]) ⟨Or.inl rfl, Or.inl rfl, Or.inl rfl, Or.inl rfl, Or.inr rfl, Or.inr rfl, trivial⟩ ?_
                have hp9 : ((n : Nat) : Int) - 1 + 1 = ((n + 1 : Nat) : Int) - 1 := by omega
                rw [hp9]
                refine ih (n + 1) _ (by omega) (ch_step hinv (fun j => (hdt.1 j).2) ?_)
                unfold ab
                omega
              · refine k_aln hK (q := 90)  dX8_choose_89 rfl (z := 32) rfl (k_gR hK (q := 93) (r := 42) dX8_choose_90 rfl rf_X8_44 rfl rfl (k_iln hK (q := 94)  dX8_choose_93 rfl (z := (((n : Nat) : Int) - 1)) rfl (k_ic hK (q := 95)  dX8_choose_94 rfl (by decide) (k_add hK (q := 96)  dX8_choose_95 rfl (z := (((n : Nat) : Int) - 1) + 1) rfl (by omega) (k_ald hK (q := 97)  dX8_choose_96 rfl (y := M 42 ((((n : Nat) : Int) - 1) + 1)) rfl (by omega) rfl ?_)))))
                refine k_aln hK (q := 98)  dX8_choose_97 rfl (z := 32) rfl (k_gR hK (q := 101) (r := 42) dX8_choose_98 rfl rf_X8_44 rfl rfl (k_iln hK (q := 102)  dX8_choose_101 rfl (z := b) rfl (k_ic hK (q := 103)  dX8_choose_102 rfl (by decide) (k_add hK (q := 104)  dX8_choose_103 rfl (z := b + 1) rfl (by omega) (k_ald hK (q := 105)  dX8_choose_104 rfl (y := M 42 (b + 1)) rfl (by omega) rfl ?_)))))
                refine k_cne hK (q := 108) (t := 117) dX8_choose_105 rfl rfl (fun h105 => ?_) (fun h105 => ?_)
                · refine k_inc hK (q := 120)  dX8_choose_117 rfl (y := (((n : Nat) : Int) - 1) + 1) (L2 := [some (vR 32), some (vI goal), some (vI b), some (vI ((((n : Nat) : Int) - 1) + 1)), some (vI ((((n : Nat) : Int) - 1) - goal)), some (vI (goal - b))]) rfl rfl (by omega) rfl (k_goto hK (t := 12) dX8_choose_120 rfl ?_)
                  refine k_weak hK (L2 := [some (vR 32), some (vI goal), some (vI b), some (vI ((((n : Nat) : Int) - 1) + 1)), none, none]) ⟨Or.inl rfl, Or.inl rfl, Or.inl rfl, Or.inl rfl, Or.inr rfl, Or.inr rfl, trivial⟩ ?_
                  have hp9 : ((n : Nat) : Int) - 1 + 1 = ((n + 1 : Nat) : Int) - 1 := by omega
                  rw [hp9]
                  refine ih (n + 1) _ (by omega) (ch_step hinv (fun j => (hdt.1 j).2) ?_)
                  unfold ab
                  omega
                · refine k_il hK (q := 110)  dX8_choose_108 rfl (z := ((((n : Nat) : Int) - 1) - goal)) rfl (k_il hK (q := 112)  dX8_choose_110 rfl (z := (goal - b)) rfl ?_)
                  refine k_cge hK (q := 115) (t := 117) dX8_choose_112 rfl rfl (fun h112 => ?_) (fun h112 => ?_)
                  · refine k_inc hK (q := 120)  dX8_choose_117 rfl (y := (((n : Nat) : Int) - 1) + 1) (L2 := [some (vR 32), some (vI goal), some (vI b), some (vI ((((n : Nat) : Int) - 1) + 1)), some (vI ((((n : Nat) : Int) - 1) - goal)), some (vI (goal - b))]) rfl rfl (by omega) rfl (k_goto hK (t := 12) dX8_choose_120 rfl ?_)
                    refine k_weak hK (L2 := [some (vR 32), some (vI goal), some (vI b), some (vI ((((n : Nat) : Int) - 1) + 1)), none, none]) ⟨Or.inl rfl, Or.inl rfl, Or.inl rfl, Or.inl rfl, Or.inr rfl, Or.inr rfl, trivial⟩ ?_
                    have hp9 : ((n : Nat) : Int) - 1 + 1 = ((n + 1 : Nat) : Int) - 1 := by omega
                    rw [hp9]
                    refine ih (n + 1) _ (by omega) (ch_step hinv (fun j => (hdt.1 j).2) ?_)
                    unfold ab
                    omega
                  · refine k_iln hK (q := 116)  dX8_choose_115 rfl (z := (((n : Nat) : Int) - 1)) rfl (k_isn hK (q := 117)  dX8_choose_116 rfl (L2 := [some (vR 32), some (vI goal), some (vI (((n : Nat) : Int) - 1)), some (vI (((n : Nat) : Int) - 1)), some (vI ((((n : Nat) : Int) - 1) - goal)), some (vI (goal - b))]) (Nat.le_of_ble_eq_true rfl) rfl (k_inc hK (q := 120)  dX8_choose_117 rfl (y := (((n : Nat) : Int) - 1) + 1) (L2 := [some (vR 32), some (vI goal), some (vI (((n : Nat) : Int) - 1)), some (vI ((((n : Nat) : Int) - 1) + 1)), some (vI ((((n : Nat) : Int) - 1) - goal)), some (vI (goal - b))]) rfl rfl (by omega) rfl (k_goto hK (t := 12) dX8_choose_120 rfl ?_)))
                    refine k_weak hK (L2 := [some (vR 32), some (vI goal), some (vI (((n : Nat) : Int) - 1)), some (vI ((((n : Nat) : Int) - 1) + 1)), none, none]) ⟨Or.inl rfl, Or.inl rfl, Or.inl rfl, Or.inl rfl, Or.inr rfl, Or.inr rfl, trivial⟩ ?_
                    have hp9 : ((n : Nat) : Int) - 1 + 1 = ((n + 1 : Nat) : Int) - 1 := by omega
                    rw [hp9]
                    refine ih (n + 1) _ (by omega) (ch_step hinv (fun j => (hdt.1 j).2) ?_)
                    unfold ab
                    omega
        · refine k_iln hK (q := 42)  dX8_choose_41 rfl (z := b) rfl (k_iln hK (q := 43)  dX8_choose_42 rfl (z := goal) rfl (k_sub hK (q := 44)  dX8_choose_43 rfl (z := b - goal) rfl (by omega) (k_goto hK (t := 50) dX8_choose_44 rfl (k_is hK (q := 52)  dX8_choose_50 rfl (L2 := [some (vR 32), some (vI goal), some (vI b), some (vI (((n : Nat) : Int) - 1)), some (vI ((((n : Nat) : Int) - 1) - goal)), some (vI (b - goal))]) (Nat.le_of_ble_eq_true rfl) rfl (k_aln hK (q := 53)  dX8_choose_52 rfl (z := 32) rfl ?_)))))
          refine k_gR hK (q := 56) (r := 42) dX8_choose_53 rfl rf_X8_44 rfl rfl (k_iln hK (q := 57)  dX8_choose_56 rfl (z := (((n : Nat) : Int) - 1)) rfl (k_ic hK (q := 58)  dX8_choose_57 rfl (by decide) (k_add hK (q := 59)  dX8_choose_58 rfl (z := (((n : Nat) : Int) - 1) + 1) rfl (by omega) (k_ald hK (q := 60)  dX8_choose_59 rfl (y := M 42 ((((n : Nat) : Int) - 1) + 1)) rfl (by omega) rfl (k_ldc hK (q := 62)  dX8_choose_60 rfl rc_X8_123 ?_)))))
          refine k_cge hK (q := 65) (t := 117) dX8_choose_62 rfl rfl (fun h62 => ?_) (fun h62 => ?_)
          · refine k_inc hK (q := 120)  dX8_choose_117 rfl (y := (((n : Nat) : Int) - 1) + 1) (L2 := [some (vR 32), some (vI goal), some (vI b), some (vI ((((n : Nat) : Int) - 1) + 1)), some (vI ((((n : Nat) : Int) - 1) - goal)), some (vI (b - goal))]) rfl rfl (by omega) rfl (k_goto hK (t := 12) dX8_choose_120 rfl ?_)
            refine k_weak hK (L2 := [some (vR 32), some (vI goal), some (vI b), some (vI ((((n : Nat) : Int) - 1) + 1)), none, none]) ⟨Or.inl rfl, Or.inl rfl, Or.inl rfl, Or.inl rfl, Or.inr rfl, Or.inr rfl, trivial⟩ ?_
            have hp9 : ((n : Nat) : Int) - 1 + 1 = ((n + 1 : Nat) : Int) - 1 := by omega
            rw [hp9]
            refine ih (n + 1) _ (by omega) (ch_step hinv (fun j => (hdt.1 j).2) ?_)
            unfold ab
            omega
          · refine k_iln hK (q := 66)  dX8_choose_65 rfl (z := b) rfl (k_ic hK (q := 67)  dX8_choose_66 rfl (by decide) ?_)
            refine k_clt hK (q := 70) (t := 115) dX8_choose_67 rfl rfl (fun h67 => ?_) (fun h67 => ?_)
            · refine k_iln hK (q := 116)  dX8_choose_115 rfl (z := (((n : Nat) : Int) - 1)) rfl (k_isn hK (q := 117)  dX8_choose_116 rfl (L2 := [some (vR 32), some (vI goal), some (vI (((n : Nat) : Int) - 1)), some (vI (((n : Nat) : Int) - 1)), some (vI ((((n : Nat) : Int) - 1) - goal)), some (vI (b - goal))]) (Nat.le_of_ble_eq_true rfl) rfl (k_inc hK (q := 120)  dX8_choose_117 rfl (y := (((n : Nat) : Int) - 1) + 1) (L2 := [some (vR 32), some (vI goal), some (vI (((n : Nat) : Int) - 1)), some (vI ((((n : Nat) : Int) - 1) + 1)), some (vI ((((n : Nat) : Int) - 1) - goal)), some (vI (b - goal))]) rfl rfl (by omega) rfl (k_goto hK (t := 12) dX8_choose_120 rfl ?_)))
              refine k_weak hK (L2 := [some (vR 32), some (vI goal), some (vI (((n : Nat) : Int) - 1)), some (vI ((((n : Nat) : Int) - 1) + 1)), none, none]) ⟨Or.inl rfl, Or.inl rfl, Or.inl rfl, Or.inl rfl, Or.inr rfl, Or.inr rfl, trivial⟩ ?_
              have hp9 : ((n : Nat) : Int) - 1 + 1 = ((n + 1 : Nat) : Int) - 1 := by omega
              rw [hp9]
              refine ih (n + 1) _ (by omega) (ch_step hinv (fun j => (hdt.1 j).2) ?_)
              unfold ab
              omega
            · refine k_aln hK (q := 71)  dX8_choose_70 rfl (z := 32) rfl (k_gR hK (q := 74) (r := 42) dX8_choose_71 rfl rf_X8_44 rfl rfl (k_iln hK (q := 75)  dX8_choose_74 rfl (z := (((n : Nat) : Int) - 1)) rfl (k_ic hK (q := 76)  dX8_choose_75 rfl (by decide) (k_add hK (q := 77)  dX8_choose_76 rfl (z := (((n : Nat) : Int) - 1) + 1) rfl (by omega) (k_ald hK (q := 78)  dX8_choose_77 rfl (y := M 42 ((((n : Nat) : Int) - 1) + 1)) rfl (by omega) rfl ?_)))))
              refine k_aln hK (q := 79)  dX8_choose_78 rfl (z := 32) rfl (k_gR hK (q := 82) (r := 42) dX8_choose_79 rfl rf_X8_44 rfl rfl (k_iln hK (q := 83)  dX8_choose_82 rfl (z := b) rfl (k_ic hK (q := 84)  dX8_choose_83 rfl (by decide) (k_add hK (q := 85)  dX8_choose_84 rfl (z := b + 1) rfl (by omega) (k_ald hK (q := 86)  dX8_choose_85 rfl (y := M 42 (b + 1)) rfl (by omega) rfl ?_)))))
              refine k_clt hK (q := 89) (t := 115) dX8_choose_86 rfl rfl (fun h86 => ?_) (fun h86 => ?_)
              · refine k_iln hK (q := 116)  dX8_choose_115 rfl (z := (((n : Nat) : Int) - 1)) rfl (k_isn hK (q := 117)  dX8_choose_116 rfl (L2 := [some (vR 32), some (vI goal), some (vI (((n : Nat) : Int) - 1)), some (vI (((n : Nat) : Int) - 1)), some (vI ((((n : Nat) : Int) - 1) - goal)), some (vI (b - goal))]) (Nat.le_of_ble_eq_true rfl) rfl (k_inc hK (q := 120)  dX8_choose_117 rfl (y := (((n : Nat) : Int) - 1) + 1) (L2 := [some (vR 32), some (vI goal), some (vI (((n : Nat) : Int) - 1)), some (vI ((((n : Nat) : Int) - 1) + 1)), some (vI ((((n : Nat) : Int) - 1) - goal)), some (vI (b - goal))]) rfl rfl (by omega) rfl (k_goto hK (t := 12) dX8_choose_120 rfl ?_)))
                refine k_weak hK (L2 := [some (vR 32), some (vI goal), some (vI (((n : Nat) : Int) - 1)), some (vI ((((n : Nat) : Int) - 1) + 1)), none, none]) ⟨Or.inl rfl, Or.inl rfl, Or.inl rfl, Or.inl rfl, Or.inr rfl, Or.inr rfl, trivial⟩ ?_
                have hp9 : ((n : Nat) : Int) - 1 + 1 = ((n + 1 : Nat) : Int) - 1 := by omega
                rw [hp9]
                refine ih (n + 1) _ (by omega) (ch_step hinv (fun j => (hdt.1 j).2) ?_)
                unfold ab
                omega
              · refine k_aln hK (q := 90)  dX8_choose_89 rfl (z := 32) rfl (k_gR hK (q := 93) (r := 42) dX8_choose_90 rfl rf_X8_44 rfl rfl (k_iln hK (q := 94)  dX8_choose_93 rfl (z := (((n : Nat) : Int) - 1)) rfl (k_ic hK (q := 95)  dX8_choose_94 rfl (by decide) (k_add hK (q := 96)  dX8_choose_95 rfl (z := (((n : Nat) : Int) - 1) + 1) rfl (by omega) (k_ald hK (q := 97)  dX8_choose_96 rfl (y := M 42 ((((n : Nat) : Int) - 1) + 1)) rfl (by omega) rfl ?_)))))
                refine k_aln hK (q := 98)  dX8_choose_97 rfl (z := 32) rfl (k_gR hK (q := 101) (r := 42) dX8_choose_98 rfl rf_X8_44 rfl rfl (k_iln hK (q := 102)  dX8_choose_101 rfl (z := b) rfl (k_ic hK (q := 103)  dX8_choose_102 rfl (by decide) (k_add hK (q := 104)  dX8_choose_103 rfl (z := b + 1) rfl (by omega) (k_ald hK (q := 105)  dX8_choose_104 rfl (y := M 42 (b + 1)) rfl (by omega) rfl ?_)))))
                refine k_cne hK (q := 108) (t := 117) dX8_choose_105 rfl rfl (fun h105 => ?_) (fun h105 => ?_)
                · refine k_inc hK (q := 120)  dX8_choose_117 rfl (y := (((n : Nat) : Int) - 1) + 1) (L2 := [some (vR 32), some (vI goal), some (vI b), some (vI ((((n : Nat) : Int) - 1) + 1)), some (vI ((((n : Nat) : Int) - 1) - goal)), some (vI (b - goal))]) rfl rfl (by omega) rfl (k_goto hK (t := 12) dX8_choose_120 rfl ?_)
                  refine k_weak hK (L2 := [some (vR 32), some (vI goal), some (vI b), some (vI ((((n : Nat) : Int) - 1) + 1)), none, none]) ⟨Or.inl rfl, Or.inl rfl, Or.inl rfl, Or.inl rfl, Or.inr rfl, Or.inr rfl, trivial⟩ ?_
                  have hp9 : ((n : Nat) : Int) - 1 + 1 = ((n + 1 : Nat) : Int) - 1 := by omega
                  rw [hp9]
                  refine ih (n + 1) _ (by omega) (ch_step hinv (fun j => (hdt.1 j).2) ?_)
                  unfold ab
                  omega
                · refine k_il hK (q := 110)  dX8_choose_108 rfl (z := ((((n : Nat) : Int) - 1) - goal)) rfl (k_il hK (q := 112)  dX8_choose_110 rfl (z := (b - goal)) rfl ?_)
                  refine k_cge hK (q := 115) (t := 117) dX8_choose_112 rfl rfl (fun h112 => ?_) (fun h112 => ?_)
                  · refine k_inc hK (q := 120)  dX8_choose_117 rfl (y := (((n : Nat) : Int) - 1) + 1) (L2 := [some (vR 32), some (vI goal), some (vI b), some (vI ((((n : Nat) : Int) - 1) + 1)), some (vI ((((n : Nat) : Int) - 1) - goal)), some (vI (b - goal))]) rfl rfl (by omega) rfl (k_goto hK (t := 12) dX8_choose_120 rfl ?_)
                    refine k_weak hK (L2 := [some (vR 32), some (vI goal), some (vI b), some (vI ((((n : Nat) : Int) - 1) + 1)), none, none]) ⟨Or.inl rfl, Or.inl rfl, Or.inl rfl, Or.inl rfl, Or.inr rfl, Or.inr rfl, trivial⟩ ?_
                    have hp9 : ((n : Nat) : Int) - 1 + 1 = ((n + 1 : Nat) : Int) - 1 := by omega
                    rw [hp9]
                    refine ih (n + 1) _ (by omega) (ch_step hinv (fun j => (hdt.1 j).2) ?_)
                    unfold ab
                    omega
                  · refine k_iln hK (q := 116)  dX8_choose_115 rfl (z := (((n : Nat) : Int) - 1)) rfl (k_isn hK (q := 117)  dX8_choose_116 rfl (L2 := [some (vR 32), some (vI goal), some (vI (((n : Nat) : Int) - 1)), some (vI (((n : Nat) : Int) - 1)), some (vI ((((n : Nat) : Int) - 1) - goal)), some (vI (b - goal))]) (Nat.le_of_ble_eq_true rfl) rfl (k_inc hK (q := 120)  dX8_choose_117 rfl (y := (((n : Nat) : Int) - 1) + 1) (L2 := [some (vR 32), some (vI goal), some (vI (((n : Nat) : Int) - 1)), some (vI ((((n : Nat) : Int) - 1) + 1)), some (vI ((((n : Nat) : Int) - 1) - goal)), some (vI (b - goal))]) rfl rfl (by omega) rfl (k_goto hK (t := 12) dX8_choose_120 rfl ?_)))
                    refine k_weak hK (L2 := [some (vR 32), some (vI goal), some (vI (((n : Nat) : Int) - 1)), some (vI ((((n : Nat) : Int) - 1) + 1)), none, none]) ⟨Or.inl rfl, Or.inl rfl, Or.inl rfl, Or.inl rfl, Or.inr rfl, Or.inr rfl, trivial⟩ ?_
                    have hp9 : ((n : Nat) : Int) - 1 + 1 = ((n + 1 : Nat) : Int) - 1 := by omega
                    rw [hp9]
                    refine ih (n + 1) _ (by omega) (ch_step hinv (fun j => (hdt.1 j).2) ?_)
                    unfold ab
                    omega

set_option maxRecDepth 20000 in
set_option maxHeartbeats 2000000 in
theorem choose_b {C : Nat → List ra_V → ra_M → (Option ra_V → ra_M → Prop) → Prop} {Q : Option ra_V → ra_M → Prop} {K : Nat → ra_L → List ra_V → ra_M → Prop} (hK : ra_Clo C m_X8_choose cX8_choose Q K) {S : Sc} (hS : okSc S) {M0 : ra_M} {t : Int → Int} {goal b P : Int} (hP : -1 ≤ P ∧ P < 60)
    (hX : ∀ (M : ra_M), eq61 (M 42) (fgt S t P) → frM [42] [] M0 M → Q none M) :
    ∀ (m n : Nat) (M : ra_M), n + m = (S 0 0).toNat + 1 → scM M = S → M 32 19 = P → (∀ j : Int, 0 ≤ j → j < (n : Nat) → M 42 j = fgt S t P j) → (∀ j : Int, (n : Nat) ≤ j → j ≤ 60 → M 42 j = t j) → frM [42] [] M0 M → K 130 [some (vR 32), some (vI goal), some (vI b), some (vI (((n : Nat) : Int) - 1)), none, none] [] M := by
  have hNV : NV = 1000000000 := rfl
  have hs0 := hS.1
  intro m
  induction m with
  | zero =>
    intro n M hn hs h19 h1 h2 hf
    obtain ⟨e5, e6, e7, e8, e9⟩ := scM_e hs
    refine k_iln hK (q := 131)  dX8_choose_130 rfl (z := (((n : Nat) : Int) - 1)) rfl (k_aln hK (q := 132)  dX8_choose_131 rfl (z := 32) rfl (k_gI hK (q := 135) (z := M 32 4) 0 dX8_choose_132 rfl rf_X8_86 rfl rfl rfl rfl ?_))
    refine k_cge hK (q := 138) (t := 199) dX8_choose_135 rfl rfl (fun h135 => ?_) (fun h135 => ?_)
    · refine k_vr hK dX8_choose_199 rfl ?_
      refine hX M (fun j a b9 => ?_) hf
      by_cases hj : j < (n : Nat)
      · exact h1 j a hj
      · rw [h2 j (by omega) b9]
        unfold fgt
        rw [if_neg (by omega)]
    · exact absurd h135 (by omega)
  | succ m ih =>
    intro n M hn hs h19 h1 h2 hf
    obtain ⟨e5, e6, e7, e8, e9⟩ := scM_e hs
    have hgo : ∀ M9, K 130 [some (vR 32), some (vI goal), some (vI b), some (vI (((n + 1 : Nat) : Int) - 1)), none, none] [] M9 → K 130 [some (vR 32), some (vI goal), some (vI b), some (vI (((n : Nat) : Int) - 1 + 1)), none, none] [] M9 := by
      intro M9 h
      rw [show ((n : Nat) : Int) - 1 + 1 = ((n + 1 : Nat) : Int) - 1 by omega]
      exact h
    have hv1 : M 42 (((n : Nat) : Int) - 1 + 1) = t (n : Nat) := by rw [show ((n : Nat) : Int) - 1 + 1 = (n : Nat) by omega]; exact h2 _ (by omega) (by omega)
    refine k_iln hK (q := 131)  dX8_choose_130 rfl (z := (((n : Nat) : Int) - 1)) rfl (k_aln hK (q := 132)  dX8_choose_131 rfl (z := 32) rfl (k_gI hK (q := 135) (z := M 32 4) 0 dX8_choose_132 rfl rf_X8_86 rfl rfl rfl rfl ?_))
    refine k_cge hK (q := 138) (t := 199) dX8_choose_135 rfl rfl (fun h135 => ?_) (fun h135 => ?_)
    · exact absurd h135 (by omega)
    · refine k_iln hK (q := 139)  dX8_choose_138 rfl (z := (((n : Nat) : Int) - 1)) rfl (k_aln hK (q := 140)  dX8_choose_139 rfl (z := 32) rfl (k_gI hK (q := 143) (z := M 32 19) 0 dX8_choose_140 rfl rf_X8_124 rfl rfl rfl rfl ?_))
      refine k_cle hK (q := 146) (t := 155) dX8_choose_143 rfl rfl (fun h143 => ?_) (fun h143 => ?_)
      · refine k_aln hK (q := 156)  dX8_choose_155 rfl (z := 32) rfl (k_gI hK (q := 159) (z := M 32 19) 0 dX8_choose_156 rfl rf_X8_124 rfl rfl rfl rfl (k_iln hK (q := 160)  dX8_choose_159 rfl (z := (((n : Nat) : Int) - 1)) rfl (k_sub hK (q := 161)  dX8_choose_160 rfl (z := (M 32 19) - (((n : Nat) : Int) - 1)) rfl (by omega) (k_is hK (q := 163)  dX8_choose_161 rfl (L2 := [some (vR 32), some (vI goal), some (vI b), some (vI (((n : Nat) : Int) - 1)), some (vI ((M 32 19) - (((n : Nat) : Int) - 1))), none]) (Nat.le_of_ble_eq_true rfl) rfl (k_aln hK (q := 164)  dX8_choose_163 rfl (z := 32) rfl ?_)))))
        refine k_gR hK (q := 167) (r := 42) dX8_choose_164 rfl rf_X8_44 rfl rfl (k_iln hK (q := 168)  dX8_choose_167 rfl (z := (((n : Nat) : Int) - 1)) rfl (k_ic hK (q := 169)  dX8_choose_168 rfl (by decide) (k_add hK (q := 170)  dX8_choose_169 rfl (z := (((n : Nat) : Int) - 1) + 1) rfl (by omega) (k_il hK (q := 172)  dX8_choose_170 rfl (z := ((M 32 19) - (((n : Nat) : Int) - 1))) rfl (k_aln hK (q := 173)  dX8_choose_172 rfl (z := 32) rfl ?_)))))
        refine k_gI hK (q := 176) (z := M 32 11) 0 dX8_choose_173 rfl rf_X8_92 rfl rfl rfl rfl ?_
        refine k_cle hK (q := 179) (t := 184) dX8_choose_176 rfl rfl (fun h176 => ?_) (fun h176 => ?_)
        · refine k_aln hK (q := 185)  dX8_choose_184 rfl (z := 32) rfl (k_gR hK (q := 188) (r := 42) dX8_choose_185 rfl rf_X8_44 rfl rfl (k_iln hK (q := 189)  dX8_choose_188 rfl (z := (((n : Nat) : Int) - 1)) rfl (k_ic hK (q := 190)  dX8_choose_189 rfl (by decide) (k_add hK (q := 191)  dX8_choose_190 rfl (z := (((n : Nat) : Int) - 1) + 1) rfl (by omega) (k_ald hK (q := 192)  dX8_choose_191 rfl (y := M 42 ((((n : Nat) : Int) - 1) + 1)) rfl (by omega) rfl ?_)))))
          refine k_ast hK (q := 193)  dX8_choose_192 rfl rfl (by omega) (k_inc hK (q := 196)  dX8_choose_193 rfl (y := (((n : Nat) : Int) - 1) + 1) (L2 := [some (vR 32), some (vI goal), some (vI b), some (vI ((((n : Nat) : Int) - 1) + 1)), some (vI ((M 32 19) - (((n : Nat) : Int) - 1))), none]) rfl rfl (by omega) rfl (k_goto hK (t := 130) dX8_choose_196 rfl ?_))
          refine k_weak hK (L2 := [some (vR 32), some (vI goal), some (vI b), some (vI ((((n : Nat) : Int) - 1) + 1)), none, none]) ⟨Or.inl rfl, Or.inl rfl, Or.inl rfl, Or.inl rfl, Or.inr rfl, Or.inl rfl, trivial⟩ ?_
          have hp9 : ((n : Nat) : Int) - 1 + 1 = ((n + 1 : Nat) : Int) - 1 := by omega
          have hp8 : ((n : Nat) : Int) - 1 + 1 = (n : Nat) := by omega
          have hq : (0 : Int) = 0 := rfl
          refine hgo _ ?_
          refine ih (n + 1) _ (by omega) (by rw [scM_fr (M := M) (frM_up (frM_refl [42] [] _) _ _ (by decide) (by decide)) (by decide) (by decide)]; exact hs) (by rw [up_k _ _ _ (by decide)]; exact h19) (fun j a b9 => ?_) (fun j a b9 => ?_) (frM_up hf _ _ (by decide) (by decide))
          · by_cases hj : j = (n : Nat)
            · rw [hj, hp8, up_same]
              unfold fgt ab
              rw [if_neg (by omega)]
              exact h2 _ (by omega) (by omega)
            · rw [up_j _ _ (by omega)]
              exact h1 j a (by omega)
          · rw [up_j _ _ (by omega)]
            exact h2 j (by omega) b9
        · refine k_ldc hK (q := 181)  dX8_choose_179 rfl rc_X8_123 (k_goto hK (t := 192) dX8_choose_181 rfl (k_ast hK (q := 193)  dX8_choose_192 rfl rfl (by omega) (k_inc hK (q := 196)  dX8_choose_193 rfl (y := (((n : Nat) : Int) - 1) + 1) (L2 := [some (vR 32), some (vI goal), some (vI b), some (vI ((((n : Nat) : Int) - 1) + 1)), some (vI ((M 32 19) - (((n : Nat) : Int) - 1))), none]) rfl rfl (by omega) rfl (k_goto hK (t := 130) dX8_choose_196 rfl ?_))))
          refine k_weak hK (L2 := [some (vR 32), some (vI goal), some (vI b), some (vI ((((n : Nat) : Int) - 1) + 1)), none, none]) ⟨Or.inl rfl, Or.inl rfl, Or.inl rfl, Or.inl rfl, Or.inr rfl, Or.inl rfl, trivial⟩ ?_
          have hp9 : ((n : Nat) : Int) - 1 + 1 = ((n + 1 : Nat) : Int) - 1 := by omega
          have hp8 : ((n : Nat) : Int) - 1 + 1 = (n : Nat) := by omega
          have hq : (0 : Int) = 0 := rfl
          refine hgo _ ?_
          refine ih (n + 1) _ (by omega) (by rw [scM_fr (M := M) (frM_up (frM_refl [42] [] _) _ _ (by decide) (by decide)) (by decide) (by decide)]; exact hs) (by rw [up_k _ _ _ (by decide)]; exact h19) (fun j a b9 => ?_) (fun j a b9 => ?_) (frM_up hf _ _ (by decide) (by decide))
          · by_cases hj : j = (n : Nat)
            · rw [hj, hp8, up_same]
              unfold fgt ab
              rw [if_pos (by omega)]
            · rw [up_j _ _ (by omega)]
              exact h1 j a (by omega)
          · rw [up_j _ _ (by omega)]
            exact h2 j (by omega) b9
      · refine k_iln hK (q := 147)  dX8_choose_146 rfl (z := (((n : Nat) : Int) - 1)) rfl (k_aln hK (q := 148)  dX8_choose_147 rfl (z := 32) rfl (k_gI hK (q := 151) (z := M 32 19) 0 dX8_choose_148 rfl rf_X8_124 rfl rfl rfl rfl (k_sub hK (q := 152)  dX8_choose_151 rfl (z := (((n : Nat) : Int) - 1) - (M 32 19)) rfl (by omega) (k_goto hK (t := 161) dX8_choose_152 rfl (k_is hK (q := 163)  dX8_choose_161 rfl (L2 := [some (vR 32), some (vI goal), some (vI b), some (vI (((n : Nat) : Int) - 1)), some (vI ((((n : Nat) : Int) - 1) - (M 32 19))), none]) (Nat.le_of_ble_eq_true rfl) rfl ?_)))))
        refine k_aln hK (q := 164)  dX8_choose_163 rfl (z := 32) rfl (k_gR hK (q := 167) (r := 42) dX8_choose_164 rfl rf_X8_44 rfl rfl (k_iln hK (q := 168)  dX8_choose_167 rfl (z := (((n : Nat) : Int) - 1)) rfl (k_ic hK (q := 169)  dX8_choose_168 rfl (by decide) (k_add hK (q := 170)  dX8_choose_169 rfl (z := (((n : Nat) : Int) - 1) + 1) rfl (by omega) (k_il hK (q := 172)  dX8_choose_170 rfl (z := ((((n : Nat) : Int) - 1) - (M 32 19))) rfl ?_)))))
        refine k_aln hK (q := 173)  dX8_choose_172 rfl (z := 32) rfl (k_gI hK (q := 176) (z := M 32 11) 0 dX8_choose_173 rfl rf_X8_92 rfl rfl rfl rfl ?_)
        refine k_cle hK (q := 179) (t := 184) dX8_choose_176 rfl rfl (fun h176 => ?_) (fun h176 => ?_)
        · refine k_aln hK (q := 185)  dX8_choose_184 rfl (z := 32) rfl (k_gR hK (q := 188) (r := 42) dX8_choose_185 rfl rf_X8_44 rfl rfl (k_iln hK (q := 189)  dX8_choose_188 rfl (z := (((n : Nat) : Int) - 1)) rfl (k_ic hK (q := 190)  dX8_choose_189 rfl (by decide) (k_add hK (q := 191)  dX8_choose_190 rfl (z := (((n : Nat) : Int) - 1) + 1) rfl (by omega) (k_ald hK (q := 192)  dX8_choose_191 rfl (y := M 42 ((((n : Nat) : Int) - 1) + 1)) rfl (by omega) rfl ?_)))))
          refine k_ast hK (q := 193)  dX8_choose_192 rfl rfl (by omega) (k_inc hK (q := 196)  dX8_choose_193 rfl (y := (((n : Nat) : Int) - 1) + 1) (L2 := [some (vR 32), some (vI goal), some (vI b), some (vI ((((n : Nat) : Int) - 1) + 1)), some (vI ((((n : Nat) : Int) - 1) - (M 32 19))), none]) rfl rfl (by omega) rfl (k_goto hK (t := 130) dX8_choose_196 rfl ?_))
          refine k_weak hK (L2 := [some (vR 32), some (vI goal), some (vI b), some (vI ((((n : Nat) : Int) - 1) + 1)), none, none]) ⟨Or.inl rfl, Or.inl rfl, Or.inl rfl, Or.inl rfl, Or.inr rfl, Or.inl rfl, trivial⟩ ?_
          have hp9 : ((n : Nat) : Int) - 1 + 1 = ((n + 1 : Nat) : Int) - 1 := by omega
          have hp8 : ((n : Nat) : Int) - 1 + 1 = (n : Nat) := by omega
          have hq : (0 : Int) = 0 := rfl
          refine hgo _ ?_
          refine ih (n + 1) _ (by omega) (by rw [scM_fr (M := M) (frM_up (frM_refl [42] [] _) _ _ (by decide) (by decide)) (by decide) (by decide)]; exact hs) (by rw [up_k _ _ _ (by decide)]; exact h19) (fun j a b9 => ?_) (fun j a b9 => ?_) (frM_up hf _ _ (by decide) (by decide))
          · by_cases hj : j = (n : Nat)
            · rw [hj, hp8, up_same]
              unfold fgt ab
              rw [if_neg (by omega)]
              exact h2 _ (by omega) (by omega)
            · rw [up_j _ _ (by omega)]
              exact h1 j a (by omega)
          · rw [up_j _ _ (by omega)]
            exact h2 j (by omega) b9
        · refine k_ldc hK (q := 181)  dX8_choose_179 rfl rc_X8_123 (k_goto hK (t := 192) dX8_choose_181 rfl (k_ast hK (q := 193)  dX8_choose_192 rfl rfl (by omega) (k_inc hK (q := 196)  dX8_choose_193 rfl (y := (((n : Nat) : Int) - 1) + 1) (L2 := [some (vR 32), some (vI goal), some (vI b), some (vI ((((n : Nat) : Int) - 1) + 1)), some (vI ((((n : Nat) : Int) - 1) - (M 32 19))), none]) rfl rfl (by omega) rfl (k_goto hK (t := 130) dX8_choose_196 rfl ?_))))
          refine k_weak hK (L2 := [some (vR 32), some (vI goal), some (vI b), some (vI ((((n : Nat) : Int) - 1) + 1)), none, none]) ⟨Or.inl rfl, Or.inl rfl, Or.inl rfl, Or.inl rfl, Or.inr rfl, Or.inl rfl, trivial⟩ ?_
          have hp9 : ((n : Nat) : Int) - 1 + 1 = ((n + 1 : Nat) : Int) - 1 := by omega
          have hp8 : ((n : Nat) : Int) - 1 + 1 = (n : Nat) := by omega
          have hq : (0 : Int) = 0 := rfl
          refine hgo _ ?_
          refine ih (n + 1) _ (by omega) (by rw [scM_fr (M := M) (frM_up (frM_refl [42] [] _) _ _ (by decide) (by decide)) (by decide) (by decide)]; exact hs) (by rw [up_k _ _ _ (by decide)]; exact h19) (fun j a b9 => ?_) (fun j a b9 => ?_) (frM_up hf _ _ (by decide) (by decide))
          · by_cases hj : j = (n : Nat)
            · rw [hj, hp8, up_same]
              unfold fgt ab
              rw [if_pos (by omega)]
            · rw [up_j _ _ (by omega)]
              exact h1 j a (by omega)
          · rw [up_j _ _ (by omega)]
            exact h2 j (by omega) b9

set_option maxRecDepth 20000 in
set_option maxHeartbeats 2000000 in
theorem xm_choose (d : Nat) (M : ra_M) (S : Sc) (hs : scM M = S) (hS : okSc S) (t : Int → Int) (P0 : Int) (h19 : M 32 19 = P0) (hP0 : -1 ≤ P0 ∧ P0 < 60) (hdt : dt S t) (hte : eq61 (M 42) t) (hfin : t (fwdP S t P0 + 1) < NV) : Ex d m_X8_choose [vR 32] M (fun r M2 => r = none ∧ eq61 (M2 42) (fgt S t (fwdP S t P0)) ∧ M2 32 19 = fwdP S t P0 ∧ frM [42] [19] M M2) := by
  refine Ex_leaf (Nat.le_of_ble_eq_true rfl) (fun C K hK => ?_)
  show K 0 [some (vR 32), none, none, none, none, none] [] M
  have hK : ra_Clo _ m_X8_choose cX8_choose _ K := hK
  have hs0 := hS.1
  obtain ⟨P, hPe⟩ : ∃ P, P = fwdP S t P0 := ⟨_, rfl⟩
  have hPr : -1 ≤ P ∧ P < 60 := by have := chF_in t (P0 + 1) (S 0 0).toNat; rw [hPe]; unfold fwdP; omega
  rw [← hPe] at hK
  have J123 : ∀ z, K 123 [some (vR 32), some (vI (P0 + 1)), some (vI P), some (vI z), none, none] [] M := by
    intro z
    refine k_aln hK (q := 124)  dX8_choose_123 rfl (z := 32) rfl (k_iln hK (q := 125)  dX8_choose_124 rfl (z := P) rfl (k_pI hK (q := 128) (M2 := up M 32 19 P) dX8_choose_125 rfl rp_X8_124 rfl rfl rfl (k_ic hK (q := 129)  dX8_choose_128 rfl (by decide) (k_isn hK (q := 130)  dX8_choose_129 rfl (L2 := [some (vR 32), some (vI (P0 + 1)), some (vI P), some (vI (-1)), none, none]) (Nat.le_of_ble_eq_true rfl) rfl ?_))))
    have hf1 : frM [42] [19] M (up M 32 19 P) := frM_fd (frM_refl _ _ _) _ (by decide)
    refine choose_b hK hS (M0 := up M 32 19 P) (t := t) hPr (fun M2 h2 f2 => ⟨rfl, h2, ?_, frM_trans hf1 (frM_sub f2 (by decide) (by decide))⟩) ((S 0 0).toNat + 1) 0 _ (by omega) (by rw [scM_fr hf1 (by decide) (by decide)]; exact hs) (by rw [up_same]) (fun j a b => by omega) (fun j a b => by rw [up_k _ _ _ (by decide)]; exact hte j (by omega) b) (frM_refl _ _ _)
    rw [f2.2 19 (by decide), up_same]
  refine k_aln hK (q := 1)  dX8_choose_0 rfl (z := 32) rfl (k_gI hK (q := 4) (z := M 32 19) 0 dX8_choose_1 rfl rf_X8_124 rfl rfl rfl rfl ?_)
  rw [h19]
  refine k_ic hK (q := 5)  dX8_choose_4 rfl (by decide) (k_add hK (q := 6)  dX8_choose_5 rfl (z := P0 + 1) rfl (by omega) (k_isn hK (q := 7)  dX8_choose_6 rfl (L2 := [some (vR 32), some (vI (P0 + 1)), none, none, none, none]) (Nat.le_of_ble_eq_true rfl) rfl (k_bp hK (q := 9)  dX8_choose_7 rfl (by decide) (k_isn hK (q := 10)  dX8_choose_9 rfl (L2 := [some (vR 32), some (vI (P0 + 1)), some (vI (-2)), none, none, none]) (Nat.le_of_ble_eq_true rfl) rfl (k_ic hK (q := 11)  dX8_choose_10 rfl (by decide) ?_)))))
  refine k_isn hK (q := 12)  dX8_choose_11 rfl (L2 := [some (vR 32), some (vI (P0 + 1)), some (vI (-2)), some (vI (-1)), none, none]) (Nat.le_of_ble_eq_true rfl) rfl ?_
  exact choose_a hK hS hs (t := t) (goal := P0 + 1) (by omega) hdt hte hfin (fun z => by have := J123 z; rw [hPe] at this; exact this) ((S 0 0).toNat + 1) 0 (-2) (by omega) (Or.inl ⟨rfl, fun j hj => by omega⟩)

def AnM (M : ra_M) (ht : Int → Int) (an : An) : Prop := M 32 22 = (an.length : Nat) ∧ ∀ (i : Nat) (q : Int × Int), an[i]? = some q → M 45 (i : Nat) = q.2 ∧ M 46 (i : Nat) = ht q.1
theorem AnM_f {M M2 : ra_M} {ht : Int → Int} {an : An} (h : AnM M ht an) (h1 : M2 32 22 = M 32 22) (h2 : M2 45 = M 45) (h3 : M2 46 = M 46) : AnM M2 ht an := by
  unfold AnM at *
  rw [h1, h2, h3]
  exact h
theorem AnM_nil {M : ra_M} {ht : Int → Int} (h : M 32 22 = 0) : AnM M ht [] := ⟨by rw [h]; rfl, fun i q hi => by simp at hi⟩
theorem AnM_app {M M2 : ra_M} {ht : Int → Int} {an : An} {ev pl : Int} (h : AnM M ht an) (h1 : M2 32 22 = M 32 22 + 1) (h2 : M2 45 = (up M 45 (M 32 22) pl) 45) (h3 : M2 46 = (up M 46 (M 32 22) (ht ev)) 46) : AnM M2 ht (an ++ [(ev, pl)]) := by
  refine ⟨by rw [h1, h.1]; simp, fun i t hi => ?_⟩
  rw [h2, h3]
  by_cases hl : i < an.length
  · rw [List.getElem?_append_left hl] at hi
    have := h.1
    rw [up_j _ _ (by omega), up_j _ _ (by omega)]
    exact h.2 i t hi
  · have hil := (List.getElem?_eq_some_iff.mp hi).1
    simp at hil
    have hi2 : i = an.length := by omega
    subst hi2
    simp at hi
    subst hi
    rw [h.1, up_same, up_same]
    exact ⟨rfl, rfl⟩

set_option maxRecDepth 20000 in
set_option maxHeartbeats 2000000 in
theorem xm_anchor (d : Nat) (M : ra_M) (e : Int) (S : Sc) (hs : scM M = S) (hS : okSc S) (hp ht : Int → Int) (an : An) (P : Int) (h40 : M 40 = hp) (h41 : M 41 = ht) (ha : AnM M ht an) (ho : okAn S e an) (he : 0 ≤ e ∧ e < 120) (h19 : M 32 19 = P) (hP : -1 ≤ P ∧ P < S 0 0) : Ex d m_X8_anchor [vR 32, vI e] M (fun r M2 => r = none ∧ AnM M2 ht (lk S hp an e P) ∧ frM [45, 46] [22] M M2) := by
  refine Ex_leaf (Nat.le_of_ble_eq_true rfl) (fun C K hK => ?_)
  show K 0 [some (vR 32), some (vI e)] [] M
  have hK : ra_Clo _ m_X8_anchor cX8_anchor _ K := hK
  obtain ⟨e5, e6, e7, e8, e9⟩ := scM_e hs
  obtain ⟨a2, a3, a4, a5, a6⟩ := scM_a hs
  have hs0 := hS.1
  have hl := ha.1
  have hlen := okAn_len hS ho
  refine k_aln hK (q := 1)  dX8_anchor_0 rfl (z := 32) rfl (k_gI hK (q := 4) (z := M 32 19) 0 dX8_anchor_1 rfl rf_X8_124 rfl rfl rfl rfl ?_)
  refine k_iflt hK (q := 7) (t := 25) dX8_anchor_4 rfl rfl (fun h4 => ?_) (fun h4 => ?_)
  · refine k_vr hK dX8_anchor_25 rfl ?_
    refine ⟨rfl, ?_, frM_refl _ _ _⟩
    unfold lk
    rw [if_neg ?_]
    · exact ha
    · rw [← h40, ← a2, ← h19]
      exact fun q => by first | exact absurd q.1.1 (by omega) | exact h22 q.2
  · refine k_aln hK (q := 8)  dX8_anchor_7 rfl (z := 32) rfl (k_gR hK (q := 11) (r := 33) dX8_anchor_8 rfl rf_X8_7 rfl rfl (k_aln hK (q := 12)  dX8_anchor_11 rfl (z := 32) rfl (k_gI hK (q := 15) (z := M 32 19) 0 dX8_anchor_12 rfl rf_X8_124 rfl rfl rfl rfl (k_ald hK (q := 16)  dX8_anchor_15 rfl (y := M 33 (M 32 19)) rfl (by omega) rfl (k_aln hK (q := 17)  dX8_anchor_16 rfl (z := 32) rfl ?_)))))
    refine k_gR hK (q := 20) (r := 40) dX8_anchor_17 rfl rf_X8_38 rfl rfl (k_iln hK (q := 21)  dX8_anchor_20 rfl (z := e) rfl (k_ald hK (q := 22)  dX8_anchor_21 rfl (y := M 40 e) rfl (by omega) rfl ?_))
    refine k_ceq hK (q := 25) (t := 26) dX8_anchor_22 rfl rfl (fun h22 => ?_) (fun h22 => ?_)
    · have hc : (0 ≤ P ∧ P < S 0 0) ∧ S 1 P = hp e := ⟨by omega, by rw [← a2, ← h40, ← h19]; exact h22⟩
      refine k_aln hK (q := 27)  dX8_anchor_26 rfl (z := 32) rfl (k_gI hK (q := 30) (z := M 32 22) 0 dX8_anchor_27 rfl rf_X8_127 rfl rfl rfl rfl ?_)
      refine k_ifle hK (q := 33) (t := 56) dX8_anchor_30 rfl rfl (fun h30 => ?_) (fun h30 => ?_)
      · refine k_aln hK (q := 57)  dX8_anchor_56 rfl (z := 32) rfl (k_gR hK (q := 60) (r := 45) dX8_anchor_57 rfl rf_X8_53 rfl rfl (k_aln hK (q := 61)  dX8_anchor_60 rfl (z := 32) rfl (k_gI hK (q := 64) (z := M 32 22) 0 dX8_anchor_61 rfl rf_X8_127 rfl rfl rfl rfl (k_aln hK (q := 65)  dX8_anchor_64 rfl (z := 32) rfl (k_gI hK (q := 68) (z := M 32 19) 0 dX8_anchor_65 rfl rf_X8_124 rfl rfl rfl rfl ?_)))))
        refine k_ast hK (q := 69)  dX8_anchor_68 rfl rfl (by omega) (k_aln hK (q := 70)  dX8_anchor_69 rfl (z := 32) rfl (k_gR hK (q := 73) (r := 46) dX8_anchor_70 rfl rf_X8_56 rfl rfl (k_aln hK (q := 74)  dX8_anchor_73 rfl (z := 32) rfl (k_gI hK (q := 77) (z := M 32 22) 0 dX8_anchor_74 rfl rf_X8_127 rfl rfl rfl rfl (k_aln hK (q := 78)  dX8_anchor_77 rfl (z := 32) rfl ?_)))))
        refine k_gR hK (q := 81) (r := 41) dX8_anchor_78 rfl rf_X8_41 rfl rfl (k_iln hK (q := 82)  dX8_anchor_81 rfl (z := e) rfl (k_ald hK (q := 83)  dX8_anchor_82 rfl (y := M 41 e) rfl (by omega) rfl (k_ast hK (q := 84)  dX8_anchor_83 rfl rfl (by omega) (k_aln hK (q := 85)  dX8_anchor_84 rfl (z := 32) rfl (k_dup hK (q := 86)  dX8_anchor_85 rfl rfl ?_)))))
        refine k_gI hK (q := 89) (z := M 32 22) 0 dX8_anchor_86 rfl rf_X8_127 rfl rfl rfl rfl (k_ic hK (q := 90)  dX8_anchor_89 rfl (by decide) (k_add hK (q := 91)  dX8_anchor_90 rfl (z := (M 32 22) + 1) rfl (by omega) (k_pI hK (q := 94) (M2 := up (up (up M 45 (M 32 22) (M 32 19)) 46 (M 32 22) (M 41 e)) 32 22 ((M 32 22) + 1)) dX8_anchor_91 rfl rp_X8_127 rfl rfl rfl ?_)))
        refine k_vr hK dX8_anchor_94 rfl ?_
        refine ⟨rfl, ?_, frM_fd (frM_up (frM_up (frM_refl _ _ _) _ _ (by decide) (by decide)) _ _ (by decide) (by decide)) _ (by decide)⟩
        have key := AnM_app (M2 := up (up (up M 45 (M 32 22) (M 32 19)) 46 (M 32 22) (M 41 e)) 32 22 ((M 32 22) + 1)) (ev := e) (pl := P) ha (by simp [up]) (by funext j; simp [up, h19]) (by funext j; simp [up, h41])
        unfold lk
        rw [if_pos hc]
        cases hq : an.getLast? with
        | none => rw [List.getLast?_eq_none_iff] at hq; subst hq; simpa using key
        | some q =>
          obtain ⟨hl0, hlq⟩ := last_at hq
          have hq2 := (ha.2 _ _ hlq).1
          rw [show (((an.length - 1 : Nat) : Nat) : Int) = M 32 22 - 1 by omega] at hq2
          simp only
          rw [if_neg (by omega)]
          exact key
      · refine k_aln hK (q := 34)  dX8_anchor_33 rfl (z := 32) rfl (k_gI hK (q := 37) (z := M 32 19) 0 dX8_anchor_34 rfl rf_X8_124 rfl rfl rfl rfl (k_aln hK (q := 38)  dX8_anchor_37 rfl (z := 32) rfl (k_gR hK (q := 41) (r := 45) dX8_anchor_38 rfl rf_X8_53 rfl rfl (k_aln hK (q := 42)  dX8_anchor_41 rfl (z := 32) rfl (k_gI hK (q := 45) (z := M 32 22) 0 dX8_anchor_42 rfl rf_X8_127 rfl rfl rfl rfl ?_)))))
        refine k_ic hK (q := 46)  dX8_anchor_45 rfl (by decide) (k_sub hK (q := 47)  dX8_anchor_46 rfl (z := (M 32 22) - 1) rfl (by omega) (k_ald hK (q := 48)  dX8_anchor_47 rfl (y := M 45 ((M 32 22) - 1)) rfl (by omega) rfl ?_))
        refine k_cgt hK (q := 51) (t := 56) dX8_anchor_48 rfl rfl (fun h48 => ?_) (fun h48 => ?_)
        · refine k_aln hK (q := 57)  dX8_anchor_56 rfl (z := 32) rfl (k_gR hK (q := 60) (r := 45) dX8_anchor_57 rfl rf_X8_53 rfl rfl (k_aln hK (q := 61)  dX8_anchor_60 rfl (z := 32) rfl (k_gI hK (q := 64) (z := M 32 22) 0 dX8_anchor_61 rfl rf_X8_127 rfl rfl rfl rfl (k_aln hK (q := 65)  dX8_anchor_64 rfl (z := 32) rfl (k_gI hK (q := 68) (z := M 32 19) 0 dX8_anchor_65 rfl rf_X8_124 rfl rfl rfl rfl ?_)))))
          refine k_ast hK (q := 69)  dX8_anchor_68 rfl rfl (by omega) (k_aln hK (q := 70)  dX8_anchor_69 rfl (z := 32) rfl (k_gR hK (q := 73) (r := 46) dX8_anchor_70 rfl rf_X8_56 rfl rfl (k_aln hK (q := 74)  dX8_anchor_73 rfl (z := 32) rfl (k_gI hK (q := 77) (z := M 32 22) 0 dX8_anchor_74 rfl rf_X8_127 rfl rfl rfl rfl (k_aln hK (q := 78)  dX8_anchor_77 rfl (z := 32) rfl ?_)))))
          refine k_gR hK (q := 81) (r := 41) dX8_anchor_78 rfl rf_X8_41 rfl rfl (k_iln hK (q := 82)  dX8_anchor_81 rfl (z := e) rfl (k_ald hK (q := 83)  dX8_anchor_82 rfl (y := M 41 e) rfl (by omega) rfl (k_ast hK (q := 84)  dX8_anchor_83 rfl rfl (by omega) (k_aln hK (q := 85)  dX8_anchor_84 rfl (z := 32) rfl (k_dup hK (q := 86)  dX8_anchor_85 rfl rfl ?_)))))
          refine k_gI hK (q := 89) (z := M 32 22) 0 dX8_anchor_86 rfl rf_X8_127 rfl rfl rfl rfl (k_ic hK (q := 90)  dX8_anchor_89 rfl (by decide) (k_add hK (q := 91)  dX8_anchor_90 rfl (z := (M 32 22) + 1) rfl (by omega) (k_pI hK (q := 94) (M2 := up (up (up M 45 (M 32 22) (M 32 19)) 46 (M 32 22) (M 41 e)) 32 22 ((M 32 22) + 1)) dX8_anchor_91 rfl rp_X8_127 rfl rfl rfl ?_)))
          refine k_vr hK dX8_anchor_94 rfl ?_
          refine ⟨rfl, ?_, frM_fd (frM_up (frM_up (frM_refl _ _ _) _ _ (by decide) (by decide)) _ _ (by decide) (by decide)) _ (by decide)⟩
          have key := AnM_app (M2 := up (up (up M 45 (M 32 22) (M 32 19)) 46 (M 32 22) (M 41 e)) 32 22 ((M 32 22) + 1)) (ev := e) (pl := P) ha (by simp [up]) (by funext j; simp [up, h19]) (by funext j; simp [up, h41])
          unfold lk
          rw [if_pos hc]
          cases hq : an.getLast? with
          | none => rw [List.getLast?_eq_none_iff] at hq; subst hq; simpa using key
          | some q =>
            obtain ⟨hl0, hlq⟩ := last_at hq
            have hq2 := (ha.2 _ _ hlq).1
            rw [show (((an.length - 1 : Nat) : Nat) : Int) = M 32 22 - 1 by omega] at hq2
            simp only
            rw [if_neg (by omega)]
            exact key
        · refine k_aln hK (q := 52)  dX8_anchor_51 rfl (z := 32) rfl (k_ic hK (q := 53)  dX8_anchor_52 rfl (by decide) (k_pI hK (q := 56) (M2 := up M 32 22 0) dX8_anchor_53 rfl rp_X8_127 rfl rfl rfl (k_aln hK (q := 57)  dX8_anchor_56 rfl (z := 32) rfl (k_gR hK (q := 60) (r := 45) dX8_anchor_57 rfl rf_X8_53 rfl rfl (k_aln hK (q := 61)  dX8_anchor_60 rfl (z := 32) rfl ?_)))))
          refine k_gI hK (q := 64) (z := 0) 0 dX8_anchor_61 rfl rf_X8_127 rfl rfl rfl rfl (k_aln hK (q := 65)  dX8_anchor_64 rfl (z := 32) rfl (k_gI hK (q := 68) (z := M 32 19) 0 dX8_anchor_65 rfl rf_X8_124 rfl rfl rfl rfl (k_ast hK (q := 69)  dX8_anchor_68 rfl rfl (by omega) (k_aln hK (q := 70)  dX8_anchor_69 rfl (z := 32) rfl (k_gR hK (q := 73) (r := 46) dX8_anchor_70 rfl rf_X8_56 rfl rfl ?_)))))
          refine k_aln hK (q := 74)  dX8_anchor_73 rfl (z := 32) rfl (k_gI hK (q := 77) (z := 0) 0 dX8_anchor_74 rfl rf_X8_127 rfl rfl rfl rfl (k_aln hK (q := 78)  dX8_anchor_77 rfl (z := 32) rfl (k_gR hK (q := 81) (r := 41) dX8_anchor_78 rfl rf_X8_41 rfl rfl (k_iln hK (q := 82)  dX8_anchor_81 rfl (z := e) rfl (k_ald hK (q := 83)  dX8_anchor_82 rfl (y := M 41 e) rfl (by omega) rfl ?_)))))
          refine k_ast hK (q := 84)  dX8_anchor_83 rfl rfl (by omega) (k_aln hK (q := 85)  dX8_anchor_84 rfl (z := 32) rfl (k_dup hK (q := 86)  dX8_anchor_85 rfl rfl (k_gI hK (q := 89) (z := 0) 0 dX8_anchor_86 rfl rf_X8_127 rfl rfl rfl rfl (k_ic hK (q := 90)  dX8_anchor_89 rfl (by decide) (k_add hK (q := 91)  dX8_anchor_90 rfl (z := 0 + 1) rfl (by omega) ?_)))))
          refine k_pI hK (q := 94) (M2 := up (up (up (up M 32 22 0) 45 0 (M 32 19)) 46 0 (M 41 e)) 32 22 (0 + 1)) dX8_anchor_91 rfl rp_X8_127 rfl rfl rfl ?_
          refine k_vr hK dX8_anchor_94 rfl ?_
          refine ⟨rfl, ?_, frM_fd (frM_up (frM_up (frM_fd (frM_refl _ _ _) _ (by decide)) _ _ (by decide) (by decide)) _ _ (by decide) (by decide)) _ (by decide)⟩
          unfold lk
          rw [if_pos hc]
          cases hq : an.getLast? with
          | none => rw [List.getLast?_eq_none_iff] at hq; subst hq; simp at hl; omega
          | some q =>
            obtain ⟨hl0, hlq⟩ := last_at hq
            have hq2 := (ha.2 _ _ hlq).1
            rw [show (((an.length - 1 : Nat) : Nat) : Int) = M 32 22 - 1 by omega] at hq2
            simp only
            rw [if_pos (by omega)]
            exact AnM_app (an := []) (AnM_nil (M := up M 32 22 0) (by simp [up])) (by simp [up]) (by funext j; simp [up, h19]) (by funext j; simp [up, h41])
    · refine k_vr hK dX8_anchor_25 rfl ?_
      refine ⟨rfl, ?_, frM_refl _ _ _⟩
      unfold lk
      rw [if_neg ?_]
      · exact ha
      · rw [← h40, ← a2, ← h19]
        exact fun q => by first | exact absurd q.1.1 (by omega) | exact h22 q.2

def MF (S : Sc) (hp ht : Int → Int) (k : Nat) (M : ra_M) : Prop := eq61 (M 42) (FVP S hp k).1 ∧ M 32 19 = (FVP S hp k).2 ∧ AnM M ht (AN S hp k)
theorem vp_lt {S : Sc} (hS : okSc S) {p : Int} (h : p = -1 ∨ thr S p) : -1 ≤ p ∧ p < 60 := by
  rcases h with h | h
  · omega
  · have := thr_lt hS h; omega

set_option maxRecDepth 20000 in
set_option maxHeartbeats 2000000 in
theorem xm_further (d : Nat) (M : ra_M) (k : Nat) (S : Sc) (hs : scM M = S) (hS : okSc S) (hn0 : 0 < S 0 0) (hp ht : Int → Int) (hk : k < 120) (h40 : M 40 = hp) (h41 : M 41 = ht) (hM : MF S hp ht k M) : Ex (d + 3) m_X8_further [vR 32, vI (k : Nat)] M (fun r M2 => r = none ∧ MF S hp ht (k + 1) M2 ∧ frM [42, 43, 44, 45, 46, 47, 48] [19, 22, 25] M M2) := by
  refine Ex_call (Nat.le_of_ble_eq_true rfl) (fun K hK => ?_)
  show K 0 [some (vR 32), some (vI (k : Nat))] [] M
  have hK : ra_Clo _ m_X8_further cX8_further _ K := hK
  obtain ⟨hv, hpl, hA⟩ := hM
  have hFV := FVP_ok hS hn0 hp k (by omega)
  have hfw := fwd_ok hS hn0 (B := 2000 * (k : Nat)) (v := (FVP S hp k).1) (P := (FVP S hp k).2) (pit := hp (k : Nat)) (by omega) hFV.1 hFV.2.1 hFV.2.2
  have hPr := vp_lt hS hFV.2.1
  have hPr2 := hfw.2.1
  refine k_aln hK (q := 1)  dX8_further_0 rfl (z := 32) rfl ?_
  refine k_iv0 hK (q := 4) dX8_further_1 rfl rm_X8_134 rfl rfl (Nat.le_of_ble_eq_true rfl) (xm_pass _ M S hs hS (FVP S hp k).1 (2000 * (k : Nat)) hv hFV.1) (fun r9 M1 h9 => ?_)
  obtain ⟨rfl, h43, f1⟩ := h9
  have hs1 : scM M1 = S := by rw [scM_fr f1 (by decide) (by decide)]; exact hs
  show K 4 [some (vR 32), some (vI (k : Nat))] [] M1
  refine k_aln hK (q := 5)  dX8_further_4 rfl (z := 32) rfl (k_iln hK (q := 6)  dX8_further_5 rfl (z := (k : Nat)) rfl ?_)
  refine k_iv1 hK (q := 9) dX8_further_6 rfl rm_X8_137 rfl rfl (Nat.le_of_ble_eq_true rfl) (xm_take _ M1 (k : Nat) S hs1 hS (by omega) (fwdC S (FVP S hp k).1) (2000 * (k : Nat) + 9028000) (hp (k : Nat)) (by omega) (dd_fwdC hS hFV.1) h43 (by rw [f1.1 40 (by decide) (by decide), h40])) (fun r9 M2 h9 => ?_)
  obtain ⟨rfl, h42, f2⟩ := h9
  have hs2 : scM M2 = S := by rw [scM_fr f2 (by decide) (by decide)]; exact hs1
  show K 9 [some (vR 32), some (vI (k : Nat))] [] M2
  refine k_aln hK (q := 10)  dX8_further_9 rfl (z := 32) rfl ?_
  refine k_iv0 hK (q := 13) dX8_further_10 rfl rm_X8_140 rfl rfl (Nat.le_of_ble_eq_true rfl) (xm_choose _ M2 S hs2 hS (fwdT S (fwdC S (FVP S hp k).1) (hp (k : Nat))) (FVP S hp k).2 (by rw [f2.2 19 (by decide), f1.2 19 (by decide), hpl]) hPr hfw.1 h42 hfw.2.2.1) (fun r9 M3 h9 => ?_)
  obtain ⟨rfl, h423, h193, f3⟩ := h9
  have hs3 : scM M3 = S := by rw [scM_fr f3 (by decide) (by decide)]; exact hs2
  show K 13 [some (vR 32), some (vI (k : Nat))] [] M3
  refine k_aln hK (q := 14)  dX8_further_13 rfl (z := 32) rfl (k_iln hK (q := 15)  dX8_further_14 rfl (z := (k : Nat)) rfl ?_)
  refine k_iv1 hK (q := 18) dX8_further_15 rfl rm_X8_143 rfl rfl (Nat.le_of_ble_eq_true rfl) (xm_anchor _ M3 (k : Nat) S hs3 hS hp ht (AN S hp k) (FVP S hp (k + 1)).2 (by rw [f3.1 40 (by decide) (by decide), f2.1 40 (by decide) (by decide), f1.1 40 (by decide) (by decide), h40]) (by rw [f3.1 41 (by decide) (by decide), f2.1 41 (by decide) (by decide), f1.1 41 (by decide) (by decide), h41]) (AnM_f hA (by rw [f3.2 22 (by decide), f2.2 22 (by decide), f1.2 22 (by decide)]) (by rw [f3.1 45 (by decide) (by decide), f2.1 45 (by decide) (by decide), f1.1 45 (by decide) (by decide)]) (by rw [f3.1 46 (by decide) (by decide), f2.1 46 (by decide) (by decide), f1.1 46 (by decide) (by decide)])) (okAN S hp k) (by omega) h193 (by rcases hPr2 with h | h; exact ⟨by simp only [FVP]; omega, by simp only [FVP]; omega⟩; exact ⟨by simp only [FVP]; omega, by simp only [FVP]; omega⟩)) (fun r9 M4 h9 => ?_)
  obtain ⟨rfl, hA4, f4⟩ := h9
  show K 18 [some (vR 32), some (vI (k : Nat))] [] M4
  refine k_vr hK dX8_further_18 rfl ?_
  refine ⟨rfl, ⟨?_, ?_, hA4⟩, frM_trans (frM_sub f1 (by decide) (by decide)) (frM_trans (frM_sub f2 (by decide) (by decide)) (frM_trans (frM_sub f3 (by decide) (by decide)) (frM_sub f4 (by decide) (by decide))))⟩
  · rw [f4.1 42 (by decide) (by decide)]
    exact h423
  · rw [f4.2 19 (by decide)]
    exact h193

set_option maxRecDepth 20000 in
set_option maxHeartbeats 2000000 in
theorem follow_a {C : Nat → List ra_V → ra_M → (Option ra_V → ra_M → Prop) → Prop} {Q : Option ra_V → ra_M → Prop} {K : Nat → ra_L → List ra_V → ra_M → Prop} (hK : ra_Clo C m_X8_follow cX8_follow Q K) {M0 : ra_M}
    (hX : ∀ (M : ra_M), eq61 (M 42) v00 → frM [42] [] M0 M → ∀ z, K 30 [some (vR 32), some (vI z)] [] M) :
    ∀ (n i : Nat) (M : ra_M), i + n = 61 → (∀ t : Nat, t < i → M 42 (t : Nat) = v00 (t : Nat)) → frM [42] [] M0 M → K 2 [some (vR 32), some (vI (i : Nat))] [] M := by
  intro n
  induction n with
  | zero =>
    intro i M hi hc hf
    refine k_iln hK (q := 3)  dX8_follow_2 rfl (z := (i : Nat)) rfl (k_bp hK (q := 5)  dX8_follow_3 rfl (by decide) ?_)
    refine k_cge hK (q := 8) (t := 30) dX8_follow_5 rfl rfl (fun h5 => ?_) (fun h5 => ?_)
    · exact hX M (fun j a b => by have := hc j.toNat (by omega); rw [show ((j.toNat : Nat) : Int) = j by omega] at this; exact this) hf _
    · exact absurd h5 (by omega)
  | succ n ih =>
    intro i M hi hc hf
    refine k_iln hK (q := 3)  dX8_follow_2 rfl (z := (i : Nat)) rfl (k_bp hK (q := 5)  dX8_follow_3 rfl (by decide) ?_)
    refine k_cge hK (q := 8) (t := 30) dX8_follow_5 rfl rfl (fun h5 => ?_) (fun h5 => ?_)
    · exact absurd h5 (by omega)
    · refine k_aln hK (q := 9)  dX8_follow_8 rfl (z := 32) rfl (k_gR hK (q := 12) (r := 42) dX8_follow_9 rfl rf_X8_44 rfl rfl (k_iln hK (q := 13)  dX8_follow_12 rfl (z := (i : Nat)) rfl (k_iln hK (q := 14)  dX8_follow_13 rfl (z := (i : Nat)) rfl ?_)))
      refine k_ifne hK (q := 17) (t := 21) dX8_follow_14 rfl rfl (fun h14 => ?_) (fun h14 => ?_)
      · refine k_ldc hK (q := 23)  dX8_follow_21 rfl rc_X8_123 (k_ast hK (q := 24)  dX8_follow_23 rfl rfl (by omega) (k_inc hK (q := 27)  dX8_follow_24 rfl (y := (i : Nat) + 1) (L2 := [some (vR 32), some (vI ((i : Nat) + 1))]) rfl rfl (by omega) rfl (k_goto hK (t := 2) dX8_follow_27 rfl ?_)))
        refine ih (i + 1) _ (by omega) (fun t ht => ?_) (frM_up hf _ _ (by decide) (by decide))
        by_cases h : t = i
        · subst h
          rw [up_same]
          unfold v00
          rw [if_neg h14]
        · rw [up_j _ _ (by omega)]
          exact hc t (by omega)
      · refine k_ic hK (q := 18)  dX8_follow_17 rfl (by decide) (k_goto hK (t := 23) dX8_follow_18 rfl (k_ast hK (q := 24)  dX8_follow_23 rfl rfl (by omega) (k_inc hK (q := 27)  dX8_follow_24 rfl (y := (i : Nat) + 1) (L2 := [some (vR 32), some (vI ((i : Nat) + 1))]) rfl rfl (by omega) rfl (k_goto hK (t := 2) dX8_follow_27 rfl ?_))))
        refine ih (i + 1) _ (by omega) (fun t ht => ?_) (frM_up hf _ _ (by decide) (by decide))
        by_cases h : t = i
        · subst h
          rw [up_same]
          unfold v00
          rw [if_pos h14]
        · rw [up_j _ _ (by omega)]
          exact hc t (by omega)

set_option maxRecDepth 20000 in
set_option maxHeartbeats 2000000 in
theorem follow_b {d : Nat} {Q : Option ra_V → ra_M → Prop} {K : Nat → ra_L → List ra_V → ra_M → Prop} (hK : ra_Clo (Ex (d + 3)) m_X8_follow cX8_follow Q K) {S : Sc} (hS : okSc S) {M0 : ra_M} {hp ht : Int → Int} {c : Nat} (hc : c ≤ 120) (hn0 : 0 < c → 0 < S 0 0)
    (hX : ∀ (M : ra_M), MF S hp ht c M → frM [42, 43, 44, 45, 46, 47, 48] [19, 22, 25] M0 M → Q none M) :
    ∀ (n k : Nat) (M : ra_M), k + n = c → scM M = S → M 32 14 = (c : Nat) → M 40 = hp → M 41 = ht → MF S hp ht k M → frM [42, 43, 44, 45, 46, 47, 48] [19, 22, 25] M0 M → K 42 [some (vR 32), some (vI (k : Nat))] [] M := by
  intro n
  induction n with
  | zero =>
    intro k M hk hs h14 h40 h41 hM hf
    refine k_iln hK (q := 43)  dX8_follow_42 rfl (z := (k : Nat)) rfl (k_aln hK (q := 44)  dX8_follow_43 rfl (z := 32) rfl (k_gI hK (q := 47) (z := M 32 14) 0 dX8_follow_44 rfl rf_X8_101 rfl rfl rfl rfl ?_))
    refine k_cge hK (q := 50) (t := 61) dX8_follow_47 rfl rfl (fun h47 => ?_) (fun h47 => ?_)
    · refine k_vr hK dX8_follow_61 rfl ?_
      have hi2 : k = c := by omega
      subst hi2
      exact hX M hM hf
    · exact absurd h47 (by omega)
  | succ n ih =>
    intro k M hk hs h14 h40 h41 hM hf
    refine k_iln hK (q := 43)  dX8_follow_42 rfl (z := (k : Nat)) rfl (k_aln hK (q := 44)  dX8_follow_43 rfl (z := 32) rfl (k_gI hK (q := 47) (z := M 32 14) 0 dX8_follow_44 rfl rf_X8_101 rfl rfl rfl rfl ?_))
    refine k_cge hK (q := 50) (t := 61) dX8_follow_47 rfl rfl (fun h47 => ?_) (fun h47 => ?_)
    · exact absurd h47 (by omega)
    · refine k_aln hK (q := 51)  dX8_follow_50 rfl (z := 32) rfl (k_iln hK (q := 52)  dX8_follow_51 rfl (z := (k : Nat)) rfl ?_)
      refine k_iv1 hK (q := 55) dX8_follow_52 rfl rm_X8_130 rfl rfl (Nat.le_of_ble_eq_true rfl) (xm_further _ M k S hs hS (hn0 (by omega)) hp ht (by omega) h40 h41 hM) (fun r9 M5 h9 => ?_)
      obtain ⟨rfl, hM5, f5⟩ := h9
      show K 55 [some (vR 32), some (vI (k : Nat))] [] M5
      refine k_inc hK (q := 58)  dX8_follow_55 rfl (y := (k : Nat) + 1) (L2 := [some (vR 32), some (vI ((k : Nat) + 1))]) rfl rfl (by omega) rfl (k_goto hK (t := 42) dX8_follow_58 rfl ?_)
      exact ih (k + 1) M5 (by omega) (by rw [scM_fr f5 (by decide) (by decide)]; exact hs) (by rw [f5.2 14 (by decide)]; exact h14) (by rw [f5.1 40 (by decide) (by decide)]; exact h40) (by rw [f5.1 41 (by decide) (by decide)]; exact h41) hM5 (frM_trans hf f5)

set_option maxRecDepth 20000 in
set_option maxHeartbeats 2000000 in
theorem xm_follow (d : Nat) (M : ra_M) (c : Nat) (S : Sc) (hs : scM M = S) (hS : okSc S) (hp ht : Int → Int) (hc : c ≤ 120) (hn0 : 0 < c → 0 < S 0 0) (h14 : M 32 14 = (c : Nat)) (h40 : M 40 = hp) (h41 : M 41 = ht) : Ex (d + 4) m_X8_follow [vR 32] M (fun r M2 => r = none ∧ MF S hp ht c M2 ∧ frM [42, 43, 44, 45, 46, 47, 48] [19, 22, 25] M M2) := by
  refine Ex_call (Nat.le_of_ble_eq_true rfl) (fun K hK => ?_)
  show K 0 [some (vR 32), none] [] M
  have hK : ra_Clo _ m_X8_follow cX8_follow _ K := hK
  have J30 : ∀ M1 : ra_M, eq61 (M1 42) v00 → frM [42] [] M M1 → ∀ z, K 30 [some (vR 32), some (vI z)] [] M1 := by
    intro M1 h1 f1 z
    refine k_aln hK (q := 31)  dX8_follow_30 rfl (z := 32) rfl (k_ic hK (q := 32)  dX8_follow_31 rfl (by decide) (k_pI hK (q := 35) (M2 := up M1 32 19 (-1)) dX8_follow_32 rfl rp_X8_124 rfl rfl rfl (k_aln hK (q := 36)  dX8_follow_35 rfl (z := 32) rfl (k_ic hK (q := 37)  dX8_follow_36 rfl (by decide) (k_pI hK (q := 40) (M2 := up (up M1 32 19 (-1)) 32 22 0) dX8_follow_37 rfl rp_X8_127 rfl rfl rfl ?_)))))
    refine k_ic hK (q := 41)  dX8_follow_40 rfl (by decide) (k_isn hK (q := 42)  dX8_follow_41 rfl (L2 := [some (vR 32), some (vI 0)]) (Nat.le_of_ble_eq_true rfl) rfl ?_)
    have f2 : frM [42, 43, 44, 45, 46, 47, 48] [19, 22, 25] M (up (up M1 32 19 (-1)) 32 22 0) := frM_fd (frM_fd (frM_sub f1 (by decide) (by decide)) _ (by decide)) _ (by decide)
    exact follow_b hK hS (M0 := M) hc hn0 (fun M5 h5 f5 => ⟨rfl, h5, f5⟩) c 0 _ (by omega) (by rw [scM_fr f2 (by decide) (by decide)]; exact hs) (by rw [f2.2 14 (by decide)]; exact h14) (by rw [f2.1 40 (by decide) (by decide)]; exact h40) (by rw [f2.1 41 (by decide) (by decide)]; exact h41) ⟨by rw [up_k _ _ _ (by decide), up_k _ _ _ (by decide)]; exact h1, by simp [up, FVP], AnM_nil (by simp [up])⟩ f2
  refine k_ic hK (q := 1)  dX8_follow_0 rfl (by decide) (k_isn hK (q := 2)  dX8_follow_1 rfl (L2 := [some (vR 32), some (vI 0)]) (Nat.le_of_ble_eq_true rfl) rfl ?_)
  exact follow_a hK J30 61 0 M (by omega) (fun t ht => by omega) (frM_refl _ _ _)
