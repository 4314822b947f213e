set_option maxRecDepth 20000 in
set_option maxHeartbeats 2000000 in
theorem nearest_loop {d : Nat} {Q : Option ra_V → ra_M → Prop} {K : Nat → ra_L → List ra_V → ra_M → Prop} (hK : ra_Clo (Ex d) m_X3_nearestOfLeast cX3_nearestOfLeast Q K) {S : Sc} (hS : okSc S) {M : ra_M} (hs : scC M = S) {row ex : Int} (hrow : 0 ≤ row ∧ row ≤ 7320) (hex : 0 ≤ ex ∧ ex ≤ 60) (hr : ∀ j, pn S j → 0 ≤ M 16 (row + j) ∧ M 16 (row + j) ≤ NV)
    (hQ : ∀ fo : Int, fo = chF (rv M row) ex (S 0 0).toNat → Q (some (vI fo)) M) :
    ∀ (n i : Nat) (fo : Int), i + n = (S 0 0).toNat → fo = chF (rv M row) ex i → K 5 [some (vR 15), some (vI row), some (vI ex), some (vI fo), some (vI (i : Nat)), none, none] [] M := by
  have hNV : NV = 1000000000 := rfl
  obtain ⟨e5, e6, e7, e8, e9⟩ := scC_e hs
  have hs0 := hS.1
  intro n
  induction n with
  | zero =>
    intro i fo hi hfo
    refine k_il hK (q := 7)  dX3_nearestOfLeast_5 rfl (z := (i : Nat)) rfl (k_aln hK (q := 8)  dX3_nearestOfLeast_7 rfl (z := 15) rfl (k_gR hK (q := 11) (r := 1) dX3_nearestOfLeast_8 rfl rf_X3_21 rfl rfl (k_gI hK (q := 14) (z := M 1 5) 0 dX3_nearestOfLeast_11 rfl rf_X3_58 rfl rfl rfl rfl ?_)))
    refine k_cge hK (q := 17) (t := 88) dX3_nearestOfLeast_14 rfl rfl (fun h14 => ?_) (fun h14 => ?_)
    · refine k_iln hK (q := 89)  dX3_nearestOfLeast_88 rfl (z := fo) rfl ?_
      refine k_ir hK dX3_nearestOfLeast_89 rfl ?_
      have hi2 : i = (S 0 0).toNat := by omega
      subst hi2
      exact hQ fo hfo
    · exact absurd h14 (by omega)
  | succ n ih =>
    intro i fo hi hfo
    have hfr := chF_in (rv M row) ex i
    rw [← hfo] at hfr
    have hv1 : rv M row ((i : Nat) + 1) = M 16 (row + (i : Nat) + 1) := by unfold rv; congr 1; omega
    have hv2 : rv M row (fo + 1) = M 16 (row + fo + 1) := by unfold rv; congr 1; omega
    have hr1 := hr ((i : Nat) + 1) ⟨by omega, by omega⟩
    have hr2 := hr (fo + 1) ⟨by omega, by omega⟩
    rw [show row + ((i : Nat) + 1 : Int) = row + (i : Nat) + 1 by omega] at hr1
    rw [show row + (fo + 1) = row + fo + 1 by omega] at hr2
    refine k_il hK (q := 7)  dX3_nearestOfLeast_5 rfl (z := (i : Nat)) rfl (k_aln hK (q := 8)  dX3_nearestOfLeast_7 rfl (z := 15) rfl (k_gR hK (q := 11) (r := 1) dX3_nearestOfLeast_8 rfl rf_X3_21 rfl rfl (k_gI hK (q := 14) (z := M 1 5) 0 dX3_nearestOfLeast_11 rfl rf_X3_58 rfl rfl rfl rfl ?_)))
    refine k_cge hK (q := 17) (t := 88) dX3_nearestOfLeast_14 rfl rfl (fun h14 => ?_) (fun h14 => ?_)
    · exact absurd h14 (by omega)
    · refine k_aln hK (q := 18)  dX3_nearestOfLeast_17 rfl (z := 15) rfl (k_gR hK (q := 21) (r := 16) dX3_nearestOfLeast_18 rfl rf_X3_9 rfl rfl (k_iln hK (q := 22)  dX3_nearestOfLeast_21 rfl (z := row) rfl (k_il hK (q := 24)  dX3_nearestOfLeast_22 rfl (z := (i : Nat)) rfl (k_add hK (q := 25)  dX3_nearestOfLeast_24 rfl (z := row + (i : Nat)) rfl (by omega) (k_ic hK (q := 26)  dX3_nearestOfLeast_25 rfl (by decide) ?_)))))
      refine k_add hK (q := 27)  dX3_nearestOfLeast_26 rfl (z := (row + (i : Nat)) + 1) rfl (by omega) (k_ald hK (q := 28)  dX3_nearestOfLeast_27 rfl (y := M 16 ((row + (i : Nat)) + 1)) rfl (by omega) rfl (k_aln hK (q := 29)  dX3_nearestOfLeast_28 rfl (z := 15) rfl (k_gR hK (q := 32) (r := 16) dX3_nearestOfLeast_29 rfl rf_X3_9 rfl rfl (k_iln hK (q := 33)  dX3_nearestOfLeast_32 rfl (z := row) rfl (k_iln hK (q := 34)  dX3_nearestOfLeast_33 rfl (z := fo) rfl ?_)))))
      refine k_add hK (q := 35)  dX3_nearestOfLeast_34 rfl (z := row + fo) rfl (by omega) (k_ic hK (q := 36)  dX3_nearestOfLeast_35 rfl (by decide) (k_add hK (q := 37)  dX3_nearestOfLeast_36 rfl (z := (row + fo) + 1) rfl (by omega) (k_ald hK (q := 38)  dX3_nearestOfLeast_37 rfl (y := M 16 ((row + fo) + 1)) rfl (by omega) rfl (k_sub hK (q := 39)  dX3_nearestOfLeast_38 rfl (z := (M 16 ((row + (i : Nat)) + 1)) - (M 16 ((row + fo) + 1))) rfl (by omega) (k_is hK (q := 41)  dX3_nearestOfLeast_39 rfl (L2 := [some (vR 15), some (vI row), some (vI ex), some (vI fo), some (vI (i : Nat)), some (vI ((M 16 ((row + (i : Nat)) + 1)) - (M 16 ((row + fo) + 1)))), none]) (Nat.le_of_ble_eq_true rfl) rfl ?_)))))
      refine k_il hK (q := 43)  dX3_nearestOfLeast_41 rfl (z := (i : Nat)) rfl (k_iln hK (q := 44)  dX3_nearestOfLeast_43 rfl (z := ex) rfl (k_sub hK (q := 45)  dX3_nearestOfLeast_44 rfl (z := (i : Nat) - ex) rfl (by omega) ?_))
      refine k_st1I hK (q := 48) dX3_nearestOfLeast_45 rfl rm_X3_101 (Nat.le_of_ble_eq_true rfl) (t_abs _ M ((i : Nat) - ex) (by omega)) ?_
      refine k_iln hK (q := 49)  dX3_nearestOfLeast_48 rfl (z := fo) rfl (k_iln hK (q := 50)  dX3_nearestOfLeast_49 rfl (z := ex) rfl (k_sub hK (q := 51)  dX3_nearestOfLeast_50 rfl (z := fo - ex) rfl (by omega) ?_))
      refine k_st1I hK (q := 54) dX3_nearestOfLeast_51 rfl rm_X3_101 (Nat.le_of_ble_eq_true rfl) (t_abs _ M (fo - ex) (by omega)) ?_
      refine k_cge hK (q := 57) (t := 61) dX3_nearestOfLeast_54 rfl rfl (fun h54 => ?_) (fun h54 => ?_)
      · refine k_ic hK (q := 62)  dX3_nearestOfLeast_61 rfl (by decide) (k_is hK (q := 64)  dX3_nearestOfLeast_62 rfl (L2 := [some (vR 15), some (vI row), some (vI ex), some (vI fo), some (vI (i : Nat)), some (vI ((M 16 ((row + (i : Nat)) + 1)) - (M 16 ((row + fo) + 1)))), some (vI 0)]) (Nat.le_of_ble_eq_true rfl) rfl (k_il hK (q := 66)  dX3_nearestOfLeast_64 rfl (z := ((M 16 ((row + (i : Nat)) + 1)) - (M 16 ((row + fo) + 1)))) rfl ?_))
        refine k_iflt hK (q := 69) (t := 79) dX3_nearestOfLeast_66 rfl rfl (fun h66 => ?_) (fun h66 => ?_)
        · refine k_il hK (q := 81)  dX3_nearestOfLeast_79 rfl (z := (i : Nat)) rfl (k_isn hK (q := 82)  dX3_nearestOfLeast_81 rfl (L2 := [some (vR 15), some (vI row), some (vI ex), some (vI (i : Nat)), some (vI (i : Nat)), some (vI ((M 16 ((row + (i : Nat)) + 1)) - (M 16 ((row + fo) + 1)))), some (vI 0)]) (Nat.le_of_ble_eq_true rfl) rfl (k_inc hK (q := 85)  dX3_nearestOfLeast_82 rfl (y := (i : Nat) + 1) (L2 := [some (vR 15), some (vI row), some (vI ex), some (vI (i : Nat)), some (vI ((i : Nat) + 1)), some (vI ((M 16 ((row + (i : Nat)) + 1)) - (M 16 ((row + fo) + 1)))), some (vI 0)]) rfl rfl (by omega) rfl (k_goto hK (t := 5) dX3_nearestOfLeast_85 rfl ?_)))
          refine k_weak hK (L2 := [some (vR 15), some (vI row), some (vI ex), some (vI (i : Nat)), some (vI ((i : Nat) + 1)), none, none]) ⟨Or.inl rfl, Or.inl rfl, Or.inl rfl, Or.inl rfl, Or.inl rfl, Or.inr rfl, Or.inr rfl, trivial⟩ ?_
          refine ih (i + 1) _ (by omega) ?_
          simp only [chF]
          rw [← hfo, hv1, hv2]
          unfold ab
          rw [if_pos (by omega)]
        · refine k_il hK (q := 71)  dX3_nearestOfLeast_69 rfl (z := ((M 16 ((row + (i : Nat)) + 1)) - (M 16 ((row + fo) + 1)))) rfl ?_
          refine k_ifne hK (q := 74) (t := 82) dX3_nearestOfLeast_71 rfl rfl (fun h71 => ?_) (fun h71 => ?_)
          · refine k_inc hK (q := 85)  dX3_nearestOfLeast_82 rfl (y := (i : Nat) + 1) (L2 := [some (vR 15), some (vI row), some (vI ex), some (vI fo), some (vI ((i : Nat) + 1)), some (vI ((M 16 ((row + (i : Nat)) + 1)) - (M 16 ((row + fo) + 1)))), some (vI 0)]) rfl rfl (by omega) rfl (k_goto hK (t := 5) dX3_nearestOfLeast_85 rfl ?_)
            refine k_weak hK (L2 := [some (vR 15), some (vI row), some (vI ex), some (vI fo), some (vI ((i : Nat) + 1)), none, none]) ⟨Or.inl rfl, Or.inl rfl, Or.inl rfl, Or.inl rfl, Or.inl rfl, Or.inr rfl, Or.inr rfl, trivial⟩ ?_
            refine ih (i + 1) _ (by omega) ?_
            simp only [chF]
            rw [← hfo, hv1, hv2]
            unfold ab
            rw [if_neg (by omega)]
          · refine k_il hK (q := 76)  dX3_nearestOfLeast_74 rfl (z := 0) rfl ?_
            refine k_ifeq hK (q := 79) (t := 82) dX3_nearestOfLeast_76 rfl rfl (fun h76 => ?_) (fun h76 => ?_)
            · skip
              refine k_inc hK (q := 85)  dX3_nearestOfLeast_82 rfl (y := (i : Nat) + 1) (L2 := [some (vR 15), some (vI row), some (vI ex), some (vI fo), some (vI ((i : Nat) + 1)), some (vI ((M 16 ((row + (i : Nat)) + 1)) - (M 16 ((row + fo) + 1)))), some (vI 0)]) rfl rfl (by omega) rfl (k_goto hK (t := 5) dX3_nearestOfLeast_85 rfl ?_)
              refine k_weak hK (L2 := [some (vR 15), some (vI row), some (vI ex), some (vI fo), some (vI ((i : Nat) + 1)), none, none]) ⟨Or.inl rfl, Or.inl rfl, Or.inl rfl, Or.inl rfl, Or.inl rfl, Or.inr rfl, Or.inr rfl, trivial⟩ ?_
              refine ih (i + 1) _ (by omega) ?_
              simp only [chF]
              rw [← hfo, hv1, hv2]
              unfold ab
              rw [if_neg (by omega)]
            · skip
              refine k_il hK (q := 81)  dX3_nearestOfLeast_79 rfl (z := (i : Nat)) rfl (k_isn hK (q := 82)  dX3_nearestOfLeast_81 rfl (L2 := [some (vR 15), some (vI row), some (vI ex), some (vI (i : Nat)), some (vI (i : Nat)), some (vI ((M 16 ((row + (i : Nat)) + 1)) - (M 16 ((row + fo) + 1)))), some (vI 0)]) (Nat.le_of_ble_eq_true rfl) rfl (k_inc hK (q := 85)  dX3_nearestOfLeast_82 rfl (y := (i : Nat) + 1) (L2 := [some (vR 15), some (vI row), some (vI ex), some (vI (i : Nat)), some (vI ((i : Nat) + 1)), some (vI ((M 16 ((row + (i : Nat)) + 1)) - (M 16 ((row + fo) + 1)))), some (vI 0)]) rfl rfl (by omega) rfl (k_goto hK (t := 5) dX3_nearestOfLeast_85 rfl ?_)))
              refine k_weak hK (L2 := [some (vR 15), some (vI row), some (vI ex), some (vI (i : Nat)), some (vI ((i : Nat) + 1)), none, none]) ⟨Or.inl rfl, Or.inl rfl, Or.inl rfl, Or.inl rfl, Or.inl rfl, Or.inr rfl, Or.inr rfl, trivial⟩ ?_
              refine ih (i + 1) _ (by omega) ?_
              simp only [chF]
              rw [← hfo, hv1, hv2]
              unfold ab
              rw [if_pos (by omega)]
      · refine k_ic hK (q := 58)  dX3_nearestOfLeast_57 rfl (by decide) (k_goto hK (t := 62) dX3_nearestOfLeast_58 rfl (k_is hK (q := 64)  dX3_nearestOfLeast_62 rfl (L2 := [some (vR 15), some (vI row), some (vI ex), some (vI fo), some (vI (i : Nat)), some (vI ((M 16 ((row + (i : Nat)) + 1)) - (M 16 ((row + fo) + 1)))), some (vI 1)]) (Nat.le_of_ble_eq_true rfl) rfl (k_il hK (q := 66)  dX3_nearestOfLeast_64 rfl (z := ((M 16 ((row + (i : Nat)) + 1)) - (M 16 ((row + fo) + 1)))) rfl ?_)))
        refine k_iflt hK (q := 69) (t := 79) dX3_nearestOfLeast_66 rfl rfl (fun h66 => ?_) (fun h66 => ?_)
        · refine k_il hK (q := 81)  dX3_nearestOfLeast_79 rfl (z := (i : Nat)) rfl (k_isn hK (q := 82)  dX3_nearestOfLeast_81 rfl (L2 := [some (vR 15), some (vI row), some (vI ex), some (vI (i : Nat)), some (vI (i : Nat)), some (vI ((M 16 ((row + (i : Nat)) + 1)) - (M 16 ((row + fo) + 1)))), some (vI 1)]) (Nat.le_of_ble_eq_true rfl) rfl (k_inc hK (q := 85)  dX3_nearestOfLeast_82 rfl (y := (i : Nat) + 1) (L2 := [some (vR 15), some (vI row), some (vI ex), some (vI (i : Nat)), some (vI ((i : Nat) + 1)), some (vI ((M 16 ((row + (i : Nat)) + 1)) - (M 16 ((row + fo) + 1)))), some (vI 1)]) rfl rfl (by omega) rfl (k_goto hK (t := 5) dX3_nearestOfLeast_85 rfl ?_)))
          refine k_weak hK (L2 := [some (vR 15), some (vI row), some (vI ex), some (vI (i : Nat)), some (vI ((i : Nat) + 1)), none, none]) ⟨Or.inl rfl, Or.inl rfl, Or.inl rfl, Or.inl rfl, Or.inl rfl, Or.inr rfl, Or.inr rfl, trivial⟩ ?_
          refine ih (i + 1) _ (by omega) ?_
          simp only [chF]
          rw [← hfo, hv1, hv2]
          unfold ab
          rw [if_pos (by omega)]
        · refine k_il hK (q := 71)  dX3_nearestOfLeast_69 rfl (z := ((M 16 ((row + (i : Nat)) + 1)) - (M 16 ((row + fo) + 1)))) rfl ?_
          refine k_ifne hK (q := 74) (t := 82) dX3_nearestOfLeast_71 rfl rfl (fun h71 => ?_) (fun h71 => ?_)
          · refine k_inc hK (q := 85)  dX3_nearestOfLeast_82 rfl (y := (i : Nat) + 1) (L2 := [some (vR 15), some (vI row), some (vI ex), some (vI fo), some (vI ((i : Nat) + 1)), some (vI ((M 16 ((row + (i : Nat)) + 1)) - (M 16 ((row + fo) + 1)))), some (vI 1)]) rfl rfl (by omega) rfl (k_goto hK (t := 5) dX3_nearestOfLeast_85 rfl ?_)
            refine k_weak hK (L2 := [some (vR 15), some (vI row), some (vI ex), some (vI fo), some (vI ((i : Nat) + 1)), none, none]) ⟨Or.inl rfl, Or.inl rfl, Or.inl rfl, Or.inl rfl, Or.inl rfl, Or.inr rfl, Or.inr rfl, trivial⟩ ?_
            refine ih (i + 1) _ (by omega) ?_
            simp only [chF]
            rw [← hfo, hv1, hv2]
            unfold ab
            rw [if_neg (by omega)]
          · refine k_il hK (q := 76)  dX3_nearestOfLeast_74 rfl (z := 1) rfl ?_
            refine k_ifeq hK (q := 79) (t := 82) dX3_nearestOfLeast_76 rfl rfl (fun h76 => ?_) (fun h76 => ?_)
            · skip
              refine k_inc hK (q := 85)  dX3_nearestOfLeast_82 rfl (y := (i : Nat) + 1) (L2 := [some (vR 15), some (vI row), some (vI ex), some (vI fo), some (vI ((i : Nat) + 1)), some (vI ((M 16 ((row + (i : Nat)) + 1)) - (M 16 ((row + fo) + 1)))), some (vI 1)]) rfl rfl (by omega) rfl (k_goto hK (t := 5) dX3_nearestOfLeast_85 rfl ?_)
              refine k_weak hK (L2 := [some (vR 15), some (vI row), some (vI ex), some (vI fo), some (vI ((i : Nat) + 1)), none, none]) ⟨Or.inl rfl, Or.inl rfl, Or.inl rfl, Or.inl rfl, Or.inl rfl, Or.inr rfl, Or.inr rfl, trivial⟩ ?_
              refine ih (i + 1) _ (by omega) ?_
              simp only [chF]
              rw [← hfo, hv1, hv2]
              unfold ab
              rw [if_neg (by omega)]
            · skip
              refine k_il hK (q := 81)  dX3_nearestOfLeast_79 rfl (z := (i : Nat)) rfl (k_isn hK (q := 82)  dX3_nearestOfLeast_81 rfl (L2 := [some (vR 15), some (vI row), some (vI ex), some (vI (i : Nat)), some (vI (i : Nat)), some (vI ((M 16 ((row + (i : Nat)) + 1)) - (M 16 ((row + fo) + 1)))), some (vI 1)]) (Nat.le_of_ble_eq_true rfl) rfl (k_inc hK (q := 85)  dX3_nearestOfLeast_82 rfl (y := (i : Nat) + 1) (L2 := [some (vR 15), some (vI row), some (vI ex), some (vI (i : Nat)), some (vI ((i : Nat) + 1)), some (vI ((M 16 ((row + (i : Nat)) + 1)) - (M 16 ((row + fo) + 1)))), some (vI 1)]) rfl rfl (by omega) rfl (k_goto hK (t := 5) dX3_nearestOfLeast_85 rfl ?_)))
              refine k_weak hK (L2 := [some (vR 15), some (vI row), some (vI ex), some (vI (i : Nat)), some (vI ((i : Nat) + 1)), none, none]) ⟨Or.inl rfl, Or.inl rfl, Or.inl rfl, Or.inl rfl, Or.inl rfl, Or.inr rfl, Or.inr rfl, trivial⟩ ?_
              refine ih (i + 1) _ (by omega) ?_
              simp only [chF]
              rw [← hfo, hv1, hv2]
              unfold ab
              rw [if_pos (by omega)]

set_option maxRecDepth 20000 in
set_option maxHeartbeats 2000000 in
theorem xc_nearest (d : Nat) (M : ra_M) (row ex : Int) (S : Sc) (hs : scC M = S) (hS : okSc S) (hrow : 0 ≤ row ∧ row ≤ 7320) (hex : 0 ≤ ex ∧ ex ≤ 60) (hr : ∀ j, pn S j → 0 ≤ M 16 (row + j) ∧ M 16 (row + j) ≤ NV) : Ex (d + 1) m_X3_nearestOfLeast [vR 15, vI row, vI ex] M (fun r M2 => r = some (vI (chF (rv M row) ex (S 0 0).toNat)) ∧ M2 = M) := by
  refine Ex_call (Nat.le_of_ble_eq_true rfl) (fun K hK => ?_)
  show K 0 [some (vR 15), some (vI row), some (vI ex), none, none, none, none] [] M
  have hK : ra_Clo _ m_X3_nearestOfLeast cX3_nearestOfLeast _ K := hK
  refine k_ic hK (q := 1)  dX3_nearestOfLeast_0 rfl (by decide) (k_isn hK (q := 2)  dX3_nearestOfLeast_1 rfl (L2 := [some (vR 15), some (vI row), some (vI ex), some (vI (-1)), none, none, none]) (Nat.le_of_ble_eq_true rfl) rfl (k_ic hK (q := 3)  dX3_nearestOfLeast_2 rfl (by decide) (k_is hK (q := 5)  dX3_nearestOfLeast_3 rfl (L2 := [some (vR 15), some (vI row), some (vI ex), some (vI (-1)), some (vI 0), none, none]) (Nat.le_of_ble_eq_true rfl) rfl ?_)))
  exact nearest_loop hK hS hs hrow hex hr (fun fo h => ⟨by rw [h], rfl⟩) (S 0 0).toNat 0 (-1) (by omega) rfl

set_option maxRecDepth 20000 in
set_option maxHeartbeats 2000000 in
theorem forget_loop {d : Nat} {Q : Option ra_V → ra_M → Prop} {K : Nat → ra_L → List ra_V → ra_M → Prop} (hK : ra_Clo (Ex d) m_X3_forgetFar cX3_forgetFar Q K) {S : Sc} (hS : okSc S) {M0 : ra_M} {row ce : Int} (hrow : 0 ≤ row ∧ row ≤ 7320) (hce : -1 ≤ ce ∧ ce ≤ 60)
    (hQ : ∀ M : ra_M, (∀ j, pn S j → M 16 (row + j) = fgt S (rv M0 row) ce j) → offR row M0 M → frX [16] M0 M → Q none M) :
    ∀ (n i : Nat) (M : ra_M) (pl : Int), i + n = (S 0 0).toNat + 1 → pl = (i : Int) - 1 → scC M = S → (∀ t : Nat, t < i → M 16 (row + (t : Nat)) = fgt S (rv M0 row) ce (t : Nat)) → (∀ t : Nat, i ≤ t → (t : Int) ≤ S 0 0 → M 16 (row + (t : Nat)) = M0 16 (row + (t : Nat))) → offR row M0 M → frX [16] M0 M → K 2 [some (vR 15), some (vI row), some (vI ce), some (vI pl)] [] M := by
  have hs0 := hS.1
  intro n
  induction n with
  | zero =>
    intro i M pl hi hpl hs h1 h2 ho hf
    obtain ⟨e5, e6, e7, e8, e9⟩ := scC_e hs
    refine k_iln hK (q := 3)  dX3_forgetFar_2 rfl (z := pl) rfl (k_aln hK (q := 4)  dX3_forgetFar_3 rfl (z := 15) rfl (k_gR hK (q := 7) (r := 1) dX3_forgetFar_4 rfl rf_X3_21 rfl rfl (k_gI hK (q := 10) (z := M 1 5) 0 dX3_forgetFar_7 rfl rf_X3_58 rfl rfl rfl rfl ?_)))
    refine k_cge hK (q := 13) (t := 47) dX3_forgetFar_10 rfl rfl (fun h10 => ?_) (fun h10 => ?_)
    · refine k_vr hK dX3_forgetFar_47 rfl ?_
      exact hQ M (fun j hj => by have := h1 j.toNat (by omega); rw [show ((j.toNat : Nat) : Int) = j by omega] at this; exact this) ho hf
    · exact absurd h10 (by omega)
  | succ n ih =>
    intro i M pl hi hpl hs h1 h2 ho hf
    obtain ⟨e5, e6, e7, e8, e9⟩ := scC_e hs
    refine k_iln hK (q := 3)  dX3_forgetFar_2 rfl (z := pl) rfl (k_aln hK (q := 4)  dX3_forgetFar_3 rfl (z := 15) rfl (k_gR hK (q := 7) (r := 1) dX3_forgetFar_4 rfl rf_X3_21 rfl rfl (k_gI hK (q := 10) (z := M 1 5) 0 dX3_forgetFar_7 rfl rf_X3_58 rfl rfl rfl rfl ?_)))
    refine k_cge hK (q := 13) (t := 47) dX3_forgetFar_10 rfl rfl (fun h10 => ?_) (fun h10 => ?_)
    · exact absurd h10 (by omega)
    · refine k_iln hK (q := 14)  dX3_forgetFar_13 rfl (z := pl) rfl (k_iln hK (q := 15)  dX3_forgetFar_14 rfl (z := ce) rfl (k_sub hK (q := 16)  dX3_forgetFar_15 rfl (z := pl - ce) rfl (by omega) ?_))
      refine k_st1I hK (q := 19) dX3_forgetFar_16 rfl rm_X3_101 (Nat.le_of_ble_eq_true rfl) (t_abs _ M (pl - ce) (by omega)) ?_
      refine k_aln hK (q := 20)  dX3_forgetFar_19 rfl (z := 15) rfl (k_gR hK (q := 23) (r := 1) dX3_forgetFar_20 rfl rf_X3_21 rfl rfl (k_gI hK (q := 26) (z := M 1 9) 0 dX3_forgetFar_23 rfl rf_X3_105 rfl rfl rfl rfl ?_))
      refine k_cle hK (q := 29) (t := 41) dX3_forgetFar_26 rfl rfl (fun h26 => ?_) (fun h26 => ?_)
      · refine k_inc hK (q := 44)  dX3_forgetFar_41 rfl (y := pl + 1) (L2 := [some (vR 15), some (vI row), some (vI ce), some (vI (pl + 1))]) rfl rfl (by omega) rfl (k_goto hK (t := 2) dX3_forgetFar_44 rfl ?_)
        refine ih (i + 1) M (pl + 1) (by omega) (by omega) hs (fun t ht => ?_) (fun t ht1 ht2 => h2 t (by omega) ht2) ho hf
        by_cases h : t = i
        · subst h
          rw [h2 t (by omega) (by omega)]
          unfold fgt
          rw [if_neg (by intro q; have q2 := q.2.2; unfold ab at q2; rw [show ((t : Nat) : Int) - 1 - ce = pl - ce by omega] at q2; omega)]
          rfl
        · exact h1 t (by omega)
      · refine k_aln hK (q := 30)  dX3_forgetFar_29 rfl (z := 15) rfl (k_gR hK (q := 33) (r := 16) dX3_forgetFar_30 rfl rf_X3_9 rfl rfl (k_iln hK (q := 34)  dX3_forgetFar_33 rfl (z := row) rfl (k_iln hK (q := 35)  dX3_forgetFar_34 rfl (z := pl) rfl (k_add hK (q := 36)  dX3_forgetFar_35 rfl (z := row + pl) rfl (by omega) (k_ic hK (q := 37)  dX3_forgetFar_36 rfl (by decide) ?_)))))
        refine k_add hK (q := 38)  dX3_forgetFar_37 rfl (z := (row + pl) + 1) rfl (by omega) (k_ldc hK (q := 40)  dX3_forgetFar_38 rfl rc_X3_33 (k_ast hK (q := 41)  dX3_forgetFar_40 rfl rfl (by omega) (k_inc hK (q := 44)  dX3_forgetFar_41 rfl (y := pl + 1) (L2 := [some (vR 15), some (vI row), some (vI ce), some (vI (pl + 1))]) rfl rfl (by omega) rfl (k_goto hK (t := 2) dX3_forgetFar_44 rfl ?_))))
        refine ih (i + 1) _ (pl + 1) (by omega) (by omega) (by rw [scC_fr (M := M) (frX_S (l := [16]) (frX_up (frX_refl _ _) _ _ (by decide)) (by decide))]; exact hs) (fun t ht => ?_) (fun t ht1 ht2 => by rw [up_j _ _ (by omega)]; exact h2 t (by omega) ht2) (offR_up ho (by omega)) (frX_up hf _ _ (by decide))
        by_cases h : t = i
        · subst h
          rw [show row + (t : Nat) = row + pl + 1 by omega, up_same]
          unfold fgt
          rw [if_pos ⟨by omega, by omega, by unfold ab; rw [show ((t : Nat) : Int) - 1 - ce = pl - ce by omega]; omega⟩]
        · rw [up_j _ _ (by omega)]
          exact h1 t (by omega)

set_option maxRecDepth 20000 in
set_option maxHeartbeats 2000000 in
theorem xc_forget (d : Nat) (M : ra_M) (row ce : Int) (S : Sc) (hs : scC M = S) (hS : okSc S) (hrow : 0 ≤ row ∧ row ≤ 7320) (hce : -1 ≤ ce ∧ ce ≤ 60) : Ex (d + 1) m_X3_forgetFar [vR 15, vI row, vI ce] M (fun r M2 => r = none ∧ (∀ j, pn S j → M2 16 (row + j) = fgt S (rv M row) ce j) ∧ offR row M M2 ∧ frX [16] M M2) := by
  refine Ex_call (Nat.le_of_ble_eq_true rfl) (fun K hK => ?_)
  show K 0 [some (vR 15), some (vI row), some (vI ce), none] [] M
  have hK : ra_Clo _ m_X3_forgetFar cX3_forgetFar _ K := hK
  refine k_ic hK (q := 1)  dX3_forgetFar_0 rfl (by decide) (k_isn hK (q := 2)  dX3_forgetFar_1 rfl (L2 := [some (vR 15), some (vI row), some (vI ce), some (vI (-1))]) (Nat.le_of_ble_eq_true rfl) rfl ?_)
  exact forget_loop hK hS (M0 := M) hrow hce (fun M2 h1 h2 h3 => ⟨rfl, h1, h2, h3⟩) ((S 0 0).toNat + 1) 0 M (-1) (by omega) (by omega) hs (fun t ht => by omega) (fun t _ _ => rfl) (fun z _ => rfl) (frX_refl _ _)
