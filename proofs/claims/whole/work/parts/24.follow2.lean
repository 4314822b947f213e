set_option maxRecDepth 20000 in
set_option maxHeartbeats 2000000 in
theorem nearest_loop {d : Nat} {Q : Option ra_V → ra_M → Prop} {K : Nat → ra_L → List ra_V → ra_M → Prop} (hK : ra_Clo (Ex d) m_X3_nearestOfLeast cX3_nearestOfLeast Q K) {S : Sc} (hS : okSc S) {M : ra_M} (hs : scC M = S) {ex : Int} (hex : 0 ≤ ex ∧ ex ≤ 60) (hr : ∀ j, pn S j → 0 ≤ M 16 j ∧ M 16 j ≤ NV)
    (hQ : ∀ fo : Int, fo = chF (M 16) ex (S 0 0).toNat → Q (some (vI fo)) M) :
    ∀ (n i : Nat) (fo : Int), i + n = (S 0 0).toNat → fo = chF (M 16) ex i → K 4 [some (vR 15), some (vI ex), some (vI fo), some (vI (i : Nat)), none, none] [] M := by
  have hNV : NV = 1000000000 := rfl
  obtain ⟨e5, e6, e7, e8, e9⟩ := scC_e hs
  have hs0 := hS.1
  intro n
  induction n with
  | zero =>
    intro i fo hi hfo
    refine k_iln hK (q := 5)  dX3_nearestOfLeast_4 rfl (z := (i : Nat)) rfl (k_aln hK (q := 6)  dX3_nearestOfLeast_5 rfl (z := 15) rfl (k_gR hK (q := 9) (r := 1) dX3_nearestOfLeast_6 rfl rf_X3_18 rfl rfl (k_gI hK (q := 12) (z := M 1 5) 0 dX3_nearestOfLeast_9 rfl rf_X3_57 rfl rfl rfl rfl ?_)))
    refine k_cge hK (q := 15) (t := 73) dX3_nearestOfLeast_12 rfl rfl (fun h12 => ?_) (fun h12 => ?_)
    · refine k_iln hK (q := 74)  dX3_nearestOfLeast_73 rfl (z := fo) rfl ?_
      refine k_ir hK dX3_nearestOfLeast_74 rfl ?_
      have hi2 : i = (S 0 0).toNat := by omega
      subst hi2
      exact hQ fo hfo
    · exact absurd h12 (by omega)
  | succ n ih =>
    intro i fo hi hfo
    have hfr := chF_in (M 16) ex i
    rw [← hfo] at hfr
    have hr1 := hr ((i : Nat) + 1) ⟨by omega, by omega⟩
    have hr2 := hr (fo + 1) ⟨by omega, by omega⟩
    refine k_iln hK (q := 5)  dX3_nearestOfLeast_4 rfl (z := (i : Nat)) rfl (k_aln hK (q := 6)  dX3_nearestOfLeast_5 rfl (z := 15) rfl (k_gR hK (q := 9) (r := 1) dX3_nearestOfLeast_6 rfl rf_X3_18 rfl rfl (k_gI hK (q := 12) (z := M 1 5) 0 dX3_nearestOfLeast_9 rfl rf_X3_57 rfl rfl rfl rfl ?_)))
    refine k_cge hK (q := 15) (t := 73) dX3_nearestOfLeast_12 rfl rfl (fun h12 => ?_) (fun h12 => ?_)
    · exact absurd h12 (by omega)
    · refine k_aln hK (q := 16)  dX3_nearestOfLeast_15 rfl (z := 15) rfl (k_iln hK (q := 17)  dX3_nearestOfLeast_16 rfl (z := (i : Nat)) rfl ?_)
      refine k_iv1I hK (q := 20) dX3_nearestOfLeast_17 rfl rm_X3_103 rfl rfl (Nat.le_of_ble_eq_true rfl) (xc_valueAt _ M (i : Nat) (by omega)) ?_
      refine k_aln hK (q := 21)  dX3_nearestOfLeast_20 rfl (z := 15) rfl (k_iln hK (q := 22)  dX3_nearestOfLeast_21 rfl (z := fo) rfl ?_)
      refine k_iv1I hK (q := 25) dX3_nearestOfLeast_22 rfl rm_X3_103 rfl rfl (Nat.le_of_ble_eq_true rfl) (xc_valueAt _ M fo (by omega)) ?_
      refine k_sub hK (q := 26)  dX3_nearestOfLeast_25 rfl (z := (M 16 ((i : Nat) + 1)) - (M 16 (fo + 1))) rfl (by omega) (k_is hK (q := 28)  dX3_nearestOfLeast_26 rfl (L2 := [some (vR 15), some (vI ex), some (vI fo), some (vI (i : Nat)), some (vI ((M 16 ((i : Nat) + 1)) - (M 16 (fo + 1)))), none]) (Nat.le_of_ble_eq_true rfl) rfl (k_iln hK (q := 29)  dX3_nearestOfLeast_28 rfl (z := (i : Nat)) rfl (k_iln hK (q := 30)  dX3_nearestOfLeast_29 rfl (z := ex) rfl (k_sub hK (q := 31)  dX3_nearestOfLeast_30 rfl (z := (i : Nat) - ex) rfl (by omega) ?_))))
      refine k_st1I hK (q := 34) dX3_nearestOfLeast_31 rfl rm_X3_106 (Nat.le_of_ble_eq_true rfl) (t_abs _ M ((i : Nat) - ex) (by omega)) ?_
      refine k_iln hK (q := 35)  dX3_nearestOfLeast_34 rfl (z := fo) rfl (k_iln hK (q := 36)  dX3_nearestOfLeast_35 rfl (z := ex) rfl (k_sub hK (q := 37)  dX3_nearestOfLeast_36 rfl (z := fo - ex) rfl (by omega) ?_))
      refine k_st1I hK (q := 40) dX3_nearestOfLeast_37 rfl rm_X3_106 (Nat.le_of_ble_eq_true rfl) (t_abs _ M (fo - ex) (by omega)) ?_
      refine k_cge hK (q := 43) (t := 47) dX3_nearestOfLeast_40 rfl rfl (fun h40 => ?_) (fun h40 => ?_)
      · refine k_ic hK (q := 48)  dX3_nearestOfLeast_47 rfl (by decide) (k_is hK (q := 50)  dX3_nearestOfLeast_48 rfl (L2 := [some (vR 15), some (vI ex), some (vI fo), some (vI (i : Nat)), some (vI ((M 16 ((i : Nat) + 1)) - (M 16 (fo + 1)))), some (vI 0)]) (Nat.le_of_ble_eq_true rfl) rfl (k_il hK (q := 52)  dX3_nearestOfLeast_50 rfl (z := ((M 16 ((i : Nat) + 1)) - (M 16 (fo + 1)))) rfl ?_))
        refine k_iflt hK (q := 55) (t := 65) dX3_nearestOfLeast_52 rfl rfl (fun h52 => ?_) (fun h52 => ?_)
        · refine k_iln hK (q := 66)  dX3_nearestOfLeast_65 rfl (z := (i : Nat)) rfl (k_isn hK (q := 67)  dX3_nearestOfLeast_66 rfl (L2 := [some (vR 15), some (vI ex), some (vI (i : Nat)), some (vI (i : Nat)), some (vI ((M 16 ((i : Nat) + 1)) - (M 16 (fo + 1)))), some (vI 0)]) (Nat.le_of_ble_eq_true rfl) rfl (k_inc hK (q := 70)  dX3_nearestOfLeast_67 rfl (y := (i : Nat) + 1) (L2 := [some (vR 15), some (vI ex), some (vI (i : Nat)), some (vI ((i : Nat) + 1)), some (vI ((M 16 ((i : Nat) + 1)) - (M 16 (fo + 1)))), some (vI 0)]) rfl rfl (by omega) rfl (k_goto hK (t := 4) dX3_nearestOfLeast_70 rfl ?_)))
          refine k_weak hK (L2 := [some (vR 15), some (vI ex), some (vI (i : Nat)), some (vI ((i : Nat) + 1)), none, none]) ⟨Or.inl rfl, Or.inl rfl, Or.inl rfl, Or.inl rfl, Or.inr rfl, Or.inr rfl, trivial⟩ ?_
          refine ih (i + 1) _ (by omega) ?_
          simp only [chF]
          rw [← hfo]
          unfold ab
          rw [if_pos (by omega)]
        · refine k_il hK (q := 57)  dX3_nearestOfLeast_55 rfl (z := ((M 16 ((i : Nat) + 1)) - (M 16 (fo + 1)))) rfl ?_
          refine k_ifne hK (q := 60) (t := 67) dX3_nearestOfLeast_57 rfl rfl (fun h57 => ?_) (fun h57 => ?_)
          · refine k_inc hK (q := 70)  dX3_nearestOfLeast_67 rfl (y := (i : Nat) + 1) (L2 := [some (vR 15), some (vI ex), some (vI fo), some (vI ((i : Nat) + 1)), some (vI ((M 16 ((i : Nat) + 1)) - (M 16 (fo + 1)))), some (vI 0)]) rfl rfl (by omega) rfl (k_goto hK (t := 4) dX3_nearestOfLeast_70 rfl ?_)
            refine k_weak hK (L2 := [some (vR 15), some (vI ex), some (vI fo), some (vI ((i : Nat) + 1)), none, none]) ⟨Or.inl rfl, Or.inl rfl, Or.inl rfl, Or.inl rfl, Or.inr rfl, Or.inr rfl, trivial⟩ ?_
            refine ih (i + 1) _ (by omega) ?_
            simp only [chF]
            rw [← hfo]
            unfold ab
            rw [if_neg (by omega)]
          · refine k_il hK (q := 62)  dX3_nearestOfLeast_60 rfl (z := 0) rfl ?_
            refine k_ifeq hK (q := 65) (t := 67) dX3_nearestOfLeast_62 rfl rfl (fun _ => ?_) (fun h62 => absurd h62 (by decide))
            refine k_inc hK (q := 70)  dX3_nearestOfLeast_67 rfl (y := (i : Nat) + 1) (L2 := [some (vR 15), some (vI ex), some (vI fo), some (vI ((i : Nat) + 1)), some (vI ((M 16 ((i : Nat) + 1)) - (M 16 (fo + 1)))), some (vI 0)]) rfl rfl (by omega) rfl (k_goto hK (t := 4) dX3_nearestOfLeast_70 rfl ?_)
            refine k_weak hK (L2 := [some (vR 15), some (vI ex), some (vI fo), some (vI ((i : Nat) + 1)), none, none]) ⟨Or.inl rfl, Or.inl rfl, Or.inl rfl, Or.inl rfl, Or.inr rfl, Or.inr rfl, trivial⟩ ?_
            refine ih (i + 1) _ (by omega) ?_
            simp only [chF]
            rw [← hfo]
            unfold ab
            rw [if_neg (by omega)]
      · refine k_ic hK (q := 44)  dX3_nearestOfLeast_43 rfl (by decide) (k_goto hK (t := 48) dX3_nearestOfLeast_44 rfl (k_is hK (q := 50)  dX3_nearestOfLeast_48 rfl (L2 := [some (vR 15), some (vI ex), some (vI fo), some (vI (i : Nat)), some (vI ((M 16 ((i : Nat) + 1)) - (M 16 (fo + 1)))), some (vI 1)]) (Nat.le_of_ble_eq_true rfl) rfl (k_il hK (q := 52)  dX3_nearestOfLeast_50 rfl (z := ((M 16 ((i : Nat) + 1)) - (M 16 (fo + 1)))) rfl ?_)))
        refine k_iflt hK (q := 55) (t := 65) dX3_nearestOfLeast_52 rfl rfl (fun h52 => ?_) (fun h52 => ?_)
        · refine k_iln hK (q := 66)  dX3_nearestOfLeast_65 rfl (z := (i : Nat)) rfl (k_isn hK (q := 67)  dX3_nearestOfLeast_66 rfl (L2 := [some (vR 15), some (vI ex), some (vI (i : Nat)), some (vI (i : Nat)), some (vI ((M 16 ((i : Nat) + 1)) - (M 16 (fo + 1)))), some (vI 1)]) (Nat.le_of_ble_eq_true rfl) rfl (k_inc hK (q := 70)  dX3_nearestOfLeast_67 rfl (y := (i : Nat) + 1) (L2 := [some (vR 15), some (vI ex), some (vI (i : Nat)), some (vI ((i : Nat) + 1)), some (vI ((M 16 ((i : Nat) + 1)) - (M 16 (fo + 1)))), some (vI 1)]) rfl rfl (by omega) rfl (k_goto hK (t := 4) dX3_nearestOfLeast_70 rfl ?_)))
          refine k_weak hK (L2 := [some (vR 15), some (vI ex), some (vI (i : Nat)), some (vI ((i : Nat) + 1)), none, none]) ⟨Or.inl rfl, Or.inl rfl, Or.inl rfl, Or.inl rfl, Or.inr rfl, Or.inr rfl, trivial⟩ ?_
          refine ih (i + 1) _ (by omega) ?_
          simp only [chF]
          rw [← hfo]
          unfold ab
          rw [if_pos (by omega)]
        · refine k_il hK (q := 57)  dX3_nearestOfLeast_55 rfl (z := ((M 16 ((i : Nat) + 1)) - (M 16 (fo + 1)))) rfl ?_
          refine k_ifne hK (q := 60) (t := 67) dX3_nearestOfLeast_57 rfl rfl (fun h57 => ?_) (fun h57 => ?_)
          · refine k_inc hK (q := 70)  dX3_nearestOfLeast_67 rfl (y := (i : Nat) + 1) (L2 := [some (vR 15), some (vI ex), some (vI fo), some (vI ((i : Nat) + 1)), some (vI ((M 16 ((i : Nat) + 1)) - (M 16 (fo + 1)))), some (vI 1)]) rfl rfl (by omega) rfl (k_goto hK (t := 4) dX3_nearestOfLeast_70 rfl ?_)
            refine k_weak hK (L2 := [some (vR 15), some (vI ex), some (vI fo), some (vI ((i : Nat) + 1)), none, none]) ⟨Or.inl rfl, Or.inl rfl, Or.inl rfl, Or.inl rfl, Or.inr rfl, Or.inr rfl, trivial⟩ ?_
            refine ih (i + 1) _ (by omega) ?_
            simp only [chF]
            rw [← hfo]
            unfold ab
            rw [if_neg (by omega)]
          · refine k_il hK (q := 62)  dX3_nearestOfLeast_60 rfl (z := 1) rfl ?_
            refine k_ifeq hK (q := 65) (t := 67) dX3_nearestOfLeast_62 rfl rfl (fun h62 => absurd h62 (by decide)) (fun _ => ?_)
            refine k_iln hK (q := 66)  dX3_nearestOfLeast_65 rfl (z := (i : Nat)) rfl (k_isn hK (q := 67)  dX3_nearestOfLeast_66 rfl (L2 := [some (vR 15), some (vI ex), some (vI (i : Nat)), some (vI (i : Nat)), some (vI ((M 16 ((i : Nat) + 1)) - (M 16 (fo + 1)))), some (vI 1)]) (Nat.le_of_ble_eq_true rfl) rfl (k_inc hK (q := 70)  dX3_nearestOfLeast_67 rfl (y := (i : Nat) + 1) (L2 := [some (vR 15), some (vI ex), some (vI (i : Nat)), some (vI ((i : Nat) + 1)), some (vI ((M 16 ((i : Nat) + 1)) - (M 16 (fo + 1)))), some (vI 1)]) rfl rfl (by omega) rfl (k_goto hK (t := 4) dX3_nearestOfLeast_70 rfl ?_)))
            refine k_weak hK (L2 := [some (vR 15), some (vI ex), some (vI (i : Nat)), some (vI ((i : Nat) + 1)), none, none]) ⟨Or.inl rfl, Or.inl rfl, Or.inl rfl, Or.inl rfl, Or.inr rfl, Or.inr rfl, trivial⟩ ?_
            refine ih (i + 1) _ (by omega) ?_
            simp only [chF]
            rw [← hfo]
            unfold ab
            rw [if_pos (by omega)]

set_option maxRecDepth 20000 in
set_option maxHeartbeats 2000000 in
theorem xc_nearest (d : Nat) (M : ra_M) (ex : Int) (S : Sc) (hs : scC M = S) (hS : okSc S) (hex : 0 ≤ ex ∧ ex ≤ 60) (hr : ∀ j, pn S j → 0 ≤ M 16 j ∧ M 16 j ≤ NV) : Ex (d + 1) m_X3_nearestOfLeast [vR 15, vI ex] M (fun r M2 => r = some (vI (chF (M 16) ex (S 0 0).toNat)) ∧ M2 = M) := by
  refine Ex_call (Nat.le_of_ble_eq_true rfl) (fun K hK => ?_)
  show K 0 [some (vR 15), some (vI ex), none, none, none, none] [] M
  have hK : ra_Clo _ m_X3_nearestOfLeast cX3_nearestOfLeast _ K := hK
  refine k_ic hK (q := 1)  dX3_nearestOfLeast_0 rfl (by decide) (k_isn hK (q := 2)  dX3_nearestOfLeast_1 rfl (L2 := [some (vR 15), some (vI ex), some (vI (-1)), none, none, none]) (Nat.le_of_ble_eq_true rfl) rfl (k_ic hK (q := 3)  dX3_nearestOfLeast_2 rfl (by decide) (k_isn hK (q := 4)  dX3_nearestOfLeast_3 rfl (L2 := [some (vR 15), some (vI ex), some (vI (-1)), some (vI 0), none, none]) (Nat.le_of_ble_eq_true rfl) rfl ?_)))
  exact nearest_loop hK hS hs hex hr (fun fo h => ⟨by rw [h], rfl⟩) (S 0 0).toNat 0 (-1) (by omega) rfl

set_option maxRecDepth 20000 in
set_option maxHeartbeats 2000000 in
theorem forget_loop {d : Nat} {Q : Option ra_V → ra_M → Prop} {K : Nat → ra_L → List ra_V → ra_M → Prop} (hK : ra_Clo (Ex d) m_X3_forgetFar cX3_forgetFar Q K) {S : Sc} (hS : okSc S) {M0 : ra_M} {ce : Int} (hce : -1 ≤ ce ∧ ce ≤ 60) (hce0 : M0 15 5 = ce)
    (hQ : ∀ M : ra_M, (∀ j, pn S j → M 16 j = fgt S (M0 16) ce j) → frX [16] M0 M → Q none M) :
    ∀ (n i : Nat) (M : ra_M) (pl : Int), i + n = (S 0 0).toNat + 1 → pl = (i : Int) - 1 → scC M = S → (∀ t : Nat, t < i → M 16 (t : Nat) = fgt S (M0 16) ce (t : Nat)) → (∀ t : Nat, i ≤ t → (t : Int) ≤ S 0 0 → M 16 (t : Nat) = M0 16 (t : Nat)) → frX [16] M0 M → K 2 [some (vR 15), some (vI pl)] [] M := by
  have hs0 := hS.1
  intro n
  induction n with
  | zero =>
    intro i M pl hi hpl hs h1 h2 hf
    obtain ⟨e5, e6, e7, e8, e9⟩ := scC_e hs
    refine k_iln hK (q := 3)  dX3_forgetFar_2 rfl (z := pl) rfl (k_aln hK (q := 4)  dX3_forgetFar_3 rfl (z := 15) rfl (k_gR hK (q := 7) (r := 1) dX3_forgetFar_4 rfl rf_X3_18 rfl rfl (k_gI hK (q := 10) (z := M 1 5) 0 dX3_forgetFar_7 rfl rf_X3_57 rfl rfl rfl rfl ?_)))
    refine k_cge hK (q := 13) (t := 48) dX3_forgetFar_10 rfl rfl (fun h10 => ?_) (fun h10 => ?_)
    · refine k_vr hK dX3_forgetFar_48 rfl ?_
      exact hQ M (fun j hj => by have := h1 j.toNat (by omega); rw [show ((j.toNat : Nat) : Int) = j by omega] at this; exact this) hf
    · exact absurd h10 (by omega)
  | succ n ih =>
    intro i M pl hi hpl hs h1 h2 hf
    obtain ⟨e5, e6, e7, e8, e9⟩ := scC_e hs
    have hpl5 : M 15 5 = ce := by rw [hf 15 (by decide)]; exact hce0
    refine k_iln hK (q := 3)  dX3_forgetFar_2 rfl (z := pl) rfl (k_aln hK (q := 4)  dX3_forgetFar_3 rfl (z := 15) rfl (k_gR hK (q := 7) (r := 1) dX3_forgetFar_4 rfl rf_X3_18 rfl rfl (k_gI hK (q := 10) (z := M 1 5) 0 dX3_forgetFar_7 rfl rf_X3_57 rfl rfl rfl rfl ?_)))
    refine k_cge hK (q := 13) (t := 48) dX3_forgetFar_10 rfl rfl (fun h10 => ?_) (fun h10 => ?_)
    · exact absurd h10 (by omega)
    · refine k_iln hK (q := 14)  dX3_forgetFar_13 rfl (z := pl) rfl (k_aln hK (q := 15)  dX3_forgetFar_14 rfl (z := 15) rfl (k_gI hK (q := 18) (z := M 15 5) 0 dX3_forgetFar_15 rfl rf_X3_34 rfl rfl rfl rfl ?_))
      rw [hpl5]
      refine k_sub hK (q := 19)  dX3_forgetFar_18 rfl (z := pl - ce) rfl (by omega) ?_
      refine k_st1I hK (q := 22) dX3_forgetFar_19 rfl rm_X3_106 (Nat.le_of_ble_eq_true rfl) (t_abs _ M (pl - ce) (by omega)) ?_
      refine k_aln hK (q := 23)  dX3_forgetFar_22 rfl (z := 15) rfl (k_gR hK (q := 26) (r := 1) dX3_forgetFar_23 rfl rf_X3_18 rfl rfl (k_gI hK (q := 29) (z := M 1 9) 0 dX3_forgetFar_26 rfl rf_X3_109 rfl rfl rfl rfl ?_))
      refine k_cle hK (q := 32) (t := 42) dX3_forgetFar_29 rfl rfl (fun h29 => ?_) (fun h29 => ?_)
      · refine k_inc hK (q := 45)  dX3_forgetFar_42 rfl (y := pl + 1) (L2 := [some (vR 15), some (vI (pl + 1))]) rfl rfl (by omega) rfl (k_goto hK (t := 2) dX3_forgetFar_45 rfl ?_)
        refine ih (i + 1) M (pl + 1) (by omega) (by omega) hs (fun t ht => ?_) (fun t ht1 ht2 => h2 t (by omega) ht2) hf
        by_cases h : t = i
        · subst h
          rw [h2 t (by omega) (by omega)]
          unfold fgt
          rw [if_neg (by intro q; have q2 := q.2.2; unfold ab at q2; rw [show ((t : Nat) : Int) - 1 - ce = pl - ce by omega] at q2; omega)]
        · exact h1 t (by omega)
      · refine k_aln hK (q := 33)  dX3_forgetFar_32 rfl (z := 15) rfl (k_gR hK (q := 36) (r := 16) dX3_forgetFar_33 rfl rf_X3_9 rfl rfl (k_iln hK (q := 37)  dX3_forgetFar_36 rfl (z := pl) rfl (k_ic hK (q := 38)  dX3_forgetFar_37 rfl (by decide) (k_add hK (q := 39)  dX3_forgetFar_38 rfl (z := pl + 1) rfl (by omega) (k_ldc hK (q := 41)  dX3_forgetFar_39 rfl rc_X3_33 ?_)))))
        refine k_ast hK (q := 42)  dX3_forgetFar_41 rfl rfl (by omega) (k_inc hK (q := 45)  dX3_forgetFar_42 rfl (y := pl + 1) (L2 := [some (vR 15), some (vI (pl + 1))]) rfl rfl (by omega) rfl (k_goto hK (t := 2) dX3_forgetFar_45 rfl ?_))
        refine ih (i + 1) _ (pl + 1) (by omega) (by omega) (by rw [scC_fr (M := M) (frX_S (l := [16]) (frX_up (frX_refl _ _) _ _ (by decide)) (by decide))]; exact hs) (fun t ht => ?_) (fun t ht1 ht2 => by rw [up_j _ _ (by omega)]; exact h2 t (by omega) ht2) (frX_up hf _ _ (by decide))
        by_cases h : t = i
        · subst h
          rw [show ((t : Nat) : Int) = pl + 1 by omega, up_same]
          unfold fgt
          rw [if_pos ⟨by omega, by omega, by unfold ab; rw [show pl + 1 - 1 - ce = pl - ce by omega]; omega⟩]
        · rw [up_j _ _ (by omega)]
          exact h1 t (by omega)

set_option maxRecDepth 20000 in
set_option maxHeartbeats 2000000 in
theorem xc_forget (d : Nat) (M : ra_M) (ce : Int) (S : Sc) (hs : scC M = S) (hS : okSc S) (hce : -1 ≤ ce ∧ ce ≤ 60) (hce0 : M 15 5 = ce) : Ex (d + 1) m_X3_forgetFar [vR 15] M (fun r M2 => r = none ∧ (∀ j, pn S j → M2 16 j = fgt S (M 16) ce j) ∧ frX [16] M M2) := by
  refine Ex_call (Nat.le_of_ble_eq_true rfl) (fun K hK => ?_)
  show K 0 [some (vR 15), none] [] M
  have hK : ra_Clo _ m_X3_forgetFar cX3_forgetFar _ K := hK
  refine k_ic hK (q := 1)  dX3_forgetFar_0 rfl (by decide) (k_isn hK (q := 2)  dX3_forgetFar_1 rfl (L2 := [some (vR 15), some (vI (-1))]) (Nat.le_of_ble_eq_true rfl) rfl ?_)
  exact forget_loop hK hS (M0 := M) hce hce0 (fun M2 h1 h2 => ⟨rfl, h1, h2⟩) ((S 0 0).toNat + 1) 0 M (-1) (by omega) (by omega) hs (fun t ht => by omega) (fun t _ _ => rfl) (frX_refl _ _)

set_option maxRecDepth 20000 in
set_option maxHeartbeats 2000000 in
theorem begin_loop {C : Nat → List ra_V → ra_M → (Option ra_V → ra_M → Prop) → Prop} {Q : Option ra_V → ra_M → Prop} {K : Nat → ra_L → List ra_V → ra_M → Prop} (hK : ra_Clo C m_X3_begin cX3_begin Q K) {M0 : ra_M}
    (hX : ∀ M : ra_M, (∀ t : Nat, t < 61 → M 16 (t : Nat) = NV) → frX [16] M0 M → ∀ z, K 22 [some (vR 15), some (vI z)] [] M) :
    ∀ (n i : Nat) (M : ra_M), i + n = 61 → (∀ t : Nat, t < i → M 16 (t : Nat) = NV) → frX [16] M0 M → K 2 [some (vR 15), some (vI (i : Nat))] [] M := by
  intro n
  induction n with
  | zero =>
    intro i M hi hc hf
    refine k_iln hK (q := 3)  dX3_begin_2 rfl (z := (i : Nat)) rfl (k_bp hK (q := 5)  dX3_begin_3 rfl (by decide) ?_)
    refine k_cge hK (q := 8) (t := 22) dX3_begin_5 rfl rfl (fun h5 => ?_) (fun h5 => ?_)
    · exact hX M (fun t ht => hc t (by omega)) hf _
    · exact absurd h5 (by omega)
  | succ n ih =>
    intro i M hi hc hf
    refine k_iln hK (q := 3)  dX3_begin_2 rfl (z := (i : Nat)) rfl (k_bp hK (q := 5)  dX3_begin_3 rfl (by decide) ?_)
    refine k_cge hK (q := 8) (t := 22) dX3_begin_5 rfl rfl (fun h5 => ?_) (fun h5 => ?_)
    · exact absurd h5 (by omega)
    · refine k_aln hK (q := 9)  dX3_begin_8 rfl (z := 15) rfl (k_gR hK (q := 12) (r := 16) dX3_begin_9 rfl rf_X3_9 rfl rfl (k_iln hK (q := 13)  dX3_begin_12 rfl (z := (i : Nat)) rfl (k_ldc hK (q := 15)  dX3_begin_13 rfl rc_X3_33 (k_ast hK (q := 16)  dX3_begin_15 rfl rfl (by omega) (k_inc hK (q := 19)  dX3_begin_16 rfl (y := (i : Nat) + 1) (L2 := [some (vR 15), some (vI ((i : Nat) + 1))]) rfl rfl (by omega) rfl ?_)))))
      refine k_goto hK (t := 2) dX3_begin_19 rfl ?_
      refine ih (i + 1) _ (by omega) (fun t ht => ?_) (frX_up hf _ _ (by decide))
      by_cases h : t = i
      · subst h
        rw [up_same]
      · rw [up_j _ _ (by omega)]
        exact hc t (by omega)

set_option maxRecDepth 20000 in
set_option maxHeartbeats 2000000 in
theorem xc_begin (d : Nat) (M : ra_M) : Ex d m_X3_begin [vR 15] M (fun r M2 => r = none ∧ (∀ j, 0 ≤ j → j ≤ 60 → M2 16 j = v00 j) ∧ M2 15 5 = -1 ∧ (∀ j, j ≠ 5 → M2 15 j = M 15 j) ∧ frX [15, 16] M M2) := by
  refine Ex_leaf (Nat.le_of_ble_eq_true rfl) (fun C K hK => ?_)
  show K 0 [some (vR 15), none] [] M
  have hK : ra_Clo _ m_X3_begin cX3_begin _ K := hK
  have J22 : ∀ M1 : ra_M, (∀ t : Nat, t < 61 → M1 16 (t : Nat) = NV) → frX [16] M M1 → ∀ z, K 22 [some (vR 15), some (vI z)] [] M1 := by
    intro M1 hc hf z
    refine k_aln hK (q := 23)  dX3_begin_22 rfl (z := 15) rfl (k_gR hK (q := 26) (r := 16) dX3_begin_23 rfl rf_X3_9 rfl rfl (k_ic hK (q := 27)  dX3_begin_26 rfl (by decide) (k_ic hK (q := 28)  dX3_begin_27 rfl (by decide) (k_ast hK (q := 29)  dX3_begin_28 rfl rfl (by omega) (k_aln hK (q := 30)  dX3_begin_29 rfl (z := 15) rfl ?_)))))
    refine k_ic hK (q := 31)  dX3_begin_30 rfl (by decide) (k_pI hK (q := 34) (M2 := up (up M1 16 0 0) 15 5 (-1)) dX3_begin_31 rfl rp_X3_34 rfl rfl rfl ?_)
    refine k_vr hK dX3_begin_34 rfl ?_
    refine ⟨rfl, fun j a b => ?_, by simp [up], fun j hj => ?_, fun k hk => ?_⟩
    · unfold v00
      by_cases h : j = 0
      · simp [up, h]
      · have h3 := hc j.toNat (by omega)
        rw [show ((j.toNat : Nat) : Int) = j by omega] at h3
        simp [up, h, h3]
    · simp [up, hj, hf 15 (by decide)]
    · have hk2 : k ≠ 15 ∧ k ≠ 16 := by simp at hk; exact hk
      rw [up_k _ _ _ hk2.1, up_k _ _ _ hk2.2]
      exact hf k (by simp; exact hk2.2)
  refine k_ic hK (q := 1)  dX3_begin_0 rfl (by decide) (k_isn hK (q := 2)  dX3_begin_1 rfl (L2 := [some (vR 15), some (vI 0)]) (Nat.le_of_ble_eq_true rfl) rfl ?_)
  exact begin_loop hK J22 61 0 M (by omega) (fun t ht => by omega) (frX_refl _ _)
