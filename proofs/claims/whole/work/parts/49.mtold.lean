/-! the reference: what is told of THE BEST -/
theorem mknown {al : Al8} {M : ra_M} (hL : AlM al M) : (M 32 27 = 0 ∧ al = none) ∨ (M 32 27 = 1 ∧ ∃ q, al = some q ∧ SM M q.2) := by
  cases al with
  | none => exact Or.inl ⟨hL, rfl⟩
  | some q => exact Or.inr ⟨hL.1, q, rfl, hL.2⟩
theorem AlS_mem {S : Sc} (hS : okSc S) {hp : Int → Int} {cnt sum : Int} {ls : List St4} (h : AlS S hp cnt sum ls) : ∀ s ∈ ls, (s.1 = 2 ∧ s.2.2.1 = -1) ∨ ((s.1 = 0 ∨ s.1 = 1 ∨ s.1 = 3) ∧ 0 ≤ s.2.2.1 ∧ s.2.2.1 < cnt) := by
  obtain ⟨R, h1, h2, -⟩ := h
  rw [h2]
  exact wk_mem hS h1 _ _ _ (by omega) (Or.inl rfl)
theorem SM_up {M : ra_M} {ls : List St4} (h : SM M ls) (v : Int) : SM (up M 32 34 v) ls := SM_f h (by simp [up]) (up_k _ _ _ (by decide)) (up_k _ _ _ (by decide)) (up_k _ _ _ (by decide)) (up_k _ _ _ (by decide))
def cw (S : Sc) (hp : Int → Int) (n w : Int) (ls : List St4) : Int := if w = 2 then cPs n ls else if w = 0 then cPl n ls else cRt S hp n ls
theorem cw_app (S : Sc) (hp : Int → Int) (n w : Int) (ls : List St4) (s : St4) : cw S hp n w (ls ++ [s]) = cw S hp n w ls + (if (w = 2 ∧ s.1 = 2 ∧ s.2.1 = n) ∨ (w ≠ 2 ∧ (s.1 = 0 ∨ s.1 = 3) ∧ (w = 0 ∨ S 1 n = hp s.2.2.1) ∧ s.2.1 = n) then 1 else 0) := by
  unfold cw
  by_cases h2 : w = 2
  · rw [if_pos h2, if_pos h2, cPs_app]
    congr 1
    by_cases hc : s.1 = 2 ∧ s.2.1 = n
    · rw [if_pos hc, if_pos (Or.inl ⟨h2, hc⟩)]
    · rw [if_neg hc, if_neg (by intro q; rcases q with q | q; exact hc q.2; exact q.1 h2)]
  · rw [if_neg h2, if_neg h2]
    by_cases h0 : w = 0
    · rw [if_pos h0, if_pos h0, cPl_app]
      congr 1
      by_cases hc : (s.1 = 0 ∨ s.1 = 3) ∧ s.2.1 = n
      · rw [if_pos hc, if_pos (Or.inr ⟨h2, hc.1, Or.inl h0, hc.2⟩)]
      · rw [if_neg hc, if_neg (by intro q; rcases q with q | q; exact h2 q.1; exact hc ⟨q.2.1, q.2.2.2⟩)]
    · rw [if_neg h0, if_neg h0, cRt_app]
      congr 1
      by_cases hc : ((s.1 = 0 ∨ s.1 = 3) ∧ S 1 n = hp s.2.2.1) ∧ s.2.1 = n
      · rw [if_pos hc, if_pos (Or.inr ⟨h2, hc.1.1, Or.inr hc.1.2, hc.2⟩)]
      · rw [if_neg hc, if_neg (by intro q; rcases q with q | q; exact h2 q.1; exact hc ⟨⟨q.2.1, q.2.2.1.resolve_left h0⟩, q.2.2.2⟩)]
theorem cw_in (S : Sc) (hp : Int → Int) (n w : Int) (ls : List St4) (h : ls.length ≤ 7320) : 0 ≤ cw S hp n w ls ∧ cw S hp n w ls ≤ 7320 := by
  unfold cw
  split
  · exact cPs_in n ls h
  · split
    · exact cPl_in n ls h
    · exact cRt_in S hp n ls h
theorem take_one {ls : List St4} {i : Nat} {s : St4} (h : ls[i]? = some s) : ls.take (i + 1) = ls.take i ++ [s] := by
  rw [List.take_succ, h]
  rfl

set_option maxRecDepth 20000 in
set_option maxHeartbeats 2000000 in
theorem xm_step (d t : Nat) (M : ra_M) (S : Sc) (cnt : Int) (hp ht : Int → Int) (ses : Int) (bx du : Int → Int) (al : Al8) (hI : IM S cnt hp ht ses bx du al M) (hw : WF t S cnt hp ht ses bx al) (k w : Int) : Ex d m_X8_step [vR 32, vI k, vI w] M (PQ S cnt hp ht ses bx du al (aStp al k w) M) := by
  refine Ex_leaf (Nat.le_of_ble_eq_true rfl) (fun C K hK => ?_)
  show K 0 [some (vR 32), some (vI k), some (vI w)] [] M
  have hK : ra_Clo _ m_X8_step cX8_step _ K := hK
  have hI0 := hI
  obtain ⟨hs, ⟨g14, g40, g41⟩, ⟨g15, g35, g36⟩, hF, hL⟩ := hI
  obtain ⟨hS, hc, hnn, hh, hse, hbx, hal⟩ := hw
  obtain ⟨e5, e6, e7, e8, e9⟩ := scM_e hs
  obtain ⟨a2, a3, a4, a5, a6⟩ := scM_a hs
  have hs0 := hS.1
  have hs1 := hS.2.1
  have hs2 := hS.2.2.1
  have hk9 := mknown hL
  refine k_aln hK (q := 1)  dX8_step_0 rfl (z := 32) rfl (k_ic hK (q := 2)  dX8_step_1 rfl (by decide) (k_pI hK (q := 5) (M2 := up M 32 34 0) dX8_step_2 rfl rp_X8_83 rfl rfl rfl (k_iln hK (q := 6)  dX8_step_5 rfl (z := k) rfl ?_)))
  refine k_iflt hK (q := 9) (t := 33) dX8_step_6 rfl rfl (fun h6 => ?_) (fun h6 => ?_)
  · refine k_bp hK (q := 35)  dX8_step_33 rfl (by decide) ?_
    refine k_ir hK dX8_step_35 rfl ?_
    refine PQ_same ?_ hI0
    unfold aStp
    first | rw [if_pos (by omega)] | (rw [if_neg (by omega)]; simp only; rw [hnn2])
  · refine k_iln hK (q := 10)  dX8_step_9 rfl (z := w) rfl ?_
    refine k_iflt hK (q := 13) (t := 33) dX8_step_10 rfl rfl (fun h10 => ?_) (fun h10 => ?_)
    · refine k_bp hK (q := 35)  dX8_step_33 rfl (by decide) ?_
      refine k_ir hK dX8_step_35 rfl ?_
      refine PQ_same ?_ hI0
      unfold aStp
      first | rw [if_pos (by omega)] | (rw [if_neg (by omega)]; simp only; rw [hnn2])
    · refine k_iln hK (q := 14)  dX8_step_13 rfl (z := w) rfl (k_ic hK (q := 15)  dX8_step_14 rfl (by decide) ?_)
      refine k_cgt hK (q := 18) (t := 33) dX8_step_15 rfl rfl (fun h15 => ?_) (fun h15 => ?_)
      · refine k_bp hK (q := 35)  dX8_step_33 rfl (by decide) ?_
        refine k_ir hK dX8_step_35 rfl ?_
        refine PQ_same ?_ hI0
        unfold aStp
        first | rw [if_pos (by omega)] | (rw [if_neg (by omega)]; simp only; rw [hnn2])
      · refine k_aln hK (q := 19)  dX8_step_18 rfl (z := 32) rfl (k_gI hK (q := 22) (z := M 32 27) 1 dX8_step_19 rfl rf_X8_104 rfl rfl rfl rfl ?_)
        refine k_ifeq hK (q := 25) (t := 36) dX8_step_22 rfl rfl (fun h22 => ?_) (fun h22 => ?_)
        · have hal0 : al = none := by
            rcases hk9 with h | h
            · exact h.2
            · exact absurd h.1 (by omega)
          subst hal0
          refine k_aln hK (q := 37)  dX8_step_36 rfl (z := 32) rfl (k_gI hK (q := 40) (z := M 32 27) 1 dX8_step_37 rfl rf_X8_104 rfl rfl rfl rfl ?_)
          refine k_ifne hK (q := 43) (t := 46) dX8_step_40 rfl rfl (fun h40 => ?_) (fun h40 => ?_)
          · exact absurd h40 (by omega)
          · refine k_bp hK (q := 45)  dX8_step_43 rfl (by decide) ?_
            refine k_ir hK dX8_step_45 rfl ?_
            refine PQ_same ?_ hI0
            unfold aStp
            rw [if_neg (by omega)]
        · obtain ⟨q, rfl, hSM⟩ : ∃ q, al = some q ∧ SM M q.2 := by
            rcases hk9 with h | h
            · exact absurd h.1 (by omega)
            · exact h.2
          have hA9 := hal q rfl
          have hl9 := AlS_len hA9
          have hm9 := AlS_mem hS hA9
          have y33 := hSM.1
          refine k_iln hK (q := 26)  dX8_step_25 rfl (z := k) rfl (k_aln hK (q := 27)  dX8_step_26 rfl (z := 32) rfl (k_gI hK (q := 30) (z := M 32 33) 0 dX8_step_27 rfl rf_X8_168 rfl rfl rfl rfl ?_))
          refine k_clt hK (q := 33) (t := 36) dX8_step_30 rfl rfl (fun h30 => ?_) (fun h30 => ?_)
          · obtain ⟨s, hgs⟩ : ∃ s, q.2[k.toNat]? = some s := ⟨_, List.getElem?_eq_getElem (by omega)⟩
            have hss := hSM.2 _ s hgs
            rw [show ((k.toNat : Nat) : Int) = k by omega] at hss
            refine k_aln hK (q := 37)  dX8_step_36 rfl (z := 32) rfl (k_gI hK (q := 40) (z := M 32 27) 1 dX8_step_37 rfl rf_X8_104 rfl rfl rfl rfl ?_)
            refine k_ifne hK (q := 43) (t := 46) dX8_step_40 rfl rfl (fun h40 => ?_) (fun h40 => ?_)
            · refine k_iln hK (q := 47)  dX8_step_46 rfl (z := w) rfl ?_
              refine k_ifne hK (q := 50) (t := 59) dX8_step_47 rfl rfl (fun h47 => ?_) (fun h47 => ?_)
              · refine k_iln hK (q := 60)  dX8_step_59 rfl (z := w) rfl (k_ic hK (q := 61)  dX8_step_60 rfl (by decide) ?_)
                refine k_cne hK (q := 64) (t := 73) dX8_step_61 rfl rfl (fun h61 => ?_) (fun h61 => ?_)
                · refine k_iln hK (q := 74)  dX8_step_73 rfl (z := w) rfl (k_ic hK (q := 75)  dX8_step_74 rfl (by decide) ?_)
                  refine k_cne hK (q := 78) (t := 87) dX8_step_75 rfl rfl (fun h75 => ?_) (fun h75 => ?_)
                  · refine k_aln hK (q := 88)  dX8_step_87 rfl (z := 32) rfl (k_gR hK (q := 91) (r := 53) dX8_step_88 rfl rf_X8_77 rfl rfl (k_iln hK (q := 92)  dX8_step_91 rfl (z := k) rfl (k_ald hK (q := 93)  dX8_step_92 rfl (y := M 53 k) rfl (by omega) rfl ?_)))
                    refine k_ir hK dX8_step_93 rfl ?_
                    refine PQ_same ?_ hI0
                    unfold aStp
                    rw [if_neg (by omega)]
                    simp only
                    rw [hgs]
                    simp only
                    unfold stS
                    rw [if_neg (by omega), if_neg (by omega), if_neg (by omega), hss.2.2.2]
                  · refine k_aln hK (q := 79)  dX8_step_78 rfl (z := 32) rfl (k_gR hK (q := 82) (r := 52) dX8_step_79 rfl rf_X8_74 rfl rfl (k_iln hK (q := 83)  dX8_step_82 rfl (z := k) rfl (k_ald hK (q := 84)  dX8_step_83 rfl (y := M 52 k) rfl (by omega) rfl (k_goto hK (t := 93) dX8_step_84 rfl ?_))))
                    refine k_ir hK dX8_step_93 rfl ?_
                    refine PQ_same ?_ hI0
                    unfold aStp
                    rw [if_neg (by omega)]
                    simp only
                    rw [hgs]
                    simp only
                    unfold stS
                    rw [if_neg (by omega), if_neg (by omega), if_pos (by omega), hss.2.2.1]
                · refine k_aln hK (q := 65)  dX8_step_64 rfl (z := 32) rfl (k_gR hK (q := 68) (r := 51) dX8_step_65 rfl rf_X8_71 rfl rfl (k_iln hK (q := 69)  dX8_step_68 rfl (z := k) rfl (k_ald hK (q := 70)  dX8_step_69 rfl (y := M 51 k) rfl (by omega) rfl (k_goto hK (t := 93) dX8_step_70 rfl ?_))))
                  refine k_ir hK dX8_step_93 rfl ?_
                  refine PQ_same ?_ hI0
                  unfold aStp
                  rw [if_neg (by omega)]
                  simp only
                  rw [hgs]
                  simp only
                  unfold stS
                  rw [if_neg (by omega), if_pos (by omega), hss.2.1]
              · refine k_aln hK (q := 51)  dX8_step_50 rfl (z := 32) rfl (k_gR hK (q := 54) (r := 50) dX8_step_51 rfl rf_X8_68 rfl rfl (k_iln hK (q := 55)  dX8_step_54 rfl (z := k) rfl (k_ald hK (q := 56)  dX8_step_55 rfl (y := M 50 k) rfl (by omega) rfl (k_goto hK (t := 93) dX8_step_56 rfl ?_))))
                refine k_ir hK dX8_step_93 rfl ?_
                refine PQ_same ?_ hI0
                unfold aStp
                rw [if_neg (by omega)]
                simp only
                rw [hgs]
                simp only
                unfold stS
                rw [if_pos (by omega), hss.1]
            · exact absurd h40 (by omega)
          · have hnn2 : q.2[k.toNat]? = none := List.getElem?_eq_none (by omega)
            refine k_bp hK (q := 35)  dX8_step_33 rfl (by decide) ?_
            refine k_ir hK dX8_step_35 rfl ?_
            refine PQ_same ?_ hI0
            unfold aStp
            first | rw [if_pos (by omega)] | (rw [if_neg (by omega)]; simp only; rw [hnn2])

set_option maxRecDepth 20000 in
set_option maxHeartbeats 2000000 in
theorem xm_steps (d t : Nat) (M : ra_M) (S : Sc) (cnt : Int) (hp ht : Int → Int) (ses : Int) (bx du : Int → Int) (al : Al8) (hI : IM S cnt hp ht ses bx du al M) (hw : WF t S cnt hp ht ses bx al) : Ex d m_X8_steps [vR 32] M (PQ S cnt hp ht ses bx du al (aSts al) M) := by
  refine Ex_leaf (Nat.le_of_ble_eq_true rfl) (fun C K hK => ?_)
  show K 0 [some (vR 32)] [] M
  have hK : ra_Clo _ m_X8_steps cX8_steps _ K := hK
  have hI0 := hI
  obtain ⟨hs, ⟨g14, g40, g41⟩, ⟨g15, g35, g36⟩, hF, hL⟩ := hI
  obtain ⟨hS, hc, hnn, hh, hse, hbx, hal⟩ := hw
  obtain ⟨e5, e6, e7, e8, e9⟩ := scM_e hs
  obtain ⟨a2, a3, a4, a5, a6⟩ := scM_a hs
  have hs0 := hS.1
  have hs1 := hS.2.1
  have hs2 := hS.2.2.1
  have hk9 := mknown hL
  refine k_aln hK (q := 1)  dX8_steps_0 rfl (z := 32) rfl (k_ic hK (q := 2)  dX8_steps_1 rfl (by decide) (k_pI hK (q := 5) (M2 := up M 32 34 0) dX8_steps_2 rfl rp_X8_83 rfl rfl rfl (k_aln hK (q := 6)  dX8_steps_5 rfl (z := 32) rfl (k_gI hK (q := 9) (z := M 32 27) 1 dX8_steps_6 rfl rf_X8_104 rfl rfl rfl rfl ?_))))
  refine k_ifeq hK (q := 12) (t := 19) dX8_steps_9 rfl rfl (fun h9 => ?_) (fun h9 => ?_)
  · have hal0 : al = none := by
      rcases hk9 with h | h
      · exact h.2
      · exact absurd h.1 (by omega)
    subst hal0
    refine k_bp hK (q := 21)  dX8_steps_19 rfl (by decide) ?_
    refine k_ir hK dX8_steps_21 rfl ?_
    refine PQ_same ?_ hI0
    unfold aSts
    rfl
  · obtain ⟨q, rfl, hSM⟩ : ∃ q, al = some q ∧ SM M q.2 := by
      rcases hk9 with h | h
      · exact absurd h.1 (by omega)
      · exact h.2
    have hA9 := hal q rfl
    have hl9 := AlS_len hA9
    have hm9 := AlS_mem hS hA9
    have y33 := hSM.1
    refine k_aln hK (q := 13)  dX8_steps_12 rfl (z := 32) rfl (k_gI hK (q := 16) (z := M 32 33) 0 dX8_steps_13 rfl rf_X8_168 rfl rfl rfl rfl (k_goto hK (t := 21) dX8_steps_16 rfl ?_))
    refine k_ir hK dX8_steps_21 rfl ?_
    refine PQ_same ?_ hI0
    unfold aSts
    exact y33

set_option maxRecDepth 20000 in
set_option maxHeartbeats 2000000 in
theorem matched_loop {C : Nat → List ra_V → ra_M → (Option ra_V → ra_M → Prop) → Prop} {Q : Option ra_V → ra_M → Prop} {K : Nat → ra_L → List ra_V → ra_M → Prop} (hK : ra_Clo C m_X8_matched cX8_matched Q K) {M : ra_M} {e : Int} {ls : List St4} (hSM : SM M ls) (hl : ls.length ≤ 7320) (hQ : Q (some (vI (mtF ls e))) (up M 32 34 0)) :
    ∀ (n i : Nat) (is : Int), i + n = ls.length → is = mtF (ls.take i) e → K 34 [some (vR 32), some (vI e), some (vI is), some (vI (i : Nat))] [] (up M 32 34 0) := by
  have y33 := hSM.1
  intro n
  induction n with
  | zero =>
    intro i is hi hc
    refine k_iln hK (q := 35)  dX8_matched_34 rfl (z := (i : Nat)) rfl (k_aln hK (q := 36)  dX8_matched_35 rfl (z := 32) rfl (k_gI hK (q := 39) (z := M 32 33) 0 dX8_matched_36 rfl rf_X8_168 rfl rfl rfl rfl ?_))
    refine k_cge hK (q := 42) (t := 79) dX8_matched_39 rfl rfl (fun h39 => ?_) (fun h39 => ?_)
    · refine k_iln hK (q := 80)  dX8_matched_79 rfl (z := is) rfl ?_
      refine k_ir hK dX8_matched_80 rfl ?_
      have htk : ls.take i = ls := List.take_of_length_le (by omega)
      rw [htk] at hc
      subst hc
      exact hQ
    · exact absurd h39 (by omega)
  | succ n ih =>
    intro i is hi hc
    obtain ⟨s, hgs⟩ : ∃ s, ls[i]? = some s := ⟨_, List.getElem?_eq_getElem (by omega)⟩
    have hss := hSM.2 _ s hgs
    refine k_iln hK (q := 35)  dX8_matched_34 rfl (z := (i : Nat)) rfl (k_aln hK (q := 36)  dX8_matched_35 rfl (z := 32) rfl (k_gI hK (q := 39) (z := M 32 33) 0 dX8_matched_36 rfl rf_X8_168 rfl rfl rfl rfl ?_))
    refine k_cge hK (q := 42) (t := 79) dX8_matched_39 rfl rfl (fun h39 => ?_) (fun h39 => ?_)
    · exact absurd h39 (by omega)
    · refine k_aln hK (q := 43)  dX8_matched_42 rfl (z := 32) rfl (k_gR hK (q := 46) (r := 52) dX8_matched_43 rfl rf_X8_74 rfl rfl (k_iln hK (q := 47)  dX8_matched_46 rfl (z := (i : Nat)) rfl (k_ald hK (q := 48)  dX8_matched_47 rfl (y := M 52 (i : Nat)) rfl (by omega) rfl (k_iln hK (q := 49)  dX8_matched_48 rfl (z := e) rfl ?_))))
      refine k_cne hK (q := 52) (t := 71) dX8_matched_49 rfl rfl (fun h49 => ?_) (fun h49 => ?_)
      · refine k_iln hK (q := 72)  dX8_matched_71 rfl (z := is) rfl (k_isn hK (q := 73)  dX8_matched_72 rfl (L2 := [some (vR 32), some (vI e), some (vI is), some (vI (i : Nat))]) (Nat.le_of_ble_eq_true rfl) rfl (k_inc hK (q := 76)  dX8_matched_73 rfl (y := (i : Nat) + 1) (L2 := [some (vR 32), some (vI e), some (vI is), some (vI ((i : Nat) + 1))]) rfl rfl (by omega) rfl (k_goto hK (t := 34) dX8_matched_76 rfl ?_)))
        refine ih (i + 1) _ (by omega) ?_
        rw [take_one hgs, mtF_app, ← hss.1, ← hss.2.1, ← hss.2.2.1]
        rw [if_neg (by omega)]
        exact hc
      · refine k_aln hK (q := 53)  dX8_matched_52 rfl (z := 32) rfl (k_gR hK (q := 56) (r := 50) dX8_matched_53 rfl rf_X8_68 rfl rfl (k_iln hK (q := 57)  dX8_matched_56 rfl (z := (i : Nat)) rfl (k_ald hK (q := 58)  dX8_matched_57 rfl (y := M 50 (i : Nat)) rfl (by omega) rfl (k_ic hK (q := 59)  dX8_matched_58 rfl (by decide) ?_))))
        refine k_ceq hK (q := 62) (t := 71) dX8_matched_59 rfl rfl (fun h59 => ?_) (fun h59 => ?_)
        · refine k_iln hK (q := 72)  dX8_matched_71 rfl (z := is) rfl (k_isn hK (q := 73)  dX8_matched_72 rfl (L2 := [some (vR 32), some (vI e), some (vI is), some (vI (i : Nat))]) (Nat.le_of_ble_eq_true rfl) rfl (k_inc hK (q := 76)  dX8_matched_73 rfl (y := (i : Nat) + 1) (L2 := [some (vR 32), some (vI e), some (vI is), some (vI ((i : Nat) + 1))]) rfl rfl (by omega) rfl (k_goto hK (t := 34) dX8_matched_76 rfl ?_)))
          refine ih (i + 1) _ (by omega) ?_
          rw [take_one hgs, mtF_app, ← hss.1, ← hss.2.1, ← hss.2.2.1]
          rw [if_neg (by omega)]
          exact hc
        · refine k_aln hK (q := 63)  dX8_matched_62 rfl (z := 32) rfl (k_gR hK (q := 66) (r := 51) dX8_matched_63 rfl rf_X8_71 rfl rfl (k_iln hK (q := 67)  dX8_matched_66 rfl (z := (i : Nat)) rfl (k_ald hK (q := 68)  dX8_matched_67 rfl (y := M 51 (i : Nat)) rfl (by omega) rfl (k_goto hK (t := 72) dX8_matched_68 rfl (k_isn hK (q := 73)  dX8_matched_72 rfl (L2 := [some (vR 32), some (vI e), some (vI (M 51 (i : Nat))), some (vI (i : Nat))]) (Nat.le_of_ble_eq_true rfl) rfl ?_)))))
          refine k_inc hK (q := 76)  dX8_matched_73 rfl (y := (i : Nat) + 1) (L2 := [some (vR 32), some (vI e), some (vI (M 51 (i : Nat))), some (vI ((i : Nat) + 1))]) rfl rfl (by omega) rfl (k_goto hK (t := 34) dX8_matched_76 rfl ?_)
          refine ih (i + 1) _ (by omega) ?_
          rw [take_one hgs, mtF_app, ← hss.1, ← hss.2.1, ← hss.2.2.1]
          rw [if_pos (by omega)]

set_option maxRecDepth 20000 in
set_option maxHeartbeats 2000000 in
theorem xm_matched (d t : Nat) (M : ra_M) (S : Sc) (cnt : Int) (hp ht : Int → Int) (ses : Int) (bx du : Int → Int) (al : Al8) (hI : IM S cnt hp ht ses bx du al M) (hw : WF t S cnt hp ht ses bx al) (e : Int) : Ex d m_X8_matched [vR 32, vI e] M (PQ S cnt hp ht ses bx du al (aMat cnt al e) M) := by
  refine Ex_leaf (Nat.le_of_ble_eq_true rfl) (fun C K hK => ?_)
  show K 0 [some (vR 32), some (vI e), none, none] [] M
  have hK : ra_Clo _ m_X8_matched cX8_matched _ K := hK
  have hI0 := hI
  obtain ⟨hs, ⟨g14, g40, g41⟩, ⟨g15, g35, g36⟩, hF, hL⟩ := hI
  obtain ⟨hS, hc, hnn, hh, hse, hbx, hal⟩ := hw
  obtain ⟨e5, e6, e7, e8, e9⟩ := scM_e hs
  obtain ⟨a2, a3, a4, a5, a6⟩ := scM_a hs
  have hs0 := hS.1
  have hs1 := hS.2.1
  have hs2 := hS.2.2.1
  have hk9 := mknown hL
  refine k_aln hK (q := 1)  dX8_matched_0 rfl (z := 32) rfl (k_ic hK (q := 2)  dX8_matched_1 rfl (by decide) (k_pI hK (q := 5) (M2 := up M 32 34 0) dX8_matched_2 rfl rp_X8_83 rfl rfl rfl (k_iln hK (q := 6)  dX8_matched_5 rfl (z := e) rfl ?_)))
  refine k_iflt hK (q := 9) (t := 17) dX8_matched_6 rfl rfl (fun h6 => ?_) (fun h6 => ?_)
  · refine k_bp hK (q := 19)  dX8_matched_17 rfl (by decide) ?_
    refine k_ir hK dX8_matched_19 rfl ?_
    refine PQ_same ?_ hI0
    unfold aMat
    rw [if_pos (by omega)]
  · refine k_iln hK (q := 10)  dX8_matched_9 rfl (z := e) rfl (k_aln hK (q := 11)  dX8_matched_10 rfl (z := 32) rfl (k_gI hK (q := 14) (z := M 32 14) 0 dX8_matched_11 rfl rf_X8_101 rfl rfl rfl rfl ?_))
    refine k_clt hK (q := 17) (t := 20) dX8_matched_14 rfl rfl (fun h14 => ?_) (fun h14 => ?_)
    · refine k_aln hK (q := 21)  dX8_matched_20 rfl (z := 32) rfl (k_gI hK (q := 24) (z := M 32 27) 1 dX8_matched_21 rfl rf_X8_104 rfl rfl rfl rfl ?_)
      refine k_ifne hK (q := 27) (t := 30) dX8_matched_24 rfl rfl (fun h24 => ?_) (fun h24 => ?_)
      · obtain ⟨q, rfl, hSM⟩ : ∃ q, al = some q ∧ SM M q.2 := by
          rcases hk9 with h | h
          · exact absurd h.1 (by omega)
          · exact h.2
        have hA9 := hal q rfl
        have hl9 := AlS_len hA9
        have hm9 := AlS_mem hS hA9
        have y33 := hSM.1
        refine k_ic hK (q := 31)  dX8_matched_30 rfl (by decide) (k_isn hK (q := 32)  dX8_matched_31 rfl (L2 := [some (vR 32), some (vI e), some (vI (-1)), none]) (Nat.le_of_ble_eq_true rfl) rfl (k_ic hK (q := 33)  dX8_matched_32 rfl (by decide) (k_isn hK (q := 34)  dX8_matched_33 rfl (L2 := [some (vR 32), some (vI e), some (vI (-1)), some (vI 0)]) (Nat.le_of_ble_eq_true rfl) rfl ?_)))
        refine matched_loop hK hSM hl9 (PQ_same ?_ hI0) q.2.length 0 (-1) (by omega) rfl
        unfold aMat
        rw [if_neg (by omega)]
      · have hal0 : al = none := by
          rcases hk9 with h | h
          · exact h.2
          · exact absurd h.1 (by omega)
        subst hal0
        refine k_bp hK (q := 29)  dX8_matched_27 rfl (by decide) ?_
        refine k_ir hK dX8_matched_29 rfl ?_
        refine PQ_same ?_ hI0
        unfold aMat
        rw [if_neg (by omega)]
    · refine k_bp hK (q := 19)  dX8_matched_17 rfl (by decide) ?_
      refine k_ir hK dX8_matched_19 rfl ?_
      refine PQ_same ?_ hI0
      unfold aMat
      rw [if_pos (by omega)]

set_option maxRecDepth 20000 in
set_option maxHeartbeats 2000000 in
theorem count_loop {C : Nat → List ra_V → ra_M → (Option ra_V → ra_M → Prop) → Prop} {Q : Option ra_V → ra_M → Prop} {K : Nat → ra_L → List ra_V → ra_M → Prop} (hK : ra_Clo C m_X8_count cX8_count Q K) {S : Sc} {M : ra_M} (hs : scM M = S) {hp : Int → Int} (h40 : M 40 = hp) {n w cnt : Int} (hn : 0 ≤ n ∧ n < 60) (hcnt : cnt ≤ 120) {ls : List St4} (hSM : SM M ls) (hl : ls.length ≤ 7320) (hm : ∀ s ∈ ls, (s.1 = 2 ∧ s.2.2.1 = -1) ∨ ((s.1 = 0 ∨ s.1 = 1 ∨ s.1 = 3) ∧ 0 ≤ s.2.2.1 ∧ s.2.2.1 < cnt)) (hQ : Q (some (vI (cw S hp n w ls))) M) :
    ∀ (m i : Nat) (c : Int), i + m = ls.length → c = cw S hp n w (ls.take i) → K 5 [some (vR 32), some (vI n), some (vI w), some (vI c), some (vI (i : Nat)), none, none] [] M := by
  have y33 := hSM.1
  intro m
  induction m with
  | zero =>
    intro i c hi hc
    refine k_il hK (q := 7)  dX8_count_5 rfl (z := (i : Nat)) rfl (k_aln hK (q := 8)  dX8_count_7 rfl (z := 32) rfl (k_gI hK (q := 11) (z := M 32 33) 0 dX8_count_8 rfl rf_X8_168 rfl rfl rfl rfl ?_))
    refine k_cge hK (q := 14) (t := 133) dX8_count_11 rfl rfl (fun h11 => ?_) (fun h11 => ?_)
    · refine k_iln hK (q := 134)  dX8_count_133 rfl (z := c) rfl ?_
      refine k_ir hK dX8_count_134 rfl ?_
      have htk : ls.take i = ls := List.take_of_length_le (by omega)
      rw [htk] at hc
      subst hc
      exact hQ
    · exact absurd h11 (by omega)
  | succ m ih =>
    intro i c hi hc
    obtain ⟨s, hgs⟩ : ∃ s, ls[i]? = some s := ⟨_, List.getElem?_eq_getElem (by omega)⟩
    have hss := hSM.2 _ s hgs
    obtain ⟨y50, y51, y52, y53⟩ := hss
    have hss := hSM.2 _ s hgs
    have hmm := hm s (List.mem_of_getElem? hgs)
    have hcb := cw_in S hp n w (ls.take i) (by have := List.length_take_le i ls; omega)
    rw [← hc] at hcb
    have q1 : S 1 n = M 33 n := by rw [(scM_a hs).1]
    have q2 : hp s.2.2.1 = M 40 s.2.2.1 := by rw [h40]
    refine k_il hK (q := 7)  dX8_count_5 rfl (z := (i : Nat)) rfl (k_aln hK (q := 8)  dX8_count_7 rfl (z := 32) rfl (k_gI hK (q := 11) (z := M 32 33) 0 dX8_count_8 rfl rf_X8_168 rfl rfl rfl rfl ?_))
    refine k_cge hK (q := 14) (t := 133) dX8_count_11 rfl rfl (fun h11 => ?_) (fun h11 => ?_)
    · exact absurd h11 (by omega)
    · refine k_aln hK (q := 15)  dX8_count_14 rfl (z := 32) rfl (k_gR hK (q := 18) (r := 50) dX8_count_15 rfl rf_X8_68 rfl rfl (k_il hK (q := 20)  dX8_count_18 rfl (z := (i : Nat)) rfl (k_ald hK (q := 21)  dX8_count_20 rfl (y := M 50 (i : Nat)) rfl (by omega) rfl ?_)))
      refine k_ifeq hK (q := 24) (t := 35) dX8_count_21 rfl rfl (fun h21 => ?_) (fun h21 => ?_)
      · refine k_ic hK (q := 36)  dX8_count_35 rfl (by decide) (k_goto hK (t := 40) dX8_count_36 rfl (k_is hK (q := 42)  dX8_count_40 rfl (L2 := [some (vR 32), some (vI n), some (vI w), some (vI c), some (vI (i : Nat)), some (vI 1), none]) (Nat.le_of_ble_eq_true rfl) rfl (k_iln hK (q := 43)  dX8_count_42 rfl (z := w) rfl (k_ic hK (q := 44)  dX8_count_43 rfl (by decide) ?_))))
        refine k_cne hK (q := 47) (t := 66) dX8_count_44 rfl rfl (fun h44 => ?_) (fun h44 => ?_)
        · refine k_il hK (q := 68)  dX8_count_66 rfl (z := 1) rfl ?_
          refine k_ifeq hK (q := 71) (t := 100) dX8_count_68 rfl rfl (fun h68 => absurd h68 (by decide)) (fun _ => ?_)
          refine k_iln hK (q := 72)  dX8_count_71 rfl (z := w) rfl ?_
          refine k_ifeq hK (q := 75) (t := 96) dX8_count_72 rfl rfl (fun h72 => ?_) (fun h72 => ?_)
          · refine k_ic hK (q := 97)  dX8_count_96 rfl (by decide) (k_goto hK (t := 101) dX8_count_97 rfl (k_is hK (q := 103)  dX8_count_101 rfl (L2 := [some (vR 32), some (vI n), some (vI w), some (vI c), some (vI (i : Nat)), some (vI 1), some (vI 1)]) (Nat.le_of_ble_eq_true rfl) rfl (k_iln hK (q := 104)  dX8_count_103 rfl (z := c) rfl (k_il hK (q := 106)  dX8_count_104 rfl (z := 1) rfl ?_))))
            refine k_ifeq hK (q := 109) (t := 124) dX8_count_106 rfl rfl (fun h106 => absurd h106 (by decide)) (fun _ => ?_)
            refine k_aln hK (q := 110)  dX8_count_109 rfl (z := 32) rfl (k_gR hK (q := 113) (r := 51) dX8_count_110 rfl rf_X8_71 rfl rfl (k_il hK (q := 115)  dX8_count_113 rfl (z := (i : Nat)) rfl (k_ald hK (q := 116)  dX8_count_115 rfl (y := M 51 (i : Nat)) rfl (by omega) rfl (k_iln hK (q := 117)  dX8_count_116 rfl (z := n) rfl ?_))))
            refine k_cne hK (q := 120) (t := 124) dX8_count_117 rfl rfl (fun h117 => ?_) (fun h117 => ?_)
            · refine k_ic hK (q := 125)  dX8_count_124 rfl (by decide) (k_add hK (q := 126)  dX8_count_125 rfl (z := c + 0) rfl (by omega) (k_isn hK (q := 127)  dX8_count_126 rfl (L2 := [some (vR 32), some (vI n), some (vI w), some (vI (c + 0)), some (vI (i : Nat)), some (vI 1), some (vI 1)]) (Nat.le_of_ble_eq_true rfl) rfl (k_inc hK (q := 130)  dX8_count_127 rfl (y := (i : Nat) + 1) (L2 := [some (vR 32), some (vI n), some (vI w), some (vI (c + 0)), some (vI ((i : Nat) + 1)), some (vI 1), some (vI 1)]) rfl rfl (by omega) rfl (k_goto hK (t := 5) dX8_count_130 rfl ?_))))
              refine k_weak hK (L2 := [some (vR 32), some (vI n), some (vI w), some (vI (c + 0)), some (vI ((i : Nat) + 1)), none, none]) ⟨Or.inl rfl, Or.inl rfl, Or.inl rfl, Or.inl rfl, Or.inl rfl, Or.inr rfl, Or.inr rfl, trivial⟩ ?_
              refine ih (i + 1) _ (by omega) ?_
              rw [take_one hgs, cw_app, ← hc, ← hss.1, ← hss.2.1]
              rw [if_neg (by omega)]
            · refine k_ic hK (q := 121)  dX8_count_120 rfl (by decide) (k_goto hK (t := 125) dX8_count_121 rfl (k_add hK (q := 126)  dX8_count_125 rfl (z := c + 1) rfl (by omega) (k_isn hK (q := 127)  dX8_count_126 rfl (L2 := [some (vR 32), some (vI n), some (vI w), some (vI (c + 1)), some (vI (i : Nat)), some (vI 1), some (vI 1)]) (Nat.le_of_ble_eq_true rfl) rfl (k_inc hK (q := 130)  dX8_count_127 rfl (y := (i : Nat) + 1) (L2 := [some (vR 32), some (vI n), some (vI w), some (vI (c + 1)), some (vI ((i : Nat) + 1)), some (vI 1), some (vI 1)]) rfl rfl (by omega) rfl (k_goto hK (t := 5) dX8_count_130 rfl ?_)))))
              refine k_weak hK (L2 := [some (vR 32), some (vI n), some (vI w), some (vI (c + 1)), some (vI ((i : Nat) + 1)), none, none]) ⟨Or.inl rfl, Or.inl rfl, Or.inl rfl, Or.inl rfl, Or.inl rfl, Or.inr rfl, Or.inr rfl, trivial⟩ ?_
              refine ih (i + 1) _ (by omega) ?_
              rw [take_one hgs, cw_app, ← hc, ← hss.1, ← hss.2.1]
              rw [if_pos (by omega)]
          · refine k_aln hK (q := 76)  dX8_count_75 rfl (z := 32) rfl (k_gR hK (q := 79) (r := 40) dX8_count_76 rfl rf_X8_38 rfl rfl (k_aln hK (q := 80)  dX8_count_79 rfl (z := 32) rfl (k_gR hK (q := 83) (r := 52) dX8_count_80 rfl rf_X8_74 rfl rfl (k_il hK (q := 85)  dX8_count_83 rfl (z := (i : Nat)) rfl (k_ald hK (q := 86)  dX8_count_85 rfl (y := M 52 (i : Nat)) rfl (by omega) rfl ?_)))))
            rw [hss.2.2.1]
            refine k_ald hK (q := 87)  dX8_count_86 rfl (y := M 40 s.2.2.1) rfl (by omega) rfl (k_aln hK (q := 88)  dX8_count_87 rfl (z := 32) rfl (k_gR hK (q := 91) (r := 33) dX8_count_88 rfl rf_X8_7 rfl rfl (k_iln hK (q := 92)  dX8_count_91 rfl (z := n) rfl (k_ald hK (q := 93)  dX8_count_92 rfl (y := M 33 n) rfl (by omega) rfl ?_))))
            refine k_cne hK (q := 96) (t := 100) dX8_count_93 rfl rfl (fun h93 => ?_) (fun h93 => ?_)
            · refine k_ic hK (q := 101)  dX8_count_100 rfl (by decide) (k_is hK (q := 103)  dX8_count_101 rfl (L2 := [some (vR 32), some (vI n), some (vI w), some (vI c), some (vI (i : Nat)), some (vI 1), some (vI 0)]) (Nat.le_of_ble_eq_true rfl) rfl (k_iln hK (q := 104)  dX8_count_103 rfl (z := c) rfl (k_il hK (q := 106)  dX8_count_104 rfl (z := 0) rfl ?_)))
              refine k_ifeq hK (q := 109) (t := 124) dX8_count_106 rfl rfl (fun _ => ?_) (fun h106 => absurd h106 (by decide))
              refine k_ic hK (q := 125)  dX8_count_124 rfl (by decide) (k_add hK (q := 126)  dX8_count_125 rfl (z := c + 0) rfl (by omega) (k_isn hK (q := 127)  dX8_count_126 rfl (L2 := [some (vR 32), some (vI n), some (vI w), some (vI (c + 0)), some (vI (i : Nat)), some (vI 1), some (vI 0)]) (Nat.le_of_ble_eq_true rfl) rfl (k_inc hK (q := 130)  dX8_count_127 rfl (y := (i : Nat) + 1) (L2 := [some (vR 32), some (vI n), some (vI w), some (vI (c + 0)), some (vI ((i : Nat) + 1)), some (vI 1), some (vI 0)]) rfl rfl (by omega) rfl (k_goto hK (t := 5) dX8_count_130 rfl ?_))))
              refine k_weak hK (L2 := [some (vR 32), some (vI n), some (vI w), some (vI (c + 0)), some (vI ((i : Nat) + 1)), none, none]) ⟨Or.inl rfl, Or.inl rfl, Or.inl rfl, Or.inl rfl, Or.inl rfl, Or.inr rfl, Or.inr rfl, trivial⟩ ?_
              refine ih (i + 1) _ (by omega) ?_
              rw [take_one hgs, cw_app, ← hc, ← hss.1, ← hss.2.1]
              rw [if_neg (by omega)]
            · refine k_ic hK (q := 97)  dX8_count_96 rfl (by decide) (k_goto hK (t := 101) dX8_count_97 rfl (k_is hK (q := 103)  dX8_count_101 rfl (L2 := [some (vR 32), some (vI n), some (vI w), some (vI c), some (vI (i : Nat)), some (vI 1), some (vI 1)]) (Nat.le_of_ble_eq_true rfl) rfl (k_iln hK (q := 104)  dX8_count_103 rfl (z := c) rfl (k_il hK (q := 106)  dX8_count_104 rfl (z := 1) rfl ?_))))
              refine k_ifeq hK (q := 109) (t := 124) dX8_count_106 rfl rfl (fun h106 => absurd h106 (by decide)) (fun _ => ?_)
              refine k_aln hK (q := 110)  dX8_count_109 rfl (z := 32) rfl (k_gR hK (q := 113) (r := 51) dX8_count_110 rfl rf_X8_71 rfl rfl (k_il hK (q := 115)  dX8_count_113 rfl (z := (i : Nat)) rfl (k_ald hK (q := 116)  dX8_count_115 rfl (y := M 51 (i : Nat)) rfl (by omega) rfl (k_iln hK (q := 117)  dX8_count_116 rfl (z := n) rfl ?_))))
              refine k_cne hK (q := 120) (t := 124) dX8_count_117 rfl rfl (fun h117 => ?_) (fun h117 => ?_)
              · refine k_ic hK (q := 125)  dX8_count_124 rfl (by decide) (k_add hK (q := 126)  dX8_count_125 rfl (z := c + 0) rfl (by omega) (k_isn hK (q := 127)  dX8_count_126 rfl (L2 := [some (vR 32), some (vI n), some (vI w), some (vI (c + 0)), some (vI (i : Nat)), some (vI 1), some (vI 1)]) (Nat.le_of_ble_eq_true rfl) rfl (k_inc hK (q := 130)  dX8_count_127 rfl (y := (i : Nat) + 1) (L2 := [some (vR 32), some (vI n), some (vI w), some (vI (c + 0)), some (vI ((i : Nat) + 1)), some (vI 1), some (vI 1)]) rfl rfl (by omega) rfl (k_goto hK (t := 5) dX8_count_130 rfl ?_))))
                refine k_weak hK (L2 := [some (vR 32), some (vI n), some (vI w), some (vI (c + 0)), some (vI ((i : Nat) + 1)), none, none]) ⟨Or.inl rfl, Or.inl rfl, Or.inl rfl, Or.inl rfl, Or.inl rfl, Or.inr rfl, Or.inr rfl, trivial⟩ ?_
                refine ih (i + 1) _ (by omega) ?_
                rw [take_one hgs, cw_app, ← hc, ← hss.1, ← hss.2.1]
                rw [if_neg (by omega)]
              · refine k_ic hK (q := 121)  dX8_count_120 rfl (by decide) (k_goto hK (t := 125) dX8_count_121 rfl (k_add hK (q := 126)  dX8_count_125 rfl (z := c + 1) rfl (by omega) (k_isn hK (q := 127)  dX8_count_126 rfl (L2 := [some (vR 32), some (vI n), some (vI w), some (vI (c + 1)), some (vI (i : Nat)), some (vI 1), some (vI 1)]) (Nat.le_of_ble_eq_true rfl) rfl (k_inc hK (q := 130)  dX8_count_127 rfl (y := (i : Nat) + 1) (L2 := [some (vR 32), some (vI n), some (vI w), some (vI (c + 1)), some (vI ((i : Nat) + 1)), some (vI 1), some (vI 1)]) rfl rfl (by omega) rfl (k_goto hK (t := 5) dX8_count_130 rfl ?_)))))
                refine k_weak hK (L2 := [some (vR 32), some (vI n), some (vI w), some (vI (c + 1)), some (vI ((i : Nat) + 1)), none, none]) ⟨Or.inl rfl, Or.inl rfl, Or.inl rfl, Or.inl rfl, Or.inl rfl, Or.inr rfl, Or.inr rfl, trivial⟩ ?_
                refine ih (i + 1) _ (by omega) ?_
                rw [take_one hgs, cw_app, ← hc, ← hss.1, ← hss.2.1]
                rw [if_pos (by omega)]
        · refine k_aln hK (q := 48)  dX8_count_47 rfl (z := 32) rfl (k_gR hK (q := 51) (r := 50) dX8_count_48 rfl rf_X8_68 rfl rfl (k_il hK (q := 53)  dX8_count_51 rfl (z := (i : Nat)) rfl (k_ald hK (q := 54)  dX8_count_53 rfl (y := M 50 (i : Nat)) rfl (by omega) rfl (k_ic hK (q := 55)  dX8_count_54 rfl (by decide) ?_))))
          refine k_cne hK (q := 58) (t := 62) dX8_count_55 rfl rfl (fun h55 => ?_) (fun h55 => ?_)
          · refine k_ic hK (q := 63)  dX8_count_62 rfl (by decide) (k_goto hK (t := 101) dX8_count_63 rfl (k_is hK (q := 103)  dX8_count_101 rfl (L2 := [some (vR 32), some (vI n), some (vI w), some (vI c), some (vI (i : Nat)), some (vI 1), some (vI 0)]) (Nat.le_of_ble_eq_true rfl) rfl (k_iln hK (q := 104)  dX8_count_103 rfl (z := c) rfl (k_il hK (q := 106)  dX8_count_104 rfl (z := 0) rfl ?_))))
            refine k_ifeq hK (q := 109) (t := 124) dX8_count_106 rfl rfl (fun _ => ?_) (fun h106 => absurd h106 (by decide))
            refine k_ic hK (q := 125)  dX8_count_124 rfl (by decide) (k_add hK (q := 126)  dX8_count_125 rfl (z := c + 0) rfl (by omega) (k_isn hK (q := 127)  dX8_count_126 rfl (L2 := [some (vR 32), some (vI n), some (vI w), some (vI (c + 0)), some (vI (i : Nat)), some (vI 1), some (vI 0)]) (Nat.le_of_ble_eq_true rfl) rfl (k_inc hK (q := 130)  dX8_count_127 rfl (y := (i : Nat) + 1) (L2 := [some (vR 32), some (vI n), some (vI w), some (vI (c + 0)), some (vI ((i : Nat) + 1)), some (vI 1), some (vI 0)]) rfl rfl (by omega) rfl (k_goto hK (t := 5) dX8_count_130 rfl ?_))))
            refine k_weak hK (L2 := [some (vR 32), some (vI n), some (vI w), some (vI (c + 0)), some (vI ((i : Nat) + 1)), none, none]) ⟨Or.inl rfl, Or.inl rfl, Or.inl rfl, Or.inl rfl, Or.inl rfl, Or.inr rfl, Or.inr rfl, trivial⟩ ?_
            refine ih (i + 1) _ (by omega) ?_
            rw [take_one hgs, cw_app, ← hc, ← hss.1, ← hss.2.1]
            rw [if_neg (by omega)]
          · refine k_ic hK (q := 59)  dX8_count_58 rfl (by decide) (k_goto hK (t := 101) dX8_count_59 rfl (k_is hK (q := 103)  dX8_count_101 rfl (L2 := [some (vR 32), some (vI n), some (vI w), some (vI c), some (vI (i : Nat)), some (vI 1), some (vI 1)]) (Nat.le_of_ble_eq_true rfl) rfl (k_iln hK (q := 104)  dX8_count_103 rfl (z := c) rfl (k_il hK (q := 106)  dX8_count_104 rfl (z := 1) rfl ?_))))
            refine k_ifeq hK (q := 109) (t := 124) dX8_count_106 rfl rfl (fun h106 => absurd h106 (by decide)) (fun _ => ?_)
            refine k_aln hK (q := 110)  dX8_count_109 rfl (z := 32) rfl (k_gR hK (q := 113) (r := 51) dX8_count_110 rfl rf_X8_71 rfl rfl (k_il hK (q := 115)  dX8_count_113 rfl (z := (i : Nat)) rfl (k_ald hK (q := 116)  dX8_count_115 rfl (y := M 51 (i : Nat)) rfl (by omega) rfl (k_iln hK (q := 117)  dX8_count_116 rfl (z := n) rfl ?_))))
            refine k_cne hK (q := 120) (t := 124) dX8_count_117 rfl rfl (fun h117 => ?_) (fun h117 => ?_)
            · refine k_ic hK (q := 125)  dX8_count_124 rfl (by decide) (k_add hK (q := 126)  dX8_count_125 rfl (z := c + 0) rfl (by omega) (k_isn hK (q := 127)  dX8_count_126 rfl (L2 := [some (vR 32), some (vI n), some (vI w), some (vI (c + 0)), some (vI (i : Nat)), some (vI 1), some (vI 1)]) (Nat.le_of_ble_eq_true rfl) rfl (k_inc hK (q := 130)  dX8_count_127 rfl (y := (i : Nat) + 1) (L2 := [some (vR 32), some (vI n), some (vI w), some (vI (c + 0)), some (vI ((i : Nat) + 1)), some (vI 1), some (vI 1)]) rfl rfl (by omega) rfl (k_goto hK (t := 5) dX8_count_130 rfl ?_))))
              refine k_weak hK (L2 := [some (vR 32), some (vI n), some (vI w), some (vI (c + 0)), some (vI ((i : Nat) + 1)), none, none]) ⟨Or.inl rfl, Or.inl rfl, Or.inl rfl, Or.inl rfl, Or.inl rfl, Or.inr rfl, Or.inr rfl, trivial⟩ ?_
              refine ih (i + 1) _ (by omega) ?_
              rw [take_one hgs, cw_app, ← hc, ← hss.1, ← hss.2.1]
              rw [if_neg (by omega)]
            · refine k_ic hK (q := 121)  dX8_count_120 rfl (by decide) (k_goto hK (t := 125) dX8_count_121 rfl (k_add hK (q := 126)  dX8_count_125 rfl (z := c + 1) rfl (by omega) (k_isn hK (q := 127)  dX8_count_126 rfl (L2 := [some (vR 32), some (vI n), some (vI w), some (vI (c + 1)), some (vI (i : Nat)), some (vI 1), some (vI 1)]) (Nat.le_of_ble_eq_true rfl) rfl (k_inc hK (q := 130)  dX8_count_127 rfl (y := (i : Nat) + 1) (L2 := [some (vR 32), some (vI n), some (vI w), some (vI (c + 1)), some (vI ((i : Nat) + 1)), some (vI 1), some (vI 1)]) rfl rfl (by omega) rfl (k_goto hK (t := 5) dX8_count_130 rfl ?_)))))
              refine k_weak hK (L2 := [some (vR 32), some (vI n), some (vI w), some (vI (c + 1)), some (vI ((i : Nat) + 1)), none, none]) ⟨Or.inl rfl, Or.inl rfl, Or.inl rfl, Or.inl rfl, Or.inl rfl, Or.inr rfl, Or.inr rfl, trivial⟩ ?_
              refine ih (i + 1) _ (by omega) ?_
              rw [take_one hgs, cw_app, ← hc, ← hss.1, ← hss.2.1]
              rw [if_pos (by omega)]
      · refine k_aln hK (q := 25)  dX8_count_24 rfl (z := 32) rfl (k_gR hK (q := 28) (r := 50) dX8_count_25 rfl rf_X8_68 rfl rfl (k_il hK (q := 30)  dX8_count_28 rfl (z := (i : Nat)) rfl (k_ald hK (q := 31)  dX8_count_30 rfl (y := M 50 (i : Nat)) rfl (by omega) rfl (k_ic hK (q := 32)  dX8_count_31 rfl (by decide) ?_))))
        refine k_cne hK (q := 35) (t := 39) dX8_count_32 rfl rfl (fun h32 => ?_) (fun h32 => ?_)
        · refine k_ic hK (q := 40)  dX8_count_39 rfl (by decide) (k_is hK (q := 42)  dX8_count_40 rfl (L2 := [some (vR 32), some (vI n), some (vI w), some (vI c), some (vI (i : Nat)), some (vI 0), none]) (Nat.le_of_ble_eq_true rfl) rfl (k_iln hK (q := 43)  dX8_count_42 rfl (z := w) rfl (k_ic hK (q := 44)  dX8_count_43 rfl (by decide) ?_)))
          refine k_cne hK (q := 47) (t := 66) dX8_count_44 rfl rfl (fun h44 => ?_) (fun h44 => ?_)
          · refine k_il hK (q := 68)  dX8_count_66 rfl (z := 0) rfl ?_
            refine k_ifeq hK (q := 71) (t := 100) dX8_count_68 rfl rfl (fun _ => ?_) (fun h68 => absurd h68 (by decide))
            refine k_ic hK (q := 101)  dX8_count_100 rfl (by decide) (k_is hK (q := 103)  dX8_count_101 rfl (L2 := [some (vR 32), some (vI n), some (vI w), some (vI c), some (vI (i : Nat)), some (vI 0), some (vI 0)]) (Nat.le_of_ble_eq_true rfl) rfl (k_iln hK (q := 104)  dX8_count_103 rfl (z := c) rfl (k_il hK (q := 106)  dX8_count_104 rfl (z := 0) rfl ?_)))
            refine k_ifeq hK (q := 109) (t := 124) dX8_count_106 rfl rfl (fun _ => ?_) (fun h106 => absurd h106 (by decide))
            refine k_ic hK (q := 125)  dX8_count_124 rfl (by decide) (k_add hK (q := 126)  dX8_count_125 rfl (z := c + 0) rfl (by omega) (k_isn hK (q := 127)  dX8_count_126 rfl (L2 := [some (vR 32), some (vI n), some (vI w), some (vI (c + 0)), some (vI (i : Nat)), some (vI 0), some (vI 0)]) (Nat.le_of_ble_eq_true rfl) rfl (k_inc hK (q := 130)  dX8_count_127 rfl (y := (i : Nat) + 1) (L2 := [some (vR 32), some (vI n), some (vI w), some (vI (c + 0)), some (vI ((i : Nat) + 1)), some (vI 0), some (vI 0)]) rfl rfl (by omega) rfl (k_goto hK (t := 5) dX8_count_130 rfl ?_))))
            refine k_weak hK (L2 := [some (vR 32), some (vI n), some (vI w), some (vI (c + 0)), some (vI ((i : Nat) + 1)), none, none]) ⟨Or.inl rfl, Or.inl rfl, Or.inl rfl, Or.inl rfl, Or.inl rfl, Or.inr rfl, Or.inr rfl, trivial⟩ ?_
            refine ih (i + 1) _ (by omega) ?_
            rw [take_one hgs, cw_app, ← hc, ← hss.1, ← hss.2.1]
            rw [if_neg (by omega)]
          · refine k_aln hK (q := 48)  dX8_count_47 rfl (z := 32) rfl (k_gR hK (q := 51) (r := 50) dX8_count_48 rfl rf_X8_68 rfl rfl (k_il hK (q := 53)  dX8_count_51 rfl (z := (i : Nat)) rfl (k_ald hK (q := 54)  dX8_count_53 rfl (y := M 50 (i : Nat)) rfl (by omega) rfl (k_ic hK (q := 55)  dX8_count_54 rfl (by decide) ?_))))
            refine k_cne hK (q := 58) (t := 62) dX8_count_55 rfl rfl (fun h55 => ?_) (fun h55 => ?_)
            · refine k_ic hK (q := 63)  dX8_count_62 rfl (by decide) (k_goto hK (t := 101) dX8_count_63 rfl (k_is hK (q := 103)  dX8_count_101 rfl (L2 := [some (vR 32), some (vI n), some (vI w), some (vI c), some (vI (i : Nat)), some (vI 0), some (vI 0)]) (Nat.le_of_ble_eq_true rfl) rfl (k_iln hK (q := 104)  dX8_count_103 rfl (z := c) rfl (k_il hK (q := 106)  dX8_count_104 rfl (z := 0) rfl ?_))))
              refine k_ifeq hK (q := 109) (t := 124) dX8_count_106 rfl rfl (fun _ => ?_) (fun h106 => absurd h106 (by decide))
              refine k_ic hK (q := 125)  dX8_count_124 rfl (by decide) (k_add hK (q := 126)  dX8_count_125 rfl (z := c + 0) rfl (by omega) (k_isn hK (q := 127)  dX8_count_126 rfl (L2 := [some (vR 32), some (vI n), some (vI w), some (vI (c + 0)), some (vI (i : Nat)), some (vI 0), some (vI 0)]) (Nat.le_of_ble_eq_true rfl) rfl (k_inc hK (q := 130)  dX8_count_127 rfl (y := (i : Nat) + 1) (L2 := [some (vR 32), some (vI n), some (vI w), some (vI (c + 0)), some (vI ((i : Nat) + 1)), some (vI 0), some (vI 0)]) rfl rfl (by omega) rfl (k_goto hK (t := 5) dX8_count_130 rfl ?_))))
              refine k_weak hK (L2 := [some (vR 32), some (vI n), some (vI w), some (vI (c + 0)), some (vI ((i : Nat) + 1)), none, none]) ⟨Or.inl rfl, Or.inl rfl, Or.inl rfl, Or.inl rfl, Or.inl rfl, Or.inr rfl, Or.inr rfl, trivial⟩ ?_
              refine ih (i + 1) _ (by omega) ?_
              rw [take_one hgs, cw_app, ← hc, ← hss.1, ← hss.2.1]
              rw [if_neg (by omega)]
            · refine k_ic hK (q := 59)  dX8_count_58 rfl (by decide) (k_goto hK (t := 101) dX8_count_59 rfl (k_is hK (q := 103)  dX8_count_101 rfl (L2 := [some (vR 32), some (vI n), some (vI w), some (vI c), some (vI (i : Nat)), some (vI 0), some (vI 1)]) (Nat.le_of_ble_eq_true rfl) rfl (k_iln hK (q := 104)  dX8_count_103 rfl (z := c) rfl (k_il hK (q := 106)  dX8_count_104 rfl (z := 1) rfl ?_))))
              refine k_ifeq hK (q := 109) (t := 124) dX8_count_106 rfl rfl (fun h106 => absurd h106 (by decide)) (fun _ => ?_)
              refine k_aln hK (q := 110)  dX8_count_109 rfl (z := 32) rfl (k_gR hK (q := 113) (r := 51) dX8_count_110 rfl rf_X8_71 rfl rfl (k_il hK (q := 115)  dX8_count_113 rfl (z := (i : Nat)) rfl (k_ald hK (q := 116)  dX8_count_115 rfl (y := M 51 (i : Nat)) rfl (by omega) rfl (k_iln hK (q := 117)  dX8_count_116 rfl (z := n) rfl ?_))))
              refine k_cne hK (q := 120) (t := 124) dX8_count_117 rfl rfl (fun h117 => ?_) (fun h117 => ?_)
              · refine k_ic hK (q := 125)  dX8_count_124 rfl (by decide) (k_add hK (q := 126)  dX8_count_125 rfl (z := c + 0) rfl (by omega) (k_isn hK (q := 127)  dX8_count_126 rfl (L2 := [some (vR 32), some (vI n), some (vI w), some (vI (c + 0)), some (vI (i : Nat)), some (vI 0), some (vI 1)]) (Nat.le_of_ble_eq_true rfl) rfl (k_inc hK (q := 130)  dX8_count_127 rfl (y := (i : Nat) + 1) (L2 := [some (vR 32), some (vI n), some (vI w), some (vI (c + 0)), some (vI ((i : Nat) + 1)), some (vI 0), some (vI 1)]) rfl rfl (by omega) rfl (k_goto hK (t := 5) dX8_count_130 rfl ?_))))
                refine k_weak hK (L2 := [some (vR 32), some (vI n), some (vI w), some (vI (c + 0)), some (vI ((i : Nat) + 1)), none, none]) ⟨Or.inl rfl, Or.inl rfl, Or.inl rfl, Or.inl rfl, Or.inl rfl, Or.inr rfl, Or.inr rfl, trivial⟩ ?_
                refine ih (i + 1) _ (by omega) ?_
                rw [take_one hgs, cw_app, ← hc, ← hss.1, ← hss.2.1]
                rw [if_neg (by omega)]
              · refine k_ic hK (q := 121)  dX8_count_120 rfl (by decide) (k_goto hK (t := 125) dX8_count_121 rfl (k_add hK (q := 126)  dX8_count_125 rfl (z := c + 1) rfl (by omega) (k_isn hK (q := 127)  dX8_count_126 rfl (L2 := [some (vR 32), some (vI n), some (vI w), some (vI (c + 1)), some (vI (i : Nat)), some (vI 0), some (vI 1)]) (Nat.le_of_ble_eq_true rfl) rfl (k_inc hK (q := 130)  dX8_count_127 rfl (y := (i : Nat) + 1) (L2 := [some (vR 32), some (vI n), some (vI w), some (vI (c + 1)), some (vI ((i : Nat) + 1)), some (vI 0), some (vI 1)]) rfl rfl (by omega) rfl (k_goto hK (t := 5) dX8_count_130 rfl ?_)))))
                refine k_weak hK (L2 := [some (vR 32), some (vI n), some (vI w), some (vI (c + 1)), some (vI ((i : Nat) + 1)), none, none]) ⟨Or.inl rfl, Or.inl rfl, Or.inl rfl, Or.inl rfl, Or.inl rfl, Or.inr rfl, Or.inr rfl, trivial⟩ ?_
                refine ih (i + 1) _ (by omega) ?_
                rw [take_one hgs, cw_app, ← hc, ← hss.1, ← hss.2.1]
                rw [if_pos (by omega)]
        · refine k_ic hK (q := 36)  dX8_count_35 rfl (by decide) (k_goto hK (t := 40) dX8_count_36 rfl (k_is hK (q := 42)  dX8_count_40 rfl (L2 := [some (vR 32), some (vI n), some (vI w), some (vI c), some (vI (i : Nat)), some (vI 1), none]) (Nat.le_of_ble_eq_true rfl) rfl (k_iln hK (q := 43)  dX8_count_42 rfl (z := w) rfl (k_ic hK (q := 44)  dX8_count_43 rfl (by decide) ?_))))
          refine k_cne hK (q := 47) (t := 66) dX8_count_44 rfl rfl (fun h44 => ?_) (fun h44 => ?_)
          · refine k_il hK (q := 68)  dX8_count_66 rfl (z := 1) rfl ?_
            refine k_ifeq hK (q := 71) (t := 100) dX8_count_68 rfl rfl (fun h68 => absurd h68 (by decide)) (fun _ => ?_)
            refine k_iln hK (q := 72)  dX8_count_71 rfl (z := w) rfl ?_
            refine k_ifeq hK (q := 75) (t := 96) dX8_count_72 rfl rfl (fun h72 => ?_) (fun h72 => ?_)
            · refine k_ic hK (q := 97)  dX8_count_96 rfl (by decide) (k_goto hK (t := 101) dX8_count_97 rfl (k_is hK (q := 103)  dX8_count_101 rfl (L2 := [some (vR 32), some (vI n), some (vI w), some (vI c), some (vI (i : Nat)), some (vI 1), some (vI 1)]) (Nat.le_of_ble_eq_true rfl) rfl (k_iln hK (q := 104)  dX8_count_103 rfl (z := c) rfl (k_il hK (q := 106)  dX8_count_104 rfl (z := 1) rfl ?_))))
              refine k_ifeq hK (q := 109) (t := 124) dX8_count_106 rfl rfl (fun h106 => absurd h106 (by decide)) (fun _ => ?_)
              refine k_aln hK (q := 110)  dX8_count_109 rfl (z := 32) rfl (k_gR hK (q := 113) (r := 51) dX8_count_110 rfl rf_X8_71 rfl rfl (k_il hK (q := 115)  dX8_count_113 rfl (z := (i : Nat)) rfl (k_ald hK (q := 116)  dX8_count_115 rfl (y := M 51 (i : Nat)) rfl (by omega) rfl (k_iln hK (q := 117)  dX8_count_116 rfl (z := n) rfl ?_))))
              refine k_cne hK (q := 120) (t := 124) dX8_count_117 rfl rfl (fun h117 => ?_) (fun h117 => ?_)
              · refine k_ic hK (q := 125)  dX8_count_124 rfl (by decide) (k_add hK (q := 126)  dX8_count_125 rfl (z := c + 0) rfl (by omega) (k_isn hK (q := 127)  dX8_count_126 rfl (L2 := [some (vR 32), some (vI n), some (vI w), some (vI (c + 0)), some (vI (i : Nat)), some (vI 1), some (vI 1)]) (Nat.le_of_ble_eq_true rfl) rfl (k_inc hK (q := 130)  dX8_count_127 rfl (y := (i : Nat) + 1) (L2 := [some (vR 32), some (vI n), some (vI w), some (vI (c + 0)), some (vI ((i : Nat) + 1)), some (vI 1), some (vI 1)]) rfl rfl (by omega) rfl (k_goto hK (t := 5) dX8_count_130 rfl ?_))))
                refine k_weak hK (L2 := [some (vR 32), some (vI n), some (vI w), some (vI (c + 0)), some (vI ((i : Nat) + 1)), none, none]) ⟨Or.inl rfl, Or.inl rfl, Or.inl rfl, Or.inl rfl, Or.inl rfl, Or.inr rfl, Or.inr rfl, trivial⟩ ?_
                refine ih (i + 1) _ (by omega) ?_
                rw [take_one hgs, cw_app, ← hc, ← hss.1, ← hss.2.1]
                rw [if_neg (by omega)]
              · refine k_ic hK (q := 121)  dX8_count_120 rfl (by decide) (k_goto hK (t := 125) dX8_count_121 rfl (k_add hK (q := 126)  dX8_count_125 rfl (z := c + 1) rfl (by omega) (k_isn hK (q := 127)  dX8_count_126 rfl (L2 := [some (vR 32), some (vI n), some (vI w), some (vI (c + 1)), some (vI (i : Nat)), some (vI 1), some (vI 1)]) (Nat.le_of_ble_eq_true rfl) rfl (k_inc hK (q := 130)  dX8_count_127 rfl (y := (i : Nat) + 1) (L2 := [some (vR 32), some (vI n), some (vI w), some (vI (c + 1)), some (vI ((i : Nat) + 1)), some (vI 1), some (vI 1)]) rfl rfl (by omega) rfl (k_goto hK (t := 5) dX8_count_130 rfl ?_)))))
                refine k_weak hK (L2 := [some (vR 32), some (vI n), some (vI w), some (vI (c + 1)), some (vI ((i : Nat) + 1)), none, none]) ⟨Or.inl rfl, Or.inl rfl, Or.inl rfl, Or.inl rfl, Or.inl rfl, Or.inr rfl, Or.inr rfl, trivial⟩ ?_
                refine ih (i + 1) _ (by omega) ?_
                rw [take_one hgs, cw_app, ← hc, ← hss.1, ← hss.2.1]
                rw [if_pos (by omega)]
            · refine k_aln hK (q := 76)  dX8_count_75 rfl (z := 32) rfl (k_gR hK (q := 79) (r := 40) dX8_count_76 rfl rf_X8_38 rfl rfl (k_aln hK (q := 80)  dX8_count_79 rfl (z := 32) rfl (k_gR hK (q := 83) (r := 52) dX8_count_80 rfl rf_X8_74 rfl rfl (k_il hK (q := 85)  dX8_count_83 rfl (z := (i : Nat)) rfl (k_ald hK (q := 86)  dX8_count_85 rfl (y := M 52 (i : Nat)) rfl (by omega) rfl ?_)))))
              rw [hss.2.2.1]
              refine k_ald hK (q := 87)  dX8_count_86 rfl (y := M 40 s.2.2.1) rfl (by omega) rfl (k_aln hK (q := 88)  dX8_count_87 rfl (z := 32) rfl (k_gR hK (q := 91) (r := 33) dX8_count_88 rfl rf_X8_7 rfl rfl (k_iln hK (q := 92)  dX8_count_91 rfl (z := n) rfl (k_ald hK (q := 93)  dX8_count_92 rfl (y := M 33 n) rfl (by omega) rfl ?_))))
              refine k_cne hK (q := 96) (t := 100) dX8_count_93 rfl rfl (fun h93 => ?_) (fun h93 => ?_)
              · refine k_ic hK (q := 101)  dX8_count_100 rfl (by decide) (k_is hK (q := 103)  dX8_count_101 rfl (L2 := [some (vR 32), some (vI n), some (vI w), some (vI c), some (vI (i : Nat)), some (vI 1), some (vI 0)]) (Nat.le_of_ble_eq_true rfl) rfl (k_iln hK (q := 104)  dX8_count_103 rfl (z := c) rfl (k_il hK (q := 106)  dX8_count_104 rfl (z := 0) rfl ?_)))
                refine k_ifeq hK (q := 109) (t := 124) dX8_count_106 rfl rfl (fun _ => ?_) (fun h106 => absurd h106 (by decide))
                refine k_ic hK (q := 125)  dX8_count_124 rfl (by decide) (k_add hK (q := 126)  dX8_count_125 rfl (z := c + 0) rfl (by omega) (k_isn hK (q := 127)  dX8_count_126 rfl (L2 := [some (vR 32), some (vI n), some (vI w), some (vI (c + 0)), some (vI (i : Nat)), some (vI 1), some (vI 0)]) (Nat.le_of_ble_eq_true rfl) rfl (k_inc hK (q := 130)  dX8_count_127 rfl (y := (i : Nat) + 1) (L2 := [some (vR 32), some (vI n), some (vI w), some (vI (c + 0)), some (vI ((i : Nat) + 1)), some (vI 1), some (vI 0)]) rfl rfl (by omega) rfl (k_goto hK (t := 5) dX8_count_130 rfl ?_))))
                refine k_weak hK (L2 := [some (vR 32), some (vI n), some (vI w), some (vI (c + 0)), some (vI ((i : Nat) + 1)), none, none]) ⟨Or.inl rfl, Or.inl rfl, Or.inl rfl, Or.inl rfl, Or.inl rfl, Or.inr rfl, Or.inr rfl, trivial⟩ ?_
                refine ih (i + 1) _ (by omega) ?_
                rw [take_one hgs, cw_app, ← hc, ← hss.1, ← hss.2.1]
                rw [if_neg (by omega)]
              · refine k_ic hK (q := 97)  dX8_count_96 rfl (by decide) (k_goto hK (t := 101) dX8_count_97 rfl (k_is hK (q := 103)  dX8_count_101 rfl (L2 := [some (vR 32), some (vI n), some (vI w), some (vI c), some (vI (i : Nat)), some (vI 1), some (vI 1)]) (Nat.le_of_ble_eq_true rfl) rfl (k_iln hK (q := 104)  dX8_count_103 rfl (z := c) rfl (k_il hK (q := 106)  dX8_count_104 rfl (z := 1) rfl ?_))))
                refine k_ifeq hK (q := 109) (t := 124) dX8_count_106 rfl rfl (fun h106 => absurd h106 (by decide)) (fun _ => ?_)
                refine k_aln hK (q := 110)  dX8_count_109 rfl (z := 32) rfl (k_gR hK (q := 113) (r := 51) dX8_count_110 rfl rf_X8_71 rfl rfl (k_il hK (q := 115)  dX8_count_113 rfl (z := (i : Nat)) rfl (k_ald hK (q := 116)  dX8_count_115 rfl (y := M 51 (i : Nat)) rfl (by omega) rfl (k_iln hK (q := 117)  dX8_count_116 rfl (z := n) rfl ?_))))
                refine k_cne hK (q := 120) (t := 124) dX8_count_117 rfl rfl (fun h117 => ?_) (fun h117 => ?_)
                · refine k_ic hK (q := 125)  dX8_count_124 rfl (by decide) (k_add hK (q := 126)  dX8_count_125 rfl (z := c + 0) rfl (by omega) (k_isn hK (q := 127)  dX8_count_126 rfl (L2 := [some (vR 32), some (vI n), some (vI w), some (vI (c + 0)), some (vI (i : Nat)), some (vI 1), some (vI 1)]) (Nat.le_of_ble_eq_true rfl) rfl (k_inc hK (q := 130)  dX8_count_127 rfl (y := (i : Nat) + 1) (L2 := [some (vR 32), some (vI n), some (vI w), some (vI (c + 0)), some (vI ((i : Nat) + 1)), some (vI 1), some (vI 1)]) rfl rfl (by omega) rfl (k_goto hK (t := 5) dX8_count_130 rfl ?_))))
                  refine k_weak hK (L2 := [some (vR 32), some (vI n), some (vI w), some (vI (c + 0)), some (vI ((i : Nat) + 1)), none, none]) ⟨Or.inl rfl, Or.inl rfl, Or.inl rfl, Or.inl rfl, Or.inl rfl, Or.inr rfl, Or.inr rfl, trivial⟩ ?_
                  refine ih (i + 1) _ (by omega) ?_
                  rw [take_one hgs, cw_app, ← hc, ← hss.1, ← hss.2.1]
                  rw [if_neg (by omega)]
                · refine k_ic hK (q := 121)  dX8_count_120 rfl (by decide) (k_goto hK (t := 125) dX8_count_121 rfl (k_add hK (q := 126)  dX8_count_125 rfl (z := c + 1) rfl (by omega) (k_isn hK (q := 127)  dX8_count_126 rfl (L2 := [some (vR 32), some (vI n), some (vI w), some (vI (c + 1)), some (vI (i : Nat)), some (vI 1), some (vI 1)]) (Nat.le_of_ble_eq_true rfl) rfl (k_inc hK (q := 130)  dX8_count_127 rfl (y := (i : Nat) + 1) (L2 := [some (vR 32), some (vI n), some (vI w), some (vI (c + 1)), some (vI ((i : Nat) + 1)), some (vI 1), some (vI 1)]) rfl rfl (by omega) rfl (k_goto hK (t := 5) dX8_count_130 rfl ?_)))))
                  refine k_weak hK (L2 := [some (vR 32), some (vI n), some (vI w), some (vI (c + 1)), some (vI ((i : Nat) + 1)), none, none]) ⟨Or.inl rfl, Or.inl rfl, Or.inl rfl, Or.inl rfl, Or.inl rfl, Or.inr rfl, Or.inr rfl, trivial⟩ ?_
                  refine ih (i + 1) _ (by omega) ?_
                  rw [take_one hgs, cw_app, ← hc, ← hss.1, ← hss.2.1]
                  rw [if_pos (by omega)]
          · refine k_aln hK (q := 48)  dX8_count_47 rfl (z := 32) rfl (k_gR hK (q := 51) (r := 50) dX8_count_48 rfl rf_X8_68 rfl rfl (k_il hK (q := 53)  dX8_count_51 rfl (z := (i : Nat)) rfl (k_ald hK (q := 54)  dX8_count_53 rfl (y := M 50 (i : Nat)) rfl (by omega) rfl (k_ic hK (q := 55)  dX8_count_54 rfl (by decide) ?_))))
            refine k_cne hK (q := 58) (t := 62) dX8_count_55 rfl rfl (fun h55 => ?_) (fun h55 => ?_)
            · refine k_ic hK (q := 63)  dX8_count_62 rfl (by decide) (k_goto hK (t := 101) dX8_count_63 rfl (k_is hK (q := 103)  dX8_count_101 rfl (L2 := [some (vR 32), some (vI n), some (vI w), some (vI c), some (vI (i : Nat)), some (vI 1), some (vI 0)]) (Nat.le_of_ble_eq_true rfl) rfl (k_iln hK (q := 104)  dX8_count_103 rfl (z := c) rfl (k_il hK (q := 106)  dX8_count_104 rfl (z := 0) rfl ?_))))
              refine k_ifeq hK (q := 109) (t := 124) dX8_count_106 rfl rfl (fun _ => ?_) (fun h106 => absurd h106 (by decide))
              refine k_ic hK (q := 125)  dX8_count_124 rfl (by decide) (k_add hK (q := 126)  dX8_count_125 rfl (z := c + 0) rfl (by omega) (k_isn hK (q := 127)  dX8_count_126 rfl (L2 := [some (vR 32), some (vI n), some (vI w), some (vI (c + 0)), some (vI (i : Nat)), some (vI 1), some (vI 0)]) (Nat.le_of_ble_eq_true rfl) rfl (k_inc hK (q := 130)  dX8_count_127 rfl (y := (i : Nat) + 1) (L2 := [some (vR 32), some (vI n), some (vI w), some (vI (c + 0)), some (vI ((i : Nat) + 1)), some (vI 1), some (vI 0)]) rfl rfl (by omega) rfl (k_goto hK (t := 5) dX8_count_130 rfl ?_))))
              refine k_weak hK (L2 := [some (vR 32), some (vI n), some (vI w), some (vI (c + 0)), some (vI ((i : Nat) + 1)), none, none]) ⟨Or.inl rfl, Or.inl rfl, Or.inl rfl, Or.inl rfl, Or.inl rfl, Or.inr rfl, Or.inr rfl, trivial⟩ ?_
              refine ih (i + 1) _ (by omega) ?_
              rw [take_one hgs, cw_app, ← hc, ← hss.1, ← hss.2.1]
              rw [if_neg (by omega)]
            · refine k_ic hK (q := 59)  dX8_count_58 rfl (by decide) (k_goto hK (t := 101) dX8_count_59 rfl (k_is hK (q := 103)  dX8_count_101 rfl (L2 := [some (vR 32), some (vI n), some (vI w), some (vI c), some (vI (i : Nat)), some (vI 1), some (vI 1)]) (Nat.le_of_ble_eq_true rfl) rfl (k_iln hK (q := 104)  dX8_count_103 rfl (z := c) rfl (k_il hK (q := 106)  dX8_count_104 rfl (z := 1) rfl ?_))))
              refine k_ifeq hK (q := 109) (t := 124) dX8_count_106 rfl rfl (fun h106 => absurd h106 (by decide)) (fun _ => ?_)
              refine k_aln hK (q := 110)  dX8_count_109 rfl (z := 32) rfl (k_gR hK (q := 113) (r := 51) dX8_count_110 rfl rf_X8_71 rfl rfl (k_il hK (q := 115)  dX8_count_113 rfl (z := (i : Nat)) rfl (k_ald hK (q := 116)  dX8_count_115 rfl (y := M 51 (i : Nat)) rfl (by omega) rfl (k_iln hK (q := 117)  dX8_count_116 rfl (z := n) rfl ?_))))
              refine k_cne hK (q := 120) (t := 124) dX8_count_117 rfl rfl (fun h117 => ?_) (fun h117 => ?_)
              · refine k_ic hK (q := 125)  dX8_count_124 rfl (by decide) (k_add hK (q := 126)  dX8_count_125 rfl (z := c + 0) rfl (by omega) (k_isn hK (q := 127)  dX8_count_126 rfl (L2 := [some (vR 32), some (vI n), some (vI w), some (vI (c + 0)), some (vI (i : Nat)), some (vI 1), some (vI 1)]) (Nat.le_of_ble_eq_true rfl) rfl (k_inc hK (q := 130)  dX8_count_127 rfl (y := (i : Nat) + 1) (L2 := [some (vR 32), some (vI n), some (vI w), some (vI (c + 0)), some (vI ((i : Nat) + 1)), some (vI 1), some (vI 1)]) rfl rfl (by omega) rfl (k_goto hK (t := 5) dX8_count_130 rfl ?_))))
                refine k_weak hK (L2 := [some (vR 32), some (vI n), some (vI w), some (vI (c + 0)), some (vI ((i : Nat) + 1)), none, none]) ⟨Or.inl rfl, Or.inl rfl, Or.inl rfl, Or.inl rfl, Or.inl rfl, Or.inr rfl, Or.inr rfl, trivial⟩ ?_
                refine ih (i + 1) _ (by omega) ?_
                rw [take_one hgs, cw_app, ← hc, ← hss.1, ← hss.2.1]
                rw [if_neg (by omega)]
              · refine k_ic hK (q := 121)  dX8_count_120 rfl (by decide) (k_goto hK (t := 125) dX8_count_121 rfl (k_add hK (q := 126)  dX8_count_125 rfl (z := c + 1) rfl (by omega) (k_isn hK (q := 127)  dX8_count_126 rfl (L2 := [some (vR 32), some (vI n), some (vI w), some (vI (c + 1)), some (vI (i : Nat)), some (vI 1), some (vI 1)]) (Nat.le_of_ble_eq_true rfl) rfl (k_inc hK (q := 130)  dX8_count_127 rfl (y := (i : Nat) + 1) (L2 := [some (vR 32), some (vI n), some (vI w), some (vI (c + 1)), some (vI ((i : Nat) + 1)), some (vI 1), some (vI 1)]) rfl rfl (by omega) rfl (k_goto hK (t := 5) dX8_count_130 rfl ?_)))))
                refine k_weak hK (L2 := [some (vR 32), some (vI n), some (vI w), some (vI (c + 1)), some (vI ((i : Nat) + 1)), none, none]) ⟨Or.inl rfl, Or.inl rfl, Or.inl rfl, Or.inl rfl, Or.inl rfl, Or.inr rfl, Or.inr rfl, trivial⟩ ?_
                refine ih (i + 1) _ (by omega) ?_
                rw [take_one hgs, cw_app, ← hc, ← hss.1, ← hss.2.1]
                rw [if_pos (by omega)]

set_option maxRecDepth 20000 in
set_option maxHeartbeats 2000000 in
theorem xm_count (d : Nat) (M : ra_M) (n w : Int) (S : Sc) (hs : scM M = S) (hp : Int → Int) (h40 : M 40 = hp) (hn : 0 ≤ n ∧ n < 60) (cnt : Int) (hcnt : cnt ≤ 120) (ls : List St4) (hSM : SM M ls) (hl : ls.length ≤ 7320) (hm : ∀ s ∈ ls, (s.1 = 2 ∧ s.2.2.1 = -1) ∨ ((s.1 = 0 ∨ s.1 = 1 ∨ s.1 = 3) ∧ 0 ≤ s.2.2.1 ∧ s.2.2.1 < cnt)) : Ex d m_X8_count [vR 32, vI n, vI w] M (fun r M2 => r = some (vI (cw S hp n w ls)) ∧ M2 = M) := by
  refine Ex_leaf (Nat.le_of_ble_eq_true rfl) (fun C K hK => ?_)
  show K 0 [some (vR 32), some (vI n), some (vI w), none, none, none, none] [] M
  have hK : ra_Clo _ m_X8_count cX8_count _ K := hK
  refine k_ic hK (q := 1)  dX8_count_0 rfl (by decide) (k_isn hK (q := 2)  dX8_count_1 rfl (L2 := [some (vR 32), some (vI n), some (vI w), some (vI 0), none, none, none]) (Nat.le_of_ble_eq_true rfl) rfl (k_ic hK (q := 3)  dX8_count_2 rfl (by decide) (k_is hK (q := 5)  dX8_count_3 rfl (L2 := [some (vR 32), some (vI n), some (vI w), some (vI 0), some (vI 0), none, none]) (Nat.le_of_ble_eq_true rfl) rfl ?_)))
  exact count_loop hK hs h40 hn hcnt hSM hl hm ⟨rfl, rfl⟩ ls.length 0 0 (by omega) (by unfold cw cPs cPl cRt; simp)

set_option maxRecDepth 20000 in
set_option maxHeartbeats 2000000 in
theorem xm_grade (d t : Nat) (M : ra_M) (S : Sc) (cnt : Int) (hp ht : Int → Int) (ses : Int) (bx du : Int → Int) (al : Al8) (hI : IM S cnt hp ht ses bx du al M) (hw : WF t S cnt hp ht ses bx al) (n w : Int) : Ex (d + 1) m_X8_grade [vR 32, vI n, vI w] M (PQ S cnt hp ht ses bx du al (aGra S hp al n w) M) := by
  refine Ex_call (Nat.le_of_ble_eq_true rfl) (fun K hK => ?_)
  show K 0 [some (vR 32), some (vI n), some (vI w)] [] M
  have hK : ra_Clo _ m_X8_grade cX8_grade _ K := hK
  have hI0 := hI
  obtain ⟨hs, ⟨g14, g40, g41⟩, ⟨g15, g35, g36⟩, hF, hL⟩ := hI
  obtain ⟨hS, hc, hnn, hh, hse, hbx, hal⟩ := hw
  obtain ⟨e5, e6, e7, e8, e9⟩ := scM_e hs
  obtain ⟨a2, a3, a4, a5, a6⟩ := scM_a hs
  have hs0 := hS.1
  have hs1 := hS.2.1
  have hs2 := hS.2.2.1
  have hk9 := mknown hL
  have hs9 : scM (up M 32 34 0) = S := by rw [scM_o2 _ _ _ (by decide)]; exact hs
  have h409 : (up M 32 34 0) 40 = hp := by rw [up_k _ _ _ (by decide)]; exact g40
  refine k_aln hK (q := 1)  dX8_grade_0 rfl (z := 32) rfl (k_ic hK (q := 2)  dX8_grade_1 rfl (by decide) (k_pI hK (q := 5) (M2 := up M 32 34 0) dX8_grade_2 rfl rp_X8_83 rfl rfl rfl (k_iln hK (q := 6)  dX8_grade_5 rfl (z := n) rfl ?_)))
  refine k_iflt hK (q := 9) (t := 26) dX8_grade_6 rfl rfl (fun h6 => ?_) (fun h6 => ?_)
  · refine k_bp hK (q := 28)  dX8_grade_26 rfl (by decide) ?_
    refine k_ir hK dX8_grade_28 rfl ?_
    refine PQ_same ?_ hI0
    unfold aGra
    rw [if_pos (by omega)]
  · refine k_iln hK (q := 10)  dX8_grade_9 rfl (z := n) rfl (k_aln hK (q := 11)  dX8_grade_10 rfl (z := 32) rfl (k_gI hK (q := 14) (z := M 32 4) 0 dX8_grade_11 rfl rf_X8_86 rfl rfl rfl rfl ?_))
    refine k_cge hK (q := 17) (t := 26) dX8_grade_14 rfl rfl (fun h14 => ?_) (fun h14 => ?_)
    · refine k_bp hK (q := 28)  dX8_grade_26 rfl (by decide) ?_
      refine k_ir hK dX8_grade_28 rfl ?_
      refine PQ_same ?_ hI0
      unfold aGra
      rw [if_pos (by omega)]
    · refine k_iln hK (q := 18)  dX8_grade_17 rfl (z := w) rfl ?_
      refine k_iflt hK (q := 21) (t := 26) dX8_grade_18 rfl rfl (fun h18 => ?_) (fun h18 => ?_)
      · refine k_bp hK (q := 28)  dX8_grade_26 rfl (by decide) ?_
        refine k_ir hK dX8_grade_28 rfl ?_
        refine PQ_same ?_ hI0
        unfold aGra
        rw [if_pos (by omega)]
      · refine k_iln hK (q := 22)  dX8_grade_21 rfl (z := w) rfl (k_ic hK (q := 23)  dX8_grade_22 rfl (by decide) ?_)
        refine k_cle hK (q := 26) (t := 29) dX8_grade_23 rfl rfl (fun h23 => ?_) (fun h23 => ?_)
        · refine k_aln hK (q := 30)  dX8_grade_29 rfl (z := 32) rfl (k_gI hK (q := 33) (z := M 32 27) 1 dX8_grade_30 rfl rf_X8_104 rfl rfl rfl rfl ?_)
          refine k_ifeq hK (q := 36) (t := 45) dX8_grade_33 rfl rfl (fun h33 => ?_) (fun h33 => ?_)
          · have hal0 : al = none := by
              rcases hk9 with h | h
              · exact h.2
              · exact absurd h.1 (by omega)
            subst hal0
            refine k_bp hK (q := 47)  dX8_grade_45 rfl (by decide) ?_
            refine k_ir hK dX8_grade_47 rfl ?_
            refine PQ_same ?_ hI0
            unfold aGra
            rw [if_neg (by omega)]
          · obtain ⟨q, rfl, hSM⟩ : ∃ q, al = some q ∧ SM M q.2 := by
              rcases hk9 with h | h
              · exact absurd h.1 (by omega)
              · exact h.2
            have hA9 := hal q rfl
            have hl9 := AlS_len hA9
            have hm9 := AlS_mem hS hA9
            have y33 := hSM.1
            refine k_aln hK (q := 37)  dX8_grade_36 rfl (z := 32) rfl (k_iln hK (q := 38)  dX8_grade_37 rfl (z := n) rfl (k_iln hK (q := 39)  dX8_grade_38 rfl (z := w) rfl ?_))
            refine k_iv2I hK (q := 42) dX8_grade_39 rfl rm_X8_183 rfl rfl (Nat.le_of_ble_eq_true rfl) (xm_count _ (up M 32 34 0) n w S hs9 hp h409 (by omega) cnt hc.2 q.2 (SM_up hSM 0) hl9 hm9) ?_
            refine k_goto hK (t := 47) dX8_grade_42 rfl ?_
            refine k_ir hK dX8_grade_47 rfl ?_
            refine PQ_same ?_ hI0
            unfold aGra
            rw [if_neg (by omega)]
            simp only
            unfold cw
            by_cases w0 : w = 0
            · rw [if_neg (by omega), if_pos w0, if_pos w0]
            · by_cases w1 : w = 1
              · rw [if_neg (by omega), if_neg w0, if_neg w0, if_pos w1]
              · rw [if_pos (by omega), if_neg w0, if_neg w1]
        · refine k_bp hK (q := 28)  dX8_grade_26 rfl (by decide) ?_
          refine k_ir hK dX8_grade_28 rfl ?_
          refine PQ_same ?_ hI0
          unfold aGra
          rw [if_pos (by omega)]

set_option maxRecDepth 20000 in
set_option maxHeartbeats 2000000 in
theorem xm_thrown (d : Nat) (M : ra_M) : Ex d m_X8_thrown [vR 32] M (fun r M2 => r = some (vI (M 32 34)) ∧ M2 = M) := by
  refine Ex_leaf (Nat.le_of_ble_eq_true rfl) (fun C K hK => ?_)
  show K 0 [some (vR 32)] [] M
  have hK : ra_Clo _ m_X8_thrown cX8_thrown _ K := hK
  refine k_aln hK (q := 1)  dX8_thrown_0 rfl (z := 32) rfl (k_gI hK (q := 4) (z := M 32 34) 0 dX8_thrown_1 rfl rf_X8_83 rfl rfl rfl rfl ?_)
  refine k_ir hK dX8_thrown_4 rfl ?_
  exact ⟨rfl, rfl⟩

set_option maxRecDepth 20000 in
set_option maxHeartbeats 2000000 in
theorem mean_loop {d : Nat} {Q : Option ra_V → ra_M → Prop} {K : Nat → ra_L → List ra_V → ra_M → Prop} (hK : ra_Clo (Ex d) m_X8_mean cX8_mean Q K) {S : Sc} (hS : okSc S) {M : ra_M} (hs : scM M = S) {hp : Int → Int} (h40 : M 40 = hp) {side cnt : Int} (hcnt : cnt ≤ 120) {ls : List St4} (hSM : SM M ls) (hl : ls.length ≤ 7320) (hm : ∀ s ∈ ls, (s.1 = 2 ∧ s.2.2.1 = -1) ∨ ((s.1 = 0 ∨ s.1 = 1 ∨ s.1 = 3) ∧ 0 ≤ s.2.2.1 ∧ s.2.2.1 < cnt))
    (hX : ∀ i, K 69 [some (vR 32), some (vI side), some (vI (sumF (fun n => cPl n ls) (S 0 0).toNat)), some (vI (sumF (fun n => cRt S hp n ls) (S 0 0).toNat)), some (vI i)] [] (up M 32 34 0)) :
    ∀ (n i : Nat) (al9 ri : Int), i + n = (S 0 0).toNat → al9 = sumF (fun n => cPl n ls) i → ri = sumF (fun n => cRt S hp n ls) i → K 34 [some (vR 32), some (vI side), some (vI al9), some (vI ri), some (vI (i : Nat))] [] (up M 32 34 0) := by
  have hs0 := hS.1
  obtain ⟨e5, e6, e7, e8, e9⟩ := scM_e hs
  have hs9 : scM (up M 32 34 0) = S := by rw [scM_o2 _ _ _ (by decide)]; exact hs
  have h409 : (up M 32 34 0) 40 = hp := by rw [up_k _ _ _ (by decide)]; exact h40
  intro n
  induction n with
  | zero =>
    intro i al9 ri hi ha hr
    refine k_il hK (q := 36)  dX8_mean_34 rfl (z := (i : Nat)) rfl (k_aln hK (q := 37)  dX8_mean_36 rfl (z := 32) rfl (k_gI hK (q := 40) (z := M 32 4) 0 dX8_mean_37 rfl rf_X8_86 rfl rfl rfl rfl ?_))
    refine k_cge hK (q := 43) (t := 69) dX8_mean_40 rfl rfl (fun h40 => ?_) (fun h40 => ?_)
    · have hi2 : i = (S 0 0).toNat := by omega
      subst hi2
      subst ha
      subst hr
      exact hX _
    · exact absurd h40 (by omega)
  | succ n ih =>
    intro i al9 ri hi ha hr
    have n1 := sumF_in (f := (fun n => cPl n ls)) i (fun i hi => cPl_in _ _ hl)
    have n2 := sumF_in (f := (fun n => cRt S hp n ls)) i (fun i hi => cRt_in _ _ _ _ hl)
    have n3 := cPl_in (i : Nat) ls hl
    have n4 := cRt_in S hp (i : Nat) ls hl
    rw [← ha] at n1
    rw [← hr] at n2
    refine k_il hK (q := 36)  dX8_mean_34 rfl (z := (i : Nat)) rfl (k_aln hK (q := 37)  dX8_mean_36 rfl (z := 32) rfl (k_gI hK (q := 40) (z := M 32 4) 0 dX8_mean_37 rfl rf_X8_86 rfl rfl rfl rfl ?_))
    refine k_cge hK (q := 43) (t := 69) dX8_mean_40 rfl rfl (fun h40 => ?_) (fun h40 => ?_)
    · exact absurd h40 (by omega)
    · refine k_iln hK (q := 44)  dX8_mean_43 rfl (z := al9) rfl (k_aln hK (q := 45)  dX8_mean_44 rfl (z := 32) rfl (k_il hK (q := 47)  dX8_mean_45 rfl (z := (i : Nat)) rfl (k_ic hK (q := 48)  dX8_mean_47 rfl (by decide) ?_)))
      refine k_iv2I hK (q := 51) dX8_mean_48 rfl rm_X8_183 rfl rfl (Nat.le_of_ble_eq_true rfl) (xm_count _ (up M 32 34 0) (i : Nat) 0 S hs9 hp h409 (by omega) cnt hcnt ls (SM_up hSM 0) hl hm) ?_
      rw [show cw S hp (i : Nat) 0 ls = cPl (i : Nat) ls from rfl]
      refine k_add hK (q := 52)  dX8_mean_51 rfl (z := al9 + (cPl (i : Nat) ls)) rfl (by omega) (k_isn hK (q := 53)  dX8_mean_52 rfl (L2 := [some (vR 32), some (vI side), some (vI (al9 + (cPl (i : Nat) ls))), some (vI ri), some (vI (i : Nat))]) (Nat.le_of_ble_eq_true rfl) rfl (k_iln hK (q := 54)  dX8_mean_53 rfl (z := ri) rfl (k_aln hK (q := 55)  dX8_mean_54 rfl (z := 32) rfl (k_il hK (q := 57)  dX8_mean_55 rfl (z := (i : Nat)) rfl (k_ic hK (q := 58)  dX8_mean_57 rfl (by decide) ?_)))))
      refine k_iv2I hK (q := 61) dX8_mean_58 rfl rm_X8_183 rfl rfl (Nat.le_of_ble_eq_true rfl) (xm_count _ (up M 32 34 0) (i : Nat) 1 S hs9 hp h409 (by omega) cnt hcnt ls (SM_up hSM 0) hl hm) ?_
      rw [show cw S hp (i : Nat) 1 ls = cRt S hp (i : Nat) ls from rfl]
      refine k_add hK (q := 62)  dX8_mean_61 rfl (z := ri + (cRt S hp (i : Nat) ls)) rfl (by omega) (k_isn hK (q := 63)  dX8_mean_62 rfl (L2 := [some (vR 32), some (vI side), some (vI (al9 + (cPl (i : Nat) ls))), some (vI (ri + (cRt S hp (i : Nat) ls))), some (vI (i : Nat))]) (Nat.le_of_ble_eq_true rfl) rfl (k_inc hK (q := 66)  dX8_mean_63 rfl (y := (i : Nat) + 1) (L2 := [some (vR 32), some (vI side), some (vI (al9 + (cPl (i : Nat) ls))), some (vI (ri + (cRt S hp (i : Nat) ls))), some (vI ((i : Nat) + 1))]) rfl rfl (by omega) rfl (k_goto hK (t := 34) dX8_mean_66 rfl ?_)))
      refine ih (i + 1) _ _ (by omega) ?_ ?_
      · simp only [sumF]; rw [ha]
      · simp only [sumF]; rw [hr]

set_option maxRecDepth 20000 in
set_option maxHeartbeats 2000000 in
theorem xm_mean (d t : Nat) (M : ra_M) (S : Sc) (cnt : Int) (hp ht : Int → Int) (ses : Int) (bx du : Int → Int) (al : Al8) (hI : IM S cnt hp ht ses bx du al M) (hw : WF t S cnt hp ht ses bx al) (side : Int) : Ex (d + 1) m_X8_mean [vR 32, vI side] M (fun r M2 => (¬ mThr S al side → r = some (vI (aMea S hp al side)) ∧ M2 32 34 = 0) ∧ (mThr S al side → r = some (vI 0) ∧ M2 32 34 = 1) ∧ IM S cnt hp ht ses bx du al M2 ∧ moF M M2) := by
  refine Ex_call (Nat.le_of_ble_eq_true rfl) (fun K hK => ?_)
  show K 0 [some (vR 32), some (vI side), none, none, none] [] M
  have hK : ra_Clo _ m_X8_mean cX8_mean _ K := hK
  have hI0 := hI
  obtain ⟨hs, ⟨g14, g40, g41⟩, ⟨g15, g35, g36⟩, hF, hL⟩ := hI
  obtain ⟨hS, hc, hnn, hh, hse, hbx, hal⟩ := hw
  obtain ⟨e5, e6, e7, e8, e9⟩ := scM_e hs
  obtain ⟨a2, a3, a4, a5, a6⟩ := scM_a hs
  have hs0 := hS.1
  have hs1 := hS.2.1
  have hs2 := hS.2.2.1
  have hk9 := mknown hL
  refine k_aln hK (q := 1)  dX8_mean_0 rfl (z := 32) rfl (k_ic hK (q := 2)  dX8_mean_1 rfl (by decide) (k_pI hK (q := 5) (M2 := up M 32 34 0) dX8_mean_2 rfl rp_X8_83 rfl rfl rfl (k_iln hK (q := 6)  dX8_mean_5 rfl (z := side) rfl ?_)))
  refine k_ifeq hK (q := 9) (t := 17) dX8_mean_6 rfl rfl (fun h6 => ?_) (fun h6 => ?_)
  · refine k_aln hK (q := 18)  dX8_mean_17 rfl (z := 32) rfl (k_gI hK (q := 21) (z := M 32 27) 1 dX8_mean_18 rfl rf_X8_104 rfl rfl rfl rfl ?_)
    refine k_ifne hK (q := 24) (t := 27) dX8_mean_21 rfl rfl (fun h21 => ?_) (fun h21 => ?_)
    · obtain ⟨q, rfl, hSM⟩ : ∃ q, al = some q ∧ SM M q.2 := by
        rcases hk9 with h | h
        · exact absurd h.1 (by omega)
        · exact h.2
      have hA9 := hal q rfl
      have hl9 := AlS_len hA9
      have hm9 := AlS_mem hS hA9
      have y33 := hSM.1
      have n1 := sumF_in (f := fun n => cPl n q.2) (S 0 0).toNat (fun i hi => cPl_in _ _ hl9)
      have n2 := sumF_in (f := fun n => cRt S hp n q.2) (S 0 0).toNat (fun i hi => cRt_in _ _ _ _ hl9)
      refine k_ic hK (q := 28)  dX8_mean_27 rfl (by decide) (k_isn hK (q := 29)  dX8_mean_28 rfl (L2 := [some (vR 32), some (vI side), some (vI 0), none, none]) (Nat.le_of_ble_eq_true rfl) rfl (k_ic hK (q := 30)  dX8_mean_29 rfl (by decide) (k_isn hK (q := 31)  dX8_mean_30 rfl (L2 := [some (vR 32), some (vI side), some (vI 0), some (vI 0), none]) (Nat.le_of_ble_eq_true rfl) rfl (k_ic hK (q := 32)  dX8_mean_31 rfl (by decide) (k_is hK (q := 34)  dX8_mean_32 rfl (L2 := [some (vR 32), some (vI side), some (vI 0), some (vI 0), some (vI 0)]) (Nat.le_of_ble_eq_true rfl) rfl ?_)))))
      have J69 : ∀ z, K 69 [some (vR 32), some (vI side), some (vI (sumF (fun n => cPl n q.2) (S 0 0).toNat)), some (vI (sumF (fun n => cRt S hp n q.2) (S 0 0).toNat)), some (vI z)] [] (up M 32 34 0) := by
        intro z
        refine k_iln hK (q := 70)  dX8_mean_69 rfl (z := (sumF (fun n => cPl n q.2) (S 0 0).toNat)) rfl ?_
        refine k_ifne hK (q := 73) (t := 80) dX8_mean_70 rfl rfl (fun h70 => ?_) (fun h70 => ?_)
        · have hg1 : 1 ≤ ((Nat.gcd (sumF (fun n => cRt S hp n q.2) (S 0 0).toNat).toNat (sumF (fun n => cPl n q.2) (S 0 0).toNat).toNat : Nat) : Int) := by
            have := Nat.gcd_pos_of_pos_right (sumF (fun n => cRt S hp n q.2) (S 0 0).toNat).toNat (show 0 < (sumF (fun n => cPl n q.2) (S 0 0).toNat).toNat by omega)
            omega
          generalize hG : ((Nat.gcd (sumF (fun n => cRt S hp n q.2) (S 0 0).toNat).toNat (sumF (fun n => cPl n q.2) (S 0 0).toNat).toNat : Nat) : Int) = g at hg1
          have d1 : 0 ≤ (sumF (fun n => cRt S hp n q.2) (S 0 0).toNat).tdiv g ∧ (sumF (fun n => cRt S hp n q.2) (S 0 0).toNat).tdiv g ≤ sumF (fun n => cRt S hp n q.2) (S 0 0).toNat := ⟨Int.tdiv_nonneg (by omega) (by omega), Int.tdiv_le_self g (by omega)⟩
          have d2 : 0 ≤ (sumF (fun n => cPl n q.2) (S 0 0).toNat).tdiv g ∧ (sumF (fun n => cPl n q.2) (S 0 0).toNat).tdiv g ≤ sumF (fun n => cPl n q.2) (S 0 0).toNat := ⟨Int.tdiv_nonneg (by omega) (by omega), Int.tdiv_le_self g (by omega)⟩
          refine k_iln hK (q := 81)  dX8_mean_80 rfl (z := (sumF (fun n => cRt S hp n q.2) (S 0 0).toNat)) rfl (k_iln hK (q := 82)  dX8_mean_81 rfl (z := (sumF (fun n => cPl n q.2) (S 0 0).toNat)) rfl ?_)
          refine k_st2I hK (q := 85) dX8_mean_82 rfl rm_X8_154 (Nat.le_of_ble_eq_true rfl) (xm_common _ (up M 32 34 0) (sumF (fun n => cRt S hp n q.2) (S 0 0).toNat) (sumF (fun n => cPl n q.2) (S 0 0).toNat) (by omega) (by omega)) ?_
          rw [hG]
          refine k_is hK (q := 87)  dX8_mean_85 rfl (L2 := [some (vR 32), some (vI side), some (vI (sumF (fun n => cPl n q.2) (S 0 0).toNat)), some (vI (sumF (fun n => cRt S hp n q.2) (S 0 0).toNat)), some (vI g)]) (Nat.le_of_ble_eq_true rfl) rfl (k_iln hK (q := 88)  dX8_mean_87 rfl (z := side) rfl ?_)
          refine k_ifne hK (q := 91) (t := 98) dX8_mean_88 rfl rfl (fun h88 => ?_) (fun h88 => ?_)
          · refine k_iln hK (q := 99)  dX8_mean_98 rfl (z := (sumF (fun n => cPl n q.2) (S 0 0).toNat)) rfl (k_il hK (q := 101)  dX8_mean_99 rfl (z := g) rfl (k_div hK (q := 102)  dX8_mean_101 rfl (z := Int.tdiv (sumF (fun n => cPl n q.2) (S 0 0).toNat) g) (by omega) rfl (by omega) ?_))
            refine k_ir hK dX8_mean_102 rfl ?_
            refine ⟨fun _ => ⟨?_, by rw [up_same]⟩, fun h => ?_, IM_f hI0 (frM_fd (frM_refl [] [34] _) _ (by decide)) (by simp) (by decide), moF_M (frM_fd (frM_refl [] [34] _) _ (by decide)) (by simp)⟩
            · unfold aMea
              rw [if_neg (by omega)]
              simp only
              unfold low
              rw [hG]
              first | rw [if_pos h88, fd_a (by omega) (by omega)] | rw [if_neg h88, fd_a (by omega) (by omega)]
            · obtain ⟨_, q2, hq, h3⟩ := h
              cases hq
              exact absurd h3 h70
          · refine k_iln hK (q := 92)  dX8_mean_91 rfl (z := (sumF (fun n => cRt S hp n q.2) (S 0 0).toNat)) rfl (k_il hK (q := 94)  dX8_mean_92 rfl (z := g) rfl (k_div hK (q := 95)  dX8_mean_94 rfl (z := Int.tdiv (sumF (fun n => cRt S hp n q.2) (S 0 0).toNat) g) (by omega) rfl (by omega) (k_goto hK (t := 102) dX8_mean_95 rfl ?_)))
            refine k_ir hK dX8_mean_102 rfl ?_
            refine ⟨fun _ => ⟨?_, by rw [up_same]⟩, fun h => ?_, IM_f hI0 (frM_fd (frM_refl [] [34] _) _ (by decide)) (by simp) (by decide), moF_M (frM_fd (frM_refl [] [34] _) _ (by decide)) (by simp)⟩
            · unfold aMea
              rw [if_neg (by omega)]
              simp only
              unfold low
              rw [hG]
              first | rw [if_pos h88, fd_a (by omega) (by omega)] | rw [if_neg h88, fd_a (by omega) (by omega)]
            · obtain ⟨_, q2, hq, h3⟩ := h
              cases hq
              exact absurd h3 h70
        · refine k_aln hK (q := 74)  dX8_mean_73 rfl (z := 32) rfl (k_ic hK (q := 75)  dX8_mean_74 rfl (by decide) (k_pI hK (q := 78) (M2 := up (up M 32 34 0) 32 34 1) dX8_mean_75 rfl rp_X8_83 rfl rfl rfl (k_ic hK (q := 79)  dX8_mean_78 rfl (by decide) ?_)))
          refine k_ir hK dX8_mean_79 rfl ?_
          exact ⟨fun h => absurd ⟨by omega, q, rfl, h70⟩ h, fun _ => ⟨rfl, by rw [up_same]⟩, IM_f hI0 (frM_fd (frM_fd (frM_refl [] [34] _) _ (by decide)) _ (by decide)) (by simp) (by decide), moF_M (frM_fd (frM_fd (frM_refl [] [34] _) _ (by decide)) _ (by decide)) (by simp)⟩
      exact mean_loop hK hS hs g40 hc.2 hSM hl9 hm9 J69 (S 0 0).toNat 0 0 0 (by omega) rfl rfl
    · have hal0 : al = none := by
        rcases hk9 with h | h
        · exact h.2
        · exact absurd h.1 (by omega)
      subst hal0
      refine k_bp hK (q := 26)  dX8_mean_24 rfl (by decide) ?_
      refine k_ir hK dX8_mean_26 rfl ?_
      refine ⟨fun _ => ⟨?_, by rw [up_same]⟩, fun q => (by obtain ⟨_, q2, hq, _⟩ := q; cases hq), IM_f hI0 (frM_fd (frM_refl [] [34] _) _ (by decide)) (by simp) (by decide), moF_M (frM_fd (frM_refl [] [34] _) _ (by decide)) (by simp)⟩
      unfold aMea
      rw [if_neg (by omega)]
  · refine k_iln hK (q := 10)  dX8_mean_9 rfl (z := side) rfl (k_ic hK (q := 11)  dX8_mean_10 rfl (by decide) ?_)
    refine k_ceq hK (q := 14) (t := 17) dX8_mean_11 rfl rfl (fun h11 => ?_) (fun h11 => ?_)
    · refine k_aln hK (q := 18)  dX8_mean_17 rfl (z := 32) rfl (k_gI hK (q := 21) (z := M 32 27) 1 dX8_mean_18 rfl rf_X8_104 rfl rfl rfl rfl ?_)
      refine k_ifne hK (q := 24) (t := 27) dX8_mean_21 rfl rfl (fun h21 => ?_) (fun h21 => ?_)
      · obtain ⟨q, rfl, hSM⟩ : ∃ q, al = some q ∧ SM M q.2 := by
          rcases hk9 with h | h
          · exact absurd h.1 (by omega)
          · exact h.2
        have hA9 := hal q rfl
        have hl9 := AlS_len hA9
        have hm9 := AlS_mem hS hA9
        have y33 := hSM.1
        have n1 := sumF_in (f := fun n => cPl n q.2) (S 0 0).toNat (fun i hi => cPl_in _ _ hl9)
        have n2 := sumF_in (f := fun n => cRt S hp n q.2) (S 0 0).toNat (fun i hi => cRt_in _ _ _ _ hl9)
        refine k_ic hK (q := 28)  dX8_mean_27 rfl (by decide) (k_isn hK (q := 29)  dX8_mean_28 rfl (L2 := [some (vR 32), some (vI side), some (vI 0), none, none]) (Nat.le_of_ble_eq_true rfl) rfl (k_ic hK (q := 30)  dX8_mean_29 rfl (by decide) (k_isn hK (q := 31)  dX8_mean_30 rfl (L2 := [some (vR 32), some (vI side), some (vI 0), some (vI 0), none]) (Nat.le_of_ble_eq_true rfl) rfl (k_ic hK (q := 32)  dX8_mean_31 rfl (by decide) (k_is hK (q := 34)  dX8_mean_32 rfl (L2 := [some (vR 32), some (vI side), some (vI 0), some (vI 0), some (vI 0)]) (Nat.le_of_ble_eq_true rfl) rfl ?_)))))
        have J69 : ∀ z, K 69 [some (vR 32), some (vI side), some (vI (sumF (fun n => cPl n q.2) (S 0 0).toNat)), some (vI (sumF (fun n => cRt S hp n q.2) (S 0 0).toNat)), some (vI z)] [] (up M 32 34 0) := by
          intro z
          refine k_iln hK (q := 70)  dX8_mean_69 rfl (z := (sumF (fun n => cPl n q.2) (S 0 0).toNat)) rfl ?_
          refine k_ifne hK (q := 73) (t := 80) dX8_mean_70 rfl rfl (fun h70 => ?_) (fun h70 => ?_)
          · have hg1 : 1 ≤ ((Nat.gcd (sumF (fun n => cRt S hp n q.2) (S 0 0).toNat).toNat (sumF (fun n => cPl n q.2) (S 0 0).toNat).toNat : Nat) : Int) := by
              have := Nat.gcd_pos_of_pos_right (sumF (fun n => cRt S hp n q.2) (S 0 0).toNat).toNat (show 0 < (sumF (fun n => cPl n q.2) (S 0 0).toNat).toNat by omega)
              omega
            generalize hG : ((Nat.gcd (sumF (fun n => cRt S hp n q.2) (S 0 0).toNat).toNat (sumF (fun n => cPl n q.2) (S 0 0).toNat).toNat : Nat) : Int) = g at hg1
            have d1 : 0 ≤ (sumF (fun n => cRt S hp n q.2) (S 0 0).toNat).tdiv g ∧ (sumF (fun n => cRt S hp n q.2) (S 0 0).toNat).tdiv g ≤ sumF (fun n => cRt S hp n q.2) (S 0 0).toNat := ⟨Int.tdiv_nonneg (by omega) (by omega), Int.tdiv_le_self g (by omega)⟩
            have d2 : 0 ≤ (sumF (fun n => cPl n q.2) (S 0 0).toNat).tdiv g ∧ (sumF (fun n => cPl n q.2) (S 0 0).toNat).tdiv g ≤ sumF (fun n => cPl n q.2) (S 0 0).toNat := ⟨Int.tdiv_nonneg (by omega) (by omega), Int.tdiv_le_self g (by omega)⟩
            refine k_iln hK (q := 81)  dX8_mean_80 rfl (z := (sumF (fun n => cRt S hp n q.2) (S 0 0).toNat)) rfl (k_iln hK (q := 82)  dX8_mean_81 rfl (z := (sumF (fun n => cPl n q.2) (S 0 0).toNat)) rfl ?_)
            refine k_st2I hK (q := 85) dX8_mean_82 rfl rm_X8_154 (Nat.le_of_ble_eq_true rfl) (xm_common _ (up M 32 34 0) (sumF (fun n => cRt S hp n q.2) (S 0 0).toNat) (sumF (fun n => cPl n q.2) (S 0 0).toNat) (by omega) (by omega)) ?_
            rw [hG]
            refine k_is hK (q := 87)  dX8_mean_85 rfl (L2 := [some (vR 32), some (vI side), some (vI (sumF (fun n => cPl n q.2) (S 0 0).toNat)), some (vI (sumF (fun n => cRt S hp n q.2) (S 0 0).toNat)), some (vI g)]) (Nat.le_of_ble_eq_true rfl) rfl (k_iln hK (q := 88)  dX8_mean_87 rfl (z := side) rfl ?_)
            refine k_ifne hK (q := 91) (t := 98) dX8_mean_88 rfl rfl (fun h88 => ?_) (fun h88 => ?_)
            · refine k_iln hK (q := 99)  dX8_mean_98 rfl (z := (sumF (fun n => cPl n q.2) (S 0 0).toNat)) rfl (k_il hK (q := 101)  dX8_mean_99 rfl (z := g) rfl (k_div hK (q := 102)  dX8_mean_101 rfl (z := Int.tdiv (sumF (fun n => cPl n q.2) (S 0 0).toNat) g) (by omega) rfl (by omega) ?_))
              refine k_ir hK dX8_mean_102 rfl ?_
              refine ⟨fun _ => ⟨?_, by rw [up_same]⟩, fun h => ?_, IM_f hI0 (frM_fd (frM_refl [] [34] _) _ (by decide)) (by simp) (by decide), moF_M (frM_fd (frM_refl [] [34] _) _ (by decide)) (by simp)⟩
              · unfold aMea
                rw [if_neg (by omega)]
                simp only
                unfold low
                rw [hG]
                first | rw [if_pos h88, fd_a (by omega) (by omega)] | rw [if_neg h88, fd_a (by omega) (by omega)]
              · obtain ⟨_, q2, hq, h3⟩ := h
                cases hq
                exact absurd h3 h70
            · refine k_iln hK (q := 92)  dX8_mean_91 rfl (z := (sumF (fun n => cRt S hp n q.2) (S 0 0).toNat)) rfl (k_il hK (q := 94)  dX8_mean_92 rfl (z := g) rfl (k_div hK (q := 95)  dX8_mean_94 rfl (z := Int.tdiv (sumF (fun n => cRt S hp n q.2) (S 0 0).toNat) g) (by omega) rfl (by omega) (k_goto hK (t := 102) dX8_mean_95 rfl ?_)))
              refine k_ir hK dX8_mean_102 rfl ?_
              refine ⟨fun _ => ⟨?_, by rw [up_same]⟩, fun h => ?_, IM_f hI0 (frM_fd (frM_refl [] [34] _) _ (by decide)) (by simp) (by decide), moF_M (frM_fd (frM_refl [] [34] _) _ (by decide)) (by simp)⟩
              · unfold aMea
                rw [if_neg (by omega)]
                simp only
                unfold low
                rw [hG]
                first | rw [if_pos h88, fd_a (by omega) (by omega)] | rw [if_neg h88, fd_a (by omega) (by omega)]
              · obtain ⟨_, q2, hq, h3⟩ := h
                cases hq
                exact absurd h3 h70
          · refine k_aln hK (q := 74)  dX8_mean_73 rfl (z := 32) rfl (k_ic hK (q := 75)  dX8_mean_74 rfl (by decide) (k_pI hK (q := 78) (M2 := up (up M 32 34 0) 32 34 1) dX8_mean_75 rfl rp_X8_83 rfl rfl rfl (k_ic hK (q := 79)  dX8_mean_78 rfl (by decide) ?_)))
            refine k_ir hK dX8_mean_79 rfl ?_
            exact ⟨fun h => absurd ⟨by omega, q, rfl, h70⟩ h, fun _ => ⟨rfl, by rw [up_same]⟩, IM_f hI0 (frM_fd (frM_fd (frM_refl [] [34] _) _ (by decide)) _ (by decide)) (by simp) (by decide), moF_M (frM_fd (frM_fd (frM_refl [] [34] _) _ (by decide)) _ (by decide)) (by simp)⟩
        exact mean_loop hK hS hs g40 hc.2 hSM hl9 hm9 J69 (S 0 0).toNat 0 0 0 (by omega) rfl rfl
      · have hal0 : al = none := by
          rcases hk9 with h | h
          · exact h.2
          · exact absurd h.1 (by omega)
        subst hal0
        refine k_bp hK (q := 26)  dX8_mean_24 rfl (by decide) ?_
        refine k_ir hK dX8_mean_26 rfl ?_
        refine ⟨fun _ => ⟨?_, by rw [up_same]⟩, fun q => (by obtain ⟨_, q2, hq, _⟩ := q; cases hq), IM_f hI0 (frM_fd (frM_refl [] [34] _) _ (by decide)) (by simp) (by decide), moF_M (frM_fd (frM_refl [] [34] _) _ (by decide)) (by simp)⟩
        unfold aMea
        rw [if_neg (by omega)]
    · refine k_bp hK (q := 16)  dX8_mean_14 rfl (by decide) ?_
      refine k_ir hK dX8_mean_16 rfl ?_
      refine ⟨fun _ => ⟨?_, by rw [up_same]⟩, fun q => absurd q.1 (by omega), IM_f hI0 (frM_fd (frM_refl [] [34] _) _ (by decide)) (by simp) (by decide), moF_M (frM_fd (frM_refl [] [34] _) _ (by decide)) (by simp)⟩
      unfold aMea
      rw [if_pos (by omega)]
